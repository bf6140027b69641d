/-! PURE: the law's loop -/
def lawB (L : Nat) (xs : Nat → Int32) : (Int32 → MM Int32) → Int32 → MM Int32 := fun self1 s2 =>
  (if ((Int32.ofNat L) - 6) < s2 then
  pr 1
  else
  bd (lx L xs s2) fun v3 =>
  jn (fun (a5 : Unit) =>
  lt (s2 + 6) fun y6 =>
  self1 y6) (fun j4 =>
  swt (v3 &&& 63) 0 [lb0 L xs s2 j4, lb1 L xs s2 j4, lb2 L xs s2 j4, lb3 L xs s2 j4, lb4 L xs s2 j4, lb5 L xs s2 j4, lb6 L xs s2 j4, lb7 L xs s2 j4, lb8 L xs s2 j4, lb9 L xs s2 j4, lb10 L xs s2 j4, lb11 L xs s2 j4, lb12 L xs s2 j4, lb13 L xs s2 j4, lb14 L xs s2 j4, lb15 L xs s2 j4, lb16 L xs s2 j4, lb17 L xs s2 j4, lb18 L xs s2 j4, lb19 L xs s2 j4, lb20 L xs s2 j4, lb21 L xs s2 j4, lb22 L xs s2 j4, lb23 L xs s2 j4, lb24 L xs s2 j4, lb25 L xs s2 j4, lb26 L xs s2 j4, lb27 L xs s2 j4, lb28 L xs s2 j4, lb29 L xs s2 j4, lb30 L xs s2 j4, lb31 L xs s2 j4, lb32 L xs s2 j4, lb33 L xs s2 j4, lb34 L xs s2 j4, lb35 L xs s2 j4, lb36 L xs s2 j4, lb37 L xs s2 j4, lb38 L xs s2 j4] (j4 ())))
theorem law_eq (L : Nat) (xs : Nat → Int32) : gLaw L xs = loopC 100000 (lawB L xs) 0 := rfl
theorem and63 (x : Int32) : ∃ n : Nat, n < 64 ∧ x &&& 63 = nI n := by
  have h : (x &&& 63).toBitVec.toNat ≤ 63 := by
    rw [Int32.toBitVec_and, BitVec.toNat_and]
    exact Nat.and_le_right
  refine ⟨(x &&& 63).toBitVec.toNat, by omega, ?_⟩
  apply Int32.toBitVec_inj.mp
  show _ = BitVec.ofNat 32 _
  rw [BitVec.ofNat_toNat, BitVec.setWidth_eq]
set_option maxHeartbeats 4000000 in
theorem law_step (h_text : ∀ x0 : Int32, OpP (gX10_text x0) (gX11_text x0)) (h_turnings : ∀ x0 x1 : Int32, OpP (gX10_turnings x0 x1) (gX11_turnings x0 x1)) (h_table : ∀ x0 x1 x2 : Int32, OpP (gX10_table x0 x1 x2) (gX11_table x0 x1 x2)) (h_pages : ∀ x0 x1 : Int32, OpP (gX10_pages x0 x1) (gX11_pages x0 x1)) (h_truth : ∀ x0 x1 : Int32, OpP (gX10_truth x0 x1) (gX11_truth x0 x1)) (h_game : ∀ x0 x1 : Int32, OpP (gX10_game x0 x1) (gX11_game x0 x1)) (h_image : ∀ x0 : Int32, OpP (gX10_image x0) (gX11_image x0)) {L a : Nat} {xs : Nat → Int32} {S : Bk} (hL : L ≤ 3072) (ha : a + 6 ≤ L) (h : RS2 S) : ∃ S', RS2 S' ∧ ∀ f, lawB L xs f (nI a) S = f (nI (a + 6)) S' := by
  obtain ⟨n, hn, en⟩ := and63 (xs a)
  have c1 : ¬ (Int32.ofNat L - 6 : Int32) < nI a := by
    show ¬ nI L - nI 6 < nI a
    rw [pk_sub (by omega)]
    exact fun z => by have := (nI_ltI (by omega) (by omega)).mp z; omega
  have e6 : (nI a + 6 : Int32) = nI (a + 6) := by
    rw [show (6 : Int32) = nI 6 from rfl, nI_add]
  have hB : ∀ f, lawB L xs f (nI a) = ([lb0 L xs (nI a) (fun _ => f (nI (a + 6))), lb1 L xs (nI a) (fun _ => f (nI (a + 6))), lb2 L xs (nI a) (fun _ => f (nI (a + 6))), lb3 L xs (nI a) (fun _ => f (nI (a + 6))), lb4 L xs (nI a) (fun _ => f (nI (a + 6))), lb5 L xs (nI a) (fun _ => f (nI (a + 6))), lb6 L xs (nI a) (fun _ => f (nI (a + 6))), lb7 L xs (nI a) (fun _ => f (nI (a + 6))), lb8 L xs (nI a) (fun _ => f (nI (a + 6))), lb9 L xs (nI a) (fun _ => f (nI (a + 6))), lb10 L xs (nI a) (fun _ => f (nI (a + 6))), lb11 L xs (nI a) (fun _ => f (nI (a + 6))), lb12 L xs (nI a) (fun _ => f (nI (a + 6))), lb13 L xs (nI a) (fun _ => f (nI (a + 6))), lb14 L xs (nI a) (fun _ => f (nI (a + 6))), lb15 L xs (nI a) (fun _ => f (nI (a + 6))), lb16 L xs (nI a) (fun _ => f (nI (a + 6))), lb17 L xs (nI a) (fun _ => f (nI (a + 6))), lb18 L xs (nI a) (fun _ => f (nI (a + 6))), lb19 L xs (nI a) (fun _ => f (nI (a + 6))), lb20 L xs (nI a) (fun _ => f (nI (a + 6))), lb21 L xs (nI a) (fun _ => f (nI (a + 6))), lb22 L xs (nI a) (fun _ => f (nI (a + 6))), lb23 L xs (nI a) (fun _ => f (nI (a + 6))), lb24 L xs (nI a) (fun _ => f (nI (a + 6))), lb25 L xs (nI a) (fun _ => f (nI (a + 6))), lb26 L xs (nI a) (fun _ => f (nI (a + 6))), lb27 L xs (nI a) (fun _ => f (nI (a + 6))), lb28 L xs (nI a) (fun _ => f (nI (a + 6))), lb29 L xs (nI a) (fun _ => f (nI (a + 6))), lb30 L xs (nI a) (fun _ => f (nI (a + 6))), lb31 L xs (nI a) (fun _ => f (nI (a + 6))), lb32 L xs (nI a) (fun _ => f (nI (a + 6))), lb33 L xs (nI a) (fun _ => f (nI (a + 6))), lb34 L xs (nI a) (fun _ => f (nI (a + 6))), lb35 L xs (nI a) (fun _ => f (nI (a + 6))), lb36 L xs (nI a) (fun _ => f (nI (a + 6))), lb37 L xs (nI a) (fun _ => f (nI (a + 6))), lb38 L xs (nI a) (fun _ => f (nI (a + 6)))] : List (MM Int32)).getD n (f (nI (a + 6))) := fun f => by
    unfold lawB
    rw [if_neg c1, blx0 hL (by omega), en]
    simp only [jn_eq]
    rw [e_swt0 (by omega), e6]
    rfl
  have hc : n = 0 ∨ n = 1 ∨ n = 2 ∨ n = 3 ∨ n = 4 ∨ n = 5 ∨ n = 6 ∨ n = 7 ∨ n = 8 ∨ n = 9 ∨ n = 10 ∨ n = 11 ∨ n = 12 ∨ n = 13 ∨ n = 14 ∨ n = 15 ∨ n = 16 ∨ n = 17 ∨ n = 18 ∨ n = 19 ∨ n = 20 ∨ n = 21 ∨ n = 22 ∨ n = 23 ∨ n = 24 ∨ n = 25 ∨ n = 26 ∨ n = 27 ∨ n = 28 ∨ n = 29 ∨ n = 30 ∨ n = 31 ∨ n = 32 ∨ n = 33 ∨ n = 34 ∨ n = 35 ∨ n = 36 ∨ n = 37 ∨ n = 38 ∨ n ≥ 39 := by omega
  obtain rfl | rfl | rfl | rfl | rfl | rfl | rfl | rfl | rfl | rfl | rfl | rfl | rfl | rfl | rfl | rfl | rfl | rfl | rfl | rfl | rfl | rfl | rfl | rfl | rfl | rfl | rfl | rfl | rfl | rfl | rfl | rfl | rfl | rfl | rfl | rfl | rfl | rfl | rfl | hc := hc
  · obtain ⟨S', h1, h2⟩ := lb0_go (xs := xs) hL ha h
    exact ⟨S', h1, fun f => by rw [hB f]; exact h2 (fun _ => f (nI (a + 6)))⟩
  · obtain ⟨S', h1, h2⟩ := lb1_go (xs := xs) hL ha h
    exact ⟨S', h1, fun f => by rw [hB f]; exact h2 (fun _ => f (nI (a + 6)))⟩
  · obtain ⟨S', h1, h2⟩ := lb2_go (xs := xs) hL ha h
    exact ⟨S', h1, fun f => by rw [hB f]; exact h2 (fun _ => f (nI (a + 6)))⟩
  · obtain ⟨S', h1, h2⟩ := lb3_go (xs := xs) hL ha h
    exact ⟨S', h1, fun f => by rw [hB f]; exact h2 (fun _ => f (nI (a + 6)))⟩
  · obtain ⟨S', h1, h2⟩ := lb4_go (xs := xs) hL ha h
    exact ⟨S', h1, fun f => by rw [hB f]; exact h2 (fun _ => f (nI (a + 6)))⟩
  · obtain ⟨S', h1, h2⟩ := lb5_go (xs := xs) hL ha h
    exact ⟨S', h1, fun f => by rw [hB f]; exact h2 (fun _ => f (nI (a + 6)))⟩
  · obtain ⟨S', h1, h2⟩ := lb6_go (xs := xs) hL ha h
    exact ⟨S', h1, fun f => by rw [hB f]; exact h2 (fun _ => f (nI (a + 6)))⟩
  · obtain ⟨S', h1, h2⟩ := lb7_go (xs := xs) hL ha h
    exact ⟨S', h1, fun f => by rw [hB f]; exact h2 (fun _ => f (nI (a + 6)))⟩
  · obtain ⟨S', h1, h2⟩ := lb8_go (xs := xs) hL ha h
    exact ⟨S', h1, fun f => by rw [hB f]; exact h2 (fun _ => f (nI (a + 6)))⟩
  · obtain ⟨S', h1, h2⟩ := lb9_go (xs := xs) hL ha h h_text
    exact ⟨S', h1, fun f => by rw [hB f]; exact h2 (fun _ => f (nI (a + 6)))⟩
  · obtain ⟨S', h1, h2⟩ := lb10_go (xs := xs) hL ha h
    exact ⟨S', h1, fun f => by rw [hB f]; exact h2 (fun _ => f (nI (a + 6)))⟩
  · obtain ⟨S', h1, h2⟩ := lb11_go (xs := xs) hL ha h
    exact ⟨S', h1, fun f => by rw [hB f]; exact h2 (fun _ => f (nI (a + 6)))⟩
  · obtain ⟨S', h1, h2⟩ := lb12_go (xs := xs) hL ha h
    exact ⟨S', h1, fun f => by rw [hB f]; exact h2 (fun _ => f (nI (a + 6)))⟩
  · obtain ⟨S', h1, h2⟩ := lb13_go (xs := xs) hL ha h
    exact ⟨S', h1, fun f => by rw [hB f]; exact h2 (fun _ => f (nI (a + 6)))⟩
  · obtain ⟨S', h1, h2⟩ := lb14_go (xs := xs) hL ha h
    exact ⟨S', h1, fun f => by rw [hB f]; exact h2 (fun _ => f (nI (a + 6)))⟩
  · obtain ⟨S', h1, h2⟩ := lb15_go (xs := xs) hL ha h
    exact ⟨S', h1, fun f => by rw [hB f]; exact h2 (fun _ => f (nI (a + 6)))⟩
  · obtain ⟨S', h1, h2⟩ := lb16_go (xs := xs) hL ha h
    exact ⟨S', h1, fun f => by rw [hB f]; exact h2 (fun _ => f (nI (a + 6)))⟩
  · obtain ⟨S', h1, h2⟩ := lb17_go (xs := xs) hL ha h
    exact ⟨S', h1, fun f => by rw [hB f]; exact h2 (fun _ => f (nI (a + 6)))⟩
  · obtain ⟨S', h1, h2⟩ := lb18_go (xs := xs) hL ha h
    exact ⟨S', h1, fun f => by rw [hB f]; exact h2 (fun _ => f (nI (a + 6)))⟩
  · obtain ⟨S', h1, h2⟩ := lb19_go (xs := xs) hL ha h h_turnings
    exact ⟨S', h1, fun f => by rw [hB f]; exact h2 (fun _ => f (nI (a + 6)))⟩
  · obtain ⟨S', h1, h2⟩ := lb20_go (xs := xs) hL ha h
    exact ⟨S', h1, fun f => by rw [hB f]; exact h2 (fun _ => f (nI (a + 6)))⟩
  · obtain ⟨S', h1, h2⟩ := lb21_go (xs := xs) hL ha h
    exact ⟨S', h1, fun f => by rw [hB f]; exact h2 (fun _ => f (nI (a + 6)))⟩
  · obtain ⟨S', h1, h2⟩ := lb22_go (xs := xs) hL ha h
    exact ⟨S', h1, fun f => by rw [hB f]; exact h2 (fun _ => f (nI (a + 6)))⟩
  · obtain ⟨S', h1, h2⟩ := lb23_go (xs := xs) hL ha h
    exact ⟨S', h1, fun f => by rw [hB f]; exact h2 (fun _ => f (nI (a + 6)))⟩
  · obtain ⟨S', h1, h2⟩ := lb24_go (xs := xs) hL ha h
    exact ⟨S', h1, fun f => by rw [hB f]; exact h2 (fun _ => f (nI (a + 6)))⟩
  · obtain ⟨S', h1, h2⟩ := lb25_go (xs := xs) hL ha h
    exact ⟨S', h1, fun f => by rw [hB f]; exact h2 (fun _ => f (nI (a + 6)))⟩
  · obtain ⟨S', h1, h2⟩ := lb26_go (xs := xs) hL ha h h_table
    exact ⟨S', h1, fun f => by rw [hB f]; exact h2 (fun _ => f (nI (a + 6)))⟩
  · obtain ⟨S', h1, h2⟩ := lb27_go (xs := xs) hL ha h
    exact ⟨S', h1, fun f => by rw [hB f]; exact h2 (fun _ => f (nI (a + 6)))⟩
  · obtain ⟨S', h1, h2⟩ := lb28_go (xs := xs) hL ha h h_pages
    exact ⟨S', h1, fun f => by rw [hB f]; exact h2 (fun _ => f (nI (a + 6)))⟩
  · obtain ⟨S', h1, h2⟩ := lb29_go (xs := xs) hL ha h h_truth
    exact ⟨S', h1, fun f => by rw [hB f]; exact h2 (fun _ => f (nI (a + 6)))⟩
  · obtain ⟨S', h1, h2⟩ := lb30_go (xs := xs) hL ha h
    exact ⟨S', h1, fun f => by rw [hB f]; exact h2 (fun _ => f (nI (a + 6)))⟩
  · obtain ⟨S', h1, h2⟩ := lb31_go (xs := xs) hL ha h
    exact ⟨S', h1, fun f => by rw [hB f]; exact h2 (fun _ => f (nI (a + 6)))⟩
  · obtain ⟨S', h1, h2⟩ := lb32_go (xs := xs) hL ha h
    exact ⟨S', h1, fun f => by rw [hB f]; exact h2 (fun _ => f (nI (a + 6)))⟩
  · obtain ⟨S', h1, h2⟩ := lb33_go (xs := xs) hL ha h
    exact ⟨S', h1, fun f => by rw [hB f]; exact h2 (fun _ => f (nI (a + 6)))⟩
  · obtain ⟨S', h1, h2⟩ := lb34_go (xs := xs) hL ha h
    exact ⟨S', h1, fun f => by rw [hB f]; exact h2 (fun _ => f (nI (a + 6)))⟩
  · obtain ⟨S', h1, h2⟩ := lb35_go (xs := xs) hL ha h h_game
    exact ⟨S', h1, fun f => by rw [hB f]; exact h2 (fun _ => f (nI (a + 6)))⟩
  · obtain ⟨S', h1, h2⟩ := lb36_go (xs := xs) hL ha h
    exact ⟨S', h1, fun f => by rw [hB f]; exact h2 (fun _ => f (nI (a + 6)))⟩
  · obtain ⟨S', h1, h2⟩ := lb37_go (xs := xs) hL ha h h_image
    exact ⟨S', h1, fun f => by rw [hB f]; exact h2 (fun _ => f (nI (a + 6)))⟩
  · obtain ⟨S', h1, h2⟩ := lb38_go (xs := xs) hL ha h
    exact ⟨S', h1, fun f => by rw [hB f]; exact h2 (fun _ => f (nI (a + 6)))⟩
  · refine ⟨S, h, fun f => ?_⟩
    rw [hB f, List.getD_eq_getElem?_getD, List.getElem?_eq_none (by show 39 ≤ n; exact hc)]; rfl
theorem RS2_start : RS2 S00 := by
  have e : (fun i => S00 (rMo i)) = sb_X11_init := by
    funext i
    show (if 211 + i < 211 then sb_X10_init (211 + i) else sb_X11_init (211 + i - 211)) = _
    rw [if_neg (by omega), Nat.add_sub_cancel_left]
  have eA : ∀ j, j < 211 → S00 (rKL j) = sb_X10_init j := fun j hj => if_pos hj
  unfold RS2
  rw [e]
  exact R_XF R_start ⟨fun j hj _ _ _ _ => eA j hj, fun j hj => congrArg List.length (eA j hj), fun _ _ _ _ => rfl, fun _ _ => rfl, fun _ _ => rfl⟩
theorem small6 : ∀ L, L < 6 → (Int32.ofNat L - 6 : Int32) < 0 := by decide +kernel
theorem law_pure_of (h_text : ∀ x0 : Int32, OpP (gX10_text x0) (gX11_text x0)) (h_turnings : ∀ x0 x1 : Int32, OpP (gX10_turnings x0 x1) (gX11_turnings x0 x1)) (h_table : ∀ x0 x1 x2 : Int32, OpP (gX10_table x0 x1 x2) (gX11_table x0 x1 x2)) (h_pages : ∀ x0 x1 : Int32, OpP (gX10_pages x0 x1) (gX11_pages x0 x1)) (h_truth : ∀ x0 x1 : Int32, OpP (gX10_truth x0 x1) (gX11_truth x0 x1)) (h_game : ∀ x0 x1 : Int32, OpP (gX10_game x0 x1) (gX11_game x0 x1)) (h_image : ∀ x0 : Int32, OpP (gX10_image x0) (gX11_image x0)) : LawPure := by
  intro L xs hL
  have key : Ht (gLaw L xs S00) (fun r _ => r = 1) := by
    rw [law_eq]
    refine loopI (L / 6) (fun i s A => s = nI (6 * i) ∧ RS2 A) _ (fun i s A hi hI => ?_) (fun s A hI f => ?_) (by omega) ⟨rfl, RS2_start⟩
    · obtain ⟨rfl, hA⟩ := hI
      obtain ⟨S', h1, h2⟩ := law_step h_text h_turnings h_table h_pages h_truth h_game h_image (xs := xs) hL (show 6 * i + 6 ≤ L by omega) hA
      exact ⟨_, S', h2, by rw [Nat.mul_succ], h1⟩
    · obtain ⟨rfl, hA⟩ := hI
      have c : (Int32.ofNat L - 6 : Int32) < nI (6 * (L / 6)) := by
        by_cases h6 : L < 6
        · rw [Nat.div_eq_of_lt h6]
          exact small6 L h6
        · show nI L - nI 6 < _
          rw [pk_sub (by omega)]
          exact (nI_ltI (by omega) (by omega)).mpr (by omega)
      unfold lawB
      rw [if_pos c]
      exact ⟨1, A, rfl, rfl⟩
  obtain ⟨r, S', h1, rfl⟩ := key
  exact ⟨S', h1⟩
