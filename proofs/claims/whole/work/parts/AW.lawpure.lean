/-! PURE: class and reference answer alike on every script -/
set_option maxHeartbeats 400000 in
theorem lb37_go2 {L a : Nat} {xs : Nat → Int32} {S : Bk} (hL : L ≤ 3072) (ha : a + 6 ≤ L) (h : RS2 S) : ∃ S', RS2 S' ∧ ∀ j4 : Unit → MM Int32, lb37 L xs (nI a) j4 S = j4 () S' := by
  unfold lb37
  have b1 := fun (K : Int32 → MM Int32) => blx (xs := xs) (c := 1) hL (show a + 1 < L by omega) K
  have e1 : (1 : Int32) = nI 1 := rfl
  rw [e1]
  simp only [b1, jn_eq]
  by_cases hv : xs (a + 1) = 0
  · simp only [if_pos hv]
    exact law_op h (fun A B h => op_image h 0 (Or.inl rfl))
  · simp only [if_neg hv]
    exact law_op h (fun A B h => op_image h 1 (Or.inr rfl))
set_option maxHeartbeats 4000000 in
theorem law_step2 {L a : Nat} {xs : Nat → Int32} {S : Bk} (hL : L ≤ 3072) (ha : a + 6 ≤ L) (h : RS2 S) : ∃ S', RS2 S' ∧ ∀ f, lawB L xs f (nI a) S = f (nI (a + 6)) S' := by
  obtain ⟨n, hn, en⟩ := and63 (xs a)
  have c1 : ¬ (Int32.ofNat L - 6 : Int32) < nI a := by
    show ¬ nI L - nI 6 < nI a
    rw [pk_sub (by omega)]
    exact fun z => by have := (nI_ltI (by omega) (by omega)).mp z; omega
  have e6 : (nI a + 6 : Int32) = nI (a + 6) := by
    rw [show (6 : Int32) = nI 6 from rfl, nI_add]
  have hB : ∀ f, lawB L xs f (nI a) = ([lb0 L xs (nI a) (fun _ => f (nI (a + 6))), lb1 L xs (nI a) (fun _ => f (nI (a + 6))), lb2 L xs (nI a) (fun _ => f (nI (a + 6))), lb3 L xs (nI a) (fun _ => f (nI (a + 6))), lb4 L xs (nI a) (fun _ => f (nI (a + 6))), lb5 L xs (nI a) (fun _ => f (nI (a + 6))), lb6 L xs (nI a) (fun _ => f (nI (a + 6))), lb7 L xs (nI a) (fun _ => f (nI (a + 6))), lb8 L xs (nI a) (fun _ => f (nI (a + 6))), lb9 L xs (nI a) (fun _ => f (nI (a + 6))), lb10 L xs (nI a) (fun _ => f (nI (a + 6))), lb11 L xs (nI a) (fun _ => f (nI (a + 6))), lb12 L xs (nI a) (fun _ => f (nI (a + 6))), lb13 L xs (nI a) (fun _ => f (nI (a + 6))), lb14 L xs (nI a) (fun _ => f (nI (a + 6))), lb15 L xs (nI a) (fun _ => f (nI (a + 6))), lb16 L xs (nI a) (fun _ => f (nI (a + 6))), lb17 L xs (nI a) (fun _ => f (nI (a + 6))), lb18 L xs (nI a) (fun _ => f (nI (a + 6))), lb19 L xs (nI a) (fun _ => f (nI (a + 6))), lb20 L xs (nI a) (fun _ => f (nI (a + 6))), lb21 L xs (nI a) (fun _ => f (nI (a + 6))), lb22 L xs (nI a) (fun _ => f (nI (a + 6))), lb23 L xs (nI a) (fun _ => f (nI (a + 6))), lb24 L xs (nI a) (fun _ => f (nI (a + 6))), lb25 L xs (nI a) (fun _ => f (nI (a + 6))), lb26 L xs (nI a) (fun _ => f (nI (a + 6))), lb27 L xs (nI a) (fun _ => f (nI (a + 6))), lb28 L xs (nI a) (fun _ => f (nI (a + 6))), lb29 L xs (nI a) (fun _ => f (nI (a + 6))), lb30 L xs (nI a) (fun _ => f (nI (a + 6))), lb31 L xs (nI a) (fun _ => f (nI (a + 6))), lb32 L xs (nI a) (fun _ => f (nI (a + 6))), lb33 L xs (nI a) (fun _ => f (nI (a + 6))), lb34 L xs (nI a) (fun _ => f (nI (a + 6))), lb35 L xs (nI a) (fun _ => f (nI (a + 6))), lb36 L xs (nI a) (fun _ => f (nI (a + 6))), lb37 L xs (nI a) (fun _ => f (nI (a + 6))), lb38 L xs (nI a) (fun _ => f (nI (a + 6)))] : List (MM Int32)).getD n (f (nI (a + 6))) := fun f => by
    unfold lawB
    rw [if_neg c1, blx0 hL (by omega), en]
    simp only [jn_eq]
    rw [e_swt0 (by omega), e6]
    rfl
  have hc : n = 0 ∨ n = 1 ∨ n = 2 ∨ n = 3 ∨ n = 4 ∨ n = 5 ∨ n = 6 ∨ n = 7 ∨ n = 8 ∨ n = 9 ∨ n = 10 ∨ n = 11 ∨ n = 12 ∨ n = 13 ∨ n = 14 ∨ n = 15 ∨ n = 16 ∨ n = 17 ∨ n = 18 ∨ n = 19 ∨ n = 20 ∨ n = 21 ∨ n = 22 ∨ n = 23 ∨ n = 24 ∨ n = 25 ∨ n = 26 ∨ n = 27 ∨ n = 28 ∨ n = 29 ∨ n = 30 ∨ n = 31 ∨ n = 32 ∨ n = 33 ∨ n = 34 ∨ n = 35 ∨ n = 36 ∨ n = 37 ∨ n = 38 ∨ n ≥ 39 := by omega
  obtain rfl | rfl | rfl | rfl | rfl | rfl | rfl | rfl | rfl | rfl | rfl | rfl | rfl | rfl | rfl | rfl | rfl | rfl | rfl | rfl | rfl | rfl | rfl | rfl | rfl | rfl | rfl | rfl | rfl | rfl | rfl | rfl | rfl | rfl | rfl | rfl | rfl | rfl | rfl | hc := hc
  · obtain ⟨S', h1, h2⟩ := lb0_go (xs := xs) hL ha h
    exact ⟨S', h1, fun f => by rw [hB f]; exact h2 (fun _ => f (nI (a + 6)))⟩
  · obtain ⟨S', h1, h2⟩ := lb1_go (xs := xs) hL ha h
    exact ⟨S', h1, fun f => by rw [hB f]; exact h2 (fun _ => f (nI (a + 6)))⟩
  · obtain ⟨S', h1, h2⟩ := lb2_go (xs := xs) hL ha h
    exact ⟨S', h1, fun f => by rw [hB f]; exact h2 (fun _ => f (nI (a + 6)))⟩
  · obtain ⟨S', h1, h2⟩ := lb3_go (xs := xs) hL ha h
    exact ⟨S', h1, fun f => by rw [hB f]; exact h2 (fun _ => f (nI (a + 6)))⟩
  · obtain ⟨S', h1, h2⟩ := lb4_go (xs := xs) hL ha h
    exact ⟨S', h1, fun f => by rw [hB f]; exact h2 (fun _ => f (nI (a + 6)))⟩
  · obtain ⟨S', h1, h2⟩ := lb5_go (xs := xs) hL ha h
    exact ⟨S', h1, fun f => by rw [hB f]; exact h2 (fun _ => f (nI (a + 6)))⟩
  · obtain ⟨S', h1, h2⟩ := lb6_go (xs := xs) hL ha h
    exact ⟨S', h1, fun f => by rw [hB f]; exact h2 (fun _ => f (nI (a + 6)))⟩
  · obtain ⟨S', h1, h2⟩ := lb7_go (xs := xs) hL ha h
    exact ⟨S', h1, fun f => by rw [hB f]; exact h2 (fun _ => f (nI (a + 6)))⟩
  · obtain ⟨S', h1, h2⟩ := lb8_go (xs := xs) hL ha h
    exact ⟨S', h1, fun f => by rw [hB f]; exact h2 (fun _ => f (nI (a + 6)))⟩
  · obtain ⟨S', h1, h2⟩ := lb9_go (xs := xs) hL ha h (fun x A B h => op_text h x)
    exact ⟨S', h1, fun f => by rw [hB f]; exact h2 (fun _ => f (nI (a + 6)))⟩
  · obtain ⟨S', h1, h2⟩ := lb10_go (xs := xs) hL ha h
    exact ⟨S', h1, fun f => by rw [hB f]; exact h2 (fun _ => f (nI (a + 6)))⟩
  · obtain ⟨S', h1, h2⟩ := lb11_go (xs := xs) hL ha h
    exact ⟨S', h1, fun f => by rw [hB f]; exact h2 (fun _ => f (nI (a + 6)))⟩
  · obtain ⟨S', h1, h2⟩ := lb12_go (xs := xs) hL ha h
    exact ⟨S', h1, fun f => by rw [hB f]; exact h2 (fun _ => f (nI (a + 6)))⟩
  · obtain ⟨S', h1, h2⟩ := lb13_go (xs := xs) hL ha h
    exact ⟨S', h1, fun f => by rw [hB f]; exact h2 (fun _ => f (nI (a + 6)))⟩
  · obtain ⟨S', h1, h2⟩ := lb14_go (xs := xs) hL ha h
    exact ⟨S', h1, fun f => by rw [hB f]; exact h2 (fun _ => f (nI (a + 6)))⟩
  · obtain ⟨S', h1, h2⟩ := lb15_go (xs := xs) hL ha h
    exact ⟨S', h1, fun f => by rw [hB f]; exact h2 (fun _ => f (nI (a + 6)))⟩
  · obtain ⟨S', h1, h2⟩ := lb16_go (xs := xs) hL ha h
    exact ⟨S', h1, fun f => by rw [hB f]; exact h2 (fun _ => f (nI (a + 6)))⟩
  · obtain ⟨S', h1, h2⟩ := lb17_go (xs := xs) hL ha h
    exact ⟨S', h1, fun f => by rw [hB f]; exact h2 (fun _ => f (nI (a + 6)))⟩
  · obtain ⟨S', h1, h2⟩ := lb18_go (xs := xs) hL ha h
    exact ⟨S', h1, fun f => by rw [hB f]; exact h2 (fun _ => f (nI (a + 6)))⟩
  · obtain ⟨S', h1, h2⟩ := lb19_go (xs := xs) hL ha h (fun x y A B h => op_turnings h x y)
    exact ⟨S', h1, fun f => by rw [hB f]; exact h2 (fun _ => f (nI (a + 6)))⟩
  · obtain ⟨S', h1, h2⟩ := lb20_go (xs := xs) hL ha h
    exact ⟨S', h1, fun f => by rw [hB f]; exact h2 (fun _ => f (nI (a + 6)))⟩
  · obtain ⟨S', h1, h2⟩ := lb21_go (xs := xs) hL ha h
    exact ⟨S', h1, fun f => by rw [hB f]; exact h2 (fun _ => f (nI (a + 6)))⟩
  · obtain ⟨S', h1, h2⟩ := lb22_go (xs := xs) hL ha h
    exact ⟨S', h1, fun f => by rw [hB f]; exact h2 (fun _ => f (nI (a + 6)))⟩
  · obtain ⟨S', h1, h2⟩ := lb23_go (xs := xs) hL ha h
    exact ⟨S', h1, fun f => by rw [hB f]; exact h2 (fun _ => f (nI (a + 6)))⟩
  · obtain ⟨S', h1, h2⟩ := lb24_go (xs := xs) hL ha h
    exact ⟨S', h1, fun f => by rw [hB f]; exact h2 (fun _ => f (nI (a + 6)))⟩
  · obtain ⟨S', h1, h2⟩ := lb25_go (xs := xs) hL ha h
    exact ⟨S', h1, fun f => by rw [hB f]; exact h2 (fun _ => f (nI (a + 6)))⟩
  · obtain ⟨S', h1, h2⟩ := lb26_go (xs := xs) hL ha h (fun x y z A B h => op_table h x y z)
    exact ⟨S', h1, fun f => by rw [hB f]; exact h2 (fun _ => f (nI (a + 6)))⟩
  · obtain ⟨S', h1, h2⟩ := lb27_go (xs := xs) hL ha h
    exact ⟨S', h1, fun f => by rw [hB f]; exact h2 (fun _ => f (nI (a + 6)))⟩
  · obtain ⟨S', h1, h2⟩ := lb28_go (xs := xs) hL ha h (fun x y A B h => op_pages h x y)
    exact ⟨S', h1, fun f => by rw [hB f]; exact h2 (fun _ => f (nI (a + 6)))⟩
  · obtain ⟨S', h1, h2⟩ := lb29_go (xs := xs) hL ha h (fun x y A B h => op_truth h x y)
    exact ⟨S', h1, fun f => by rw [hB f]; exact h2 (fun _ => f (nI (a + 6)))⟩
  · obtain ⟨S', h1, h2⟩ := lb30_go (xs := xs) hL ha h
    exact ⟨S', h1, fun f => by rw [hB f]; exact h2 (fun _ => f (nI (a + 6)))⟩
  · obtain ⟨S', h1, h2⟩ := lb31_go (xs := xs) hL ha h
    exact ⟨S', h1, fun f => by rw [hB f]; exact h2 (fun _ => f (nI (a + 6)))⟩
  · obtain ⟨S', h1, h2⟩ := lb32_go (xs := xs) hL ha h
    exact ⟨S', h1, fun f => by rw [hB f]; exact h2 (fun _ => f (nI (a + 6)))⟩
  · obtain ⟨S', h1, h2⟩ := lb33_go (xs := xs) hL ha h
    exact ⟨S', h1, fun f => by rw [hB f]; exact h2 (fun _ => f (nI (a + 6)))⟩
  · obtain ⟨S', h1, h2⟩ := lb34_go (xs := xs) hL ha h
    exact ⟨S', h1, fun f => by rw [hB f]; exact h2 (fun _ => f (nI (a + 6)))⟩
  · obtain ⟨S', h1, h2⟩ := lb35_go (xs := xs) hL ha h (fun x y A B h => op_game h x y)
    exact ⟨S', h1, fun f => by rw [hB f]; exact h2 (fun _ => f (nI (a + 6)))⟩
  · obtain ⟨S', h1, h2⟩ := lb36_go (xs := xs) hL ha h
    exact ⟨S', h1, fun f => by rw [hB f]; exact h2 (fun _ => f (nI (a + 6)))⟩
  · obtain ⟨S', h1, h2⟩ := lb37_go2 (xs := xs) hL ha h
    exact ⟨S', h1, fun f => by rw [hB f]; exact h2 (fun _ => f (nI (a + 6)))⟩
  · obtain ⟨S', h1, h2⟩ := lb38_go (xs := xs) hL ha h
    exact ⟨S', h1, fun f => by rw [hB f]; exact h2 (fun _ => f (nI (a + 6)))⟩
  · refine ⟨S, h, fun f => ?_⟩
    rw [hB f, List.getD_eq_getElem?_getD, List.getElem?_eq_none (by show 39 ≤ n; exact hc)]; rfl
theorem law_pure : LawPure := by
  intro L xs hL
  have key : Ht (gLaw L xs S00) (fun r _ => r = 1) := by
    rw [law_eq]
    refine loopI (L / 6) (fun i s A => s = nI (6 * i) ∧ RS2 A) _ (fun i s A hi hI => ?_) (fun s A hI f => ?_) (by omega) ⟨rfl, RS2_start⟩
    · obtain ⟨rfl, hA⟩ := hI
      obtain ⟨S', h1, h2⟩ := law_step2 (xs := xs) hL (show 6 * i + 6 ≤ L by omega) hA
      exact ⟨_, S', h2, by rw [Nat.mul_succ], h1⟩
    · obtain ⟨rfl, hA⟩ := hI
      have c : (Int32.ofNat L - 6 : Int32) < nI (6 * (L / 6)) := by
        by_cases h6 : L < 6
        · rw [Nat.div_eq_of_lt h6]
          exact small6 L h6
        · show nI L - nI 6 < _
          rw [pk_sub (by omega)]
          exact (nI_ltI (by omega) (by omega)).mpr (by omega)
      unfold lawB
      rw [if_pos c]
      exact ⟨1, A, rfl, rfl⟩
  obtain ⟨r, S', h1, rfl⟩ := key
  exact ⟨S', h1⟩
