/-! PURE: in thought -/
theorem R_XG {A A' B B' : Bk} (h : R A B) (x1 : ∀ j, j < 211 → j ≠ 23 → j ≠ 49 → ¬ (99 ≤ j ∧ j < 112) → ¬ (129 ≤ j ∧ j < 133) → A' j = A j) (x2 : ∀ j, j < 211 → (A' j).length = (A j).length) (x9 : (A' 99).getD 0 0 = (A 99).getD 0 0) (x3 : ∀ i, i < 38 → i ≠ 0 → i ∉ [3, 16, 20, 21, 23, 24, 25, 26, 27, 28, 31, 34, 36] → B' i = B i) (x4 : ∀ i, i < 38 → (B' i).length = (B i).length) (x5 : ∀ k, k ∈ [3, 5, 6, 7, 8, 13, 33, 34, 35, 37, 39, 43, 52, 54, 57, 61, 65] → (B' 0).getD k 0 = (B 0).getD k 0) : R A' B' := by
  obtain ⟨⟨np, nc, nt, ks, wh, hH, hU⟩, hT, hI, hA, hB⟩ := h
  have hc : ∀ i, i ∈ cBl → i < 38 ∧ i ≠ 0 ∧ i ∉ [3, 16, 20, 21, 23, 24, 25, 26, 27, 28, 31, 34, 36] := by decide
  have hs : ∀ k, k ∈ sBl → k ∈ [3, 5, 6, 7, 8, 13, 33, 34, 35, 37, 39, 43, 52, 54, 57, 61, 65] := by decide
  have hv : ∀ i, i < 49 → rh24 i < 99 ∧ (i ≠ 9 → i ≠ 35 → rh24 i ≠ 23 ∧ rh24 i ≠ 49) := by decide +kernel
  have hE : HE (fun i => A (rh24 i)) (fun i => A' (rh24 i)) B B' := by
    exact ⟨fun i hi h9 h35 => by
      have := hv i hi
      exact x1 _ (by omega) (this.2 h9 h35).1 (this.2 h9 h35).2 (by omega) (by omega), x2 _ (by decide), x2 _ (by decide), fun i hi => x3 i (hc i hi).1 (hc i hi).2.1 (hc i hi).2.2, x4 20 (by decide), x4 21 (by decide), x4 0 (by decide), fun k hk => x5 k (hs k hk)⟩
  have y : ∀ j, j < 211 → j ≠ 23 → j ≠ 49 → ¬ (99 ≤ j ∧ j < 112) → ¬ (129 ≤ j ∧ j < 133) → A' j = A j := x1
  refine ⟨⟨np, nc, nt, ks, wh, HH_HE hH hE, UD_congr hU (x2 0 (by decide)) (by rw [x1 0 (by decide) (by decide) (by decide) (by decide) (by decide)]) (x1 112 (by decide) (by decide) (by decide) (by decide) (by decide)) (fun j h1 h2 => x1 j h2 (by omega) (by omega) (by omega) (by omega)) (x3 2 (by decide) (by decide) (by decide)) (x3 4 (by decide) (by decide) (by decide)) (x3 5 (by decide) (by decide) (by decide)) (x5 3 (by decide))⟩, ?_, ?_, ?_, ?_⟩
  · exact TP_congr hT (x1 113 (by decide) (by decide) (by decide) (by decide) (by decide)) (x1 114 (by decide) (by decide) (by decide) (by decide) (by decide)) (x3 7 (by decide) (by decide) (by decide)) (x5 13 (by decide)) (x5 33 (by decide)) (x5 34 (by decide))
  · exact IM_congr hI (by rw [x1 0 (by decide) (by decide) (by decide) (by decide) (by decide)]) (fun j h1 h2 => x1 j (by omega) (by omega) (by omega) (by omega) (by omega)) (x3 37 (by decide) (by decide) (by decide)) (x5 65 (by decide))
  · exact SCA_congr hA (fun j h1 h2 => x2 j (by omega)) x9
  · exact SCB_congr hB (fun j hj => x4 j (by revert hj; revert j; decide)) (x3 8 (by decide) (by decide) (by decide)) (x3 33 (by decide) (by decide) (by decide))
theorem WL_len {W V : Bk} (h : WL W) (g : WL V) : ∀ k, k < 13 → (W k).length = (V k).length := by
  intro k hk
  unfold WL at h g
  rcases (show k = 0 ∨ k = 1 ∨ k = 2 ∨ k = 3 ∨ k = 4 ∨ k = 5 ∨ k = 6 ∨ k = 7 ∨ k = 8 ∨ k = 9 ∨ k = 10 ∨ k = 11 ∨ k = 12 by omega) with z | z | z | z | z | z | z | z | z | z | z | z | z <;> subst z <;> omega
theorem p_sum {T : Bk} {n : Nat} (hn : n ≤ (T 0).length) (hl : (T 0).length < 1000) : gX10_sum (nI n) T = some (fo (fun i a => a + (T 0).getD i 0) 0 n, T) := by
  unfold gX10_sum
  refine loopF n (fun j => (fo (fun i a => a + (T 0).getD i 0) 0 j, nI j)) (fun _ => T) rfl rfl (fun j hj self => ?_) (fun self => ?_) (by omega)
  · have n1 : ¬ n ≤ j := by omega
    have n2 : ¬ (T 0).length ≤ j := by omega
    have e : fo (fun i a => a + (T 0).getD i 0) 0 (j + 1) = fo (fun i a => a + (T 0).getD i 0) 0 j + (T 0).getD j 0 := rfl
    rw [e]
    simp (disch := first | omega | (simp only [up_ap, List.length_set, Nat.reduceEqDiff, reduceIte] <;> omega)) only [Int32.le_refl, bd_pr, pr_ap, jn_eq, lt_eq, bd_bd, bd_ite, ite_ap, bd_ld, bd_sv, bd_la, bd_sa, bd_ln, bd_rz0, bd_rz1, rz_n0, rz_n1, e_lit2, nI_z, nI_eq0, nI_0eq, nI_le0, nI_lt0, nI_0lt, nI_0le, e_001, e_n10, e_n1lt, bd_la0, bd_sa0, bd_rz00, rz_0, rz_1, b2i_0, Int32.add_zero, Int32.zero_add, nI_add, nI_pred2, pk_sub, pk_mul, pk_div, e_nz, nI_eq, nI_leI, nI_ltI, e_nm1, e_nm2, up_ap, gd_set_ne, gd_set_same, List.length_set, Nat.add_sub_cancel, Nat.reduceEqDiff, Nat.reduceAdd, Nat.reduceMul, Nat.reduceSub, Nat.reduceLT, Nat.reduceLeDiff, reduceIte, Nat.not_lt_zero, not_true_eq_false, not_false_eq_true, and_true, true_and, and_false, false_and, n1, n2]
  · simp (disch := first | omega | (simp only [up_ap, List.length_set, Nat.reduceEqDiff, reduceIte] <;> omega)) only [Int32.le_refl, bd_pr, pr_ap, jn_eq, lt_eq, bd_bd, bd_ite, ite_ap, bd_ld, bd_sv, bd_la, bd_sa, bd_ln, bd_rz0, bd_rz1, rz_n0, rz_n1, e_lit2, nI_z, nI_eq0, nI_0eq, nI_le0, nI_lt0, nI_0lt, nI_0le, e_001, e_n10, e_n1lt, bd_la0, bd_sa0, bd_rz00, rz_0, rz_1, b2i_0, Int32.add_zero, Int32.zero_add, nI_add, nI_pred2, pk_sub, pk_mul, pk_div, e_nz, nI_eq, nI_leI, nI_ltI, e_nm1, e_nm2, up_ap, gd_set_ne, gd_set_same, List.length_set, Nat.add_sub_cancel, Nat.reduceEqDiff, Nat.reduceAdd, Nat.reduceMul, Nat.reduceSub, Nat.reduceLT, Nat.reduceLeDiff, reduceIte, Nat.not_lt_zero, not_true_eq_false, not_false_eq_true, and_true, true_and, and_false, false_and, Nat.le_refl]
theorem p_sumOf {B : Bk} {o n : Nat} (hl : (B 1).length = 183) (hn : o + n ≤ 183) : gX11_sumOf (nI o) (nI n) B = some (fo (fun i a => a + (B 1).getD (o + i) 0) 0 n, B) := by
  unfold gX11_sumOf
  refine loopF n (fun j => (fo (fun i a => a + (B 1).getD (o + i) 0) 0 j, nI j)) (fun _ => B) rfl rfl (fun j hj self => ?_) (fun self => ?_) (by omega)
  · have n1 : ¬ n ≤ j := by omega
    have e : fo (fun i a => a + (B 1).getD (o + i) 0) 0 (j + 1) = fo (fun i a => a + (B 1).getD (o + i) 0) 0 j + (B 1).getD (o + j) 0 := rfl
    rw [e]
    simp (disch := first | omega | (simp only [up_ap, List.length_set, Nat.reduceEqDiff, reduceIte] <;> omega)) only [Int32.le_refl, bd_pr, pr_ap, jn_eq, lt_eq, bd_bd, bd_ite, ite_ap, bd_ld, bd_sv, bd_la, bd_sa, bd_ln, bd_rz0, bd_rz1, rz_n0, rz_n1, e_lit2, nI_z, nI_eq0, nI_0eq, nI_le0, nI_lt0, nI_0lt, nI_0le, e_001, e_n10, e_n1lt, bd_la0, bd_sa0, bd_rz00, rz_0, rz_1, b2i_0, Int32.add_zero, Int32.zero_add, nI_add, nI_pred2, pk_sub, pk_mul, pk_div, e_nz, nI_eq, nI_leI, nI_ltI, e_nm1, e_nm2, up_ap, gd_set_ne, gd_set_same, List.length_set, Nat.add_sub_cancel, Nat.reduceEqDiff, Nat.reduceAdd, Nat.reduceMul, Nat.reduceSub, Nat.reduceLT, Nat.reduceLeDiff, reduceIte, Nat.not_lt_zero, not_true_eq_false, not_false_eq_true, and_true, true_and, and_false, false_and, n1]
  · simp (disch := first | omega | (simp only [up_ap, List.length_set, Nat.reduceEqDiff, reduceIte] <;> omega)) only [Int32.le_refl, bd_pr, pr_ap, jn_eq, lt_eq, bd_bd, bd_ite, ite_ap, bd_ld, bd_sv, bd_la, bd_sa, bd_ln, bd_rz0, bd_rz1, rz_n0, rz_n1, e_lit2, nI_z, nI_eq0, nI_0eq, nI_le0, nI_lt0, nI_0lt, nI_0le, e_001, e_n10, e_n1lt, bd_la0, bd_sa0, bd_rz00, rz_0, rz_1, b2i_0, Int32.add_zero, Int32.zero_add, nI_add, nI_pred2, pk_sub, pk_mul, pk_div, e_nz, nI_eq, nI_leI, nI_ltI, e_nm1, e_nm2, up_ap, gd_set_ne, gd_set_same, List.length_set, Nat.add_sub_cancel, Nat.reduceEqDiff, Nat.reduceAdd, Nat.reduceMul, Nat.reduceSub, Nat.reduceLT, Nat.reduceLeDiff, reduceIte, Nat.not_lt_zero, not_true_eq_false, not_false_eq_true, and_true, true_and, and_false, false_and, Nat.le_refl]
theorem p_allKnots {B W : Bk} {ow du : List Int32} {np nc nt : Nat} {ks : Nat → List Nat} {wh : Nat → Nat} (h : WR W (B 1) ow du np nc nt ks wh) (b0 : (B 0).length = 68) (b7 : (B 0).getD 7 0 = nI nc) : gX11_allKnots B = some (fo (fun i a => a + nI (ks i).length) 0 nc, B) := by
  obtain ⟨hl, ⟨hn1, hn2, hn3, hn4⟩, -, -, -, -, -, -, -, ⟨k1, k2, k3⟩⟩ := h
  unfold gX11_allKnots
  refine loopF nc (fun j => (fo (fun i a => a + nI (ks i).length) 0 j, nI j)) (fun _ => B) rfl rfl (fun j hj self => ?_) (fun self => ?_) (by omega)
  · obtain ⟨a1, a2, a3, a4, a5⟩ := k1 j hj
    have hkn := p_knotsOf (B := B) hn1 (show j < 14 by omega) a1 a5 (fun x hx => by have := ((k3 j x hj).mp hx).1; omega)
    have n1 : ¬ nc ≤ j := by omega
    have e : fo (fun i a => a + nI (ks i).length) 0 (j + 1) = fo (fun i a => a + nI (ks i).length) 0 j + nI (ks j).length := rfl
    rw [e]
    simp (disch := first | omega | (simp only [up_ap, List.length_set, Nat.reduceEqDiff, reduceIte] <;> omega)) only [Int32.le_refl, bd_pr, pr_ap, jn_eq, lt_eq, bd_bd, bd_ite, ite_ap, bd_ld, bd_sv, bd_la, bd_sa, bd_ln, bd_rz0, bd_rz1, rz_n0, rz_n1, e_lit2, nI_z, nI_eq0, nI_0eq, nI_le0, nI_lt0, nI_0lt, nI_0le, e_001, e_n10, e_n1lt, bd_la0, bd_sa0, bd_rz00, rz_0, rz_1, b2i_0, Int32.add_zero, Int32.zero_add, nI_add, nI_pred2, pk_sub, pk_mul, pk_div, e_nz, nI_eq, nI_leI, nI_ltI, e_nm1, e_nm2, up_ap, gd_set_ne, gd_set_same, List.length_set, Nat.add_sub_cancel, Nat.reduceEqDiff, Nat.reduceAdd, Nat.reduceMul, Nat.reduceSub, Nat.reduceLT, Nat.reduceLeDiff, reduceIte, Nat.not_lt_zero, not_true_eq_false, not_false_eq_true, and_true, true_and, and_false, false_and, b7, n1]
    rw [bd_some hkn]
  · simp (disch := first | omega | (simp only [up_ap, List.length_set, Nat.reduceEqDiff, reduceIte] <;> omega)) only [Int32.le_refl, bd_pr, pr_ap, jn_eq, lt_eq, bd_bd, bd_ite, ite_ap, bd_ld, bd_sv, bd_la, bd_sa, bd_ln, bd_rz0, bd_rz1, rz_n0, rz_n1, e_lit2, nI_z, nI_eq0, nI_0eq, nI_le0, nI_lt0, nI_0lt, nI_0le, e_001, e_n10, e_n1lt, bd_la0, bd_sa0, bd_rz00, rz_0, rz_1, b2i_0, Int32.add_zero, Int32.zero_add, nI_add, nI_pred2, pk_sub, pk_mul, pk_div, e_nz, nI_eq, nI_leI, nI_ltI, e_nm1, e_nm2, up_ap, gd_set_ne, gd_set_same, List.length_set, Nat.add_sub_cancel, Nat.reduceEqDiff, Nat.reduceAdd, Nat.reduceMul, Nat.reduceSub, Nat.reduceLT, Nat.reduceLeDiff, reduceIte, Nat.not_lt_zero, not_true_eq_false, not_false_eq_true, and_true, true_and, and_false, false_and, b7, Nat.le_refl]
theorem rh32_v : ∀ i, i < 49 → rh32 i = if i < 36 then rh24 i else 63 + i := by decide +kernel
theorem rh32_12 : ∀ i, i < 13 → rh32 (rh12 i) = 99 + i := by decide +kernel
theorem rh32_inj : ∀ i j, i < 49 → j < 49 → rh32 i = rh32 j → i = j := inj_d (by decide +kernel)
theorem rh32_36 : ∀ i, i < 36 → rh32 i = rh24 i ∧ rh24 i < 50 := by decide +kernel
def copyR (l w : List Int32) : Nat → List Int32 := fo (fun i x => x.set i (l.getD i 0)) w
theorem copyR_len (l w : List Int32) (n : Nat) : (copyR l w n).length = w.length := fo_len (fun i x => List.length_set) w n
theorem copyR_get (l w : List Int32) : ∀ n, n ≤ w.length → ∀ q, (copyR l w n).getD q 0 = if q < n then l.getD q 0 else w.getD q 0
  | 0, _, q => by rw [if_neg (by omega)]; rfl
  | n + 1, hn, q => by
    have hq := copyR_len l w n
    show ((copyR l w n).set n (l.getD n 0)).getD q 0 = _
    by_cases h1 : q = n
    · subst h1
      rw [gd_set_same (by omega), if_pos (by omega)]
    · rw [gd_set_ne (fun z => h1 z.symm), copyR_get l w n (by omega)]
      by_cases h2 : q < n
      · rw [if_pos h2, if_pos (by omega)]
      · rw [if_neg h2, if_neg (by omega)]
theorem copyR_all {l w : List Int32} (h : w.length = l.length) : copyR l w l.length = l := by
  refine gd_ext (by rw [copyR_len, h]) (fun k hk => ?_)
  rw [copyR_len, h] at hk
  rw [copyR_get l w _ (by omega), if_pos hk]
theorem p_thinks {B : Bk} (b0 : (B 0).length = 68) (h1 : (B 1).length = 183) (h3 : (B 3).length = 183) : gX11_thinks B = some (0, up (up B 3 (B 1)) 0 ((B 0).set 5 (nI 1))) := by
  unfold gX11_thinks
  refine loopF 183 (fun j => nI j) (fun j => up B 3 (copyR (B 1) (B 3) j)) rfl (up_self B 3) (fun j hj self => ?_) (fun self => ?_) (by omega)
  · have hl2 := copyR_len (B 1) (B 3) j
    have n1 : ¬ 183 ≤ j := by omega
    have e : copyR (B 1) (B 3) (j + 1) = (copyR (B 1) (B 3) j).set j ((B 1).getD j 0) := rfl
    rw [e]
    simp (disch := first | omega | (simp only [up_ap, List.length_set, Nat.reduceEqDiff, reduceIte, hl2] <;> omega)) only [Int32.le_refl, bd_pr, pr_ap, jn_eq, lt_eq, bd_bd, bd_ite, ite_ap, bd_ld, bd_sv, bd_la, bd_sa, bd_ln, bd_rz0, bd_rz1, rz_n0, rz_n1, e_lit2, nI_z, nI_eq0, nI_0eq, nI_le0, nI_lt0, nI_0lt, nI_0le, e_001, e_n10, e_n1lt, bd_la0, bd_sa0, bd_rz00, rz_0, rz_1, b2i_0, Int32.add_zero, Int32.zero_add, nI_add, nI_pred2, pk_sub, pk_mul, pk_div, e_nz, nI_eq, nI_leI, nI_ltI, e_nm1, e_nm2, up_ap, gd_set_ne, gd_set_same, List.length_set, Nat.add_sub_cancel, Nat.reduceEqDiff, Nat.reduceAdd, Nat.reduceMul, Nat.reduceSub, Nat.reduceLT, Nat.reduceLeDiff, reduceIte, Nat.not_lt_zero, not_true_eq_false, not_false_eq_true, and_true, true_and, and_false, false_and, n1, up_up]
  · rw [if_pos (by decide), show copyR (B 1) (B 3) 183 = B 1 by
      have := copyR_all (l := B 1) (w := B 3) (by rw [h1, h3])
      rw [h1] at this; exact this]
    rw [bd_svz _ (Or.inr rfl) (by rw [up_ne _ _ (by decide), b0]; decide)]
    rfl
theorem p_endsThought {B : Bk} (b0 : (B 0).length = 68) (h1 : (B 1).length = 183) (h3 : (B 3).length = 183) : gX11_endsThought B = some (0, up (up B 1 (B 3)) 0 ((B 0).set 5 0)) := by
  unfold gX11_endsThought
  refine loopF 183 (fun j => nI j) (fun j => up B 1 (copyR (B 3) (B 1) j)) rfl (up_self B 1) (fun j hj self => ?_) (fun self => ?_) (by omega)
  · have hl2 := copyR_len (B 3) (B 1) j
    have n1 : ¬ 183 ≤ j := by omega
    have e : copyR (B 3) (B 1) (j + 1) = (copyR (B 3) (B 1) j).set j ((B 3).getD j 0) := rfl
    rw [e]
    simp (disch := first | omega | (simp only [up_ap, List.length_set, Nat.reduceEqDiff, reduceIte, hl2] <;> omega)) only [Int32.le_refl, bd_pr, pr_ap, jn_eq, lt_eq, bd_bd, bd_ite, ite_ap, bd_ld, bd_sv, bd_la, bd_sa, bd_ln, bd_rz0, bd_rz1, rz_n0, rz_n1, e_lit2, nI_z, nI_eq0, nI_0eq, nI_le0, nI_lt0, nI_0lt, nI_0le, e_001, e_n10, e_n1lt, bd_la0, bd_sa0, bd_rz00, rz_0, rz_1, b2i_0, Int32.add_zero, Int32.zero_add, nI_add, nI_pred2, pk_sub, pk_mul, pk_div, e_nz, nI_eq, nI_leI, nI_ltI, e_nm1, e_nm2, up_ap, gd_set_ne, gd_set_same, List.length_set, Nat.add_sub_cancel, Nat.reduceEqDiff, Nat.reduceAdd, Nat.reduceMul, Nat.reduceSub, Nat.reduceLT, Nat.reduceLeDiff, reduceIte, Nat.not_lt_zero, not_true_eq_false, not_false_eq_true, and_true, true_and, and_false, false_and, n1, up_up]
  · rw [if_pos (by decide), show copyR (B 3) (B 1) 183 = B 3 by
      have := copyR_all (l := B 3) (w := B 1) (by rw [h1, h3])
      rw [h3] at this; exact this]
    rw [bd_svz _ (Or.inl rfl) (by rw [up_ne _ _ (by decide), b0]; decide)]
    rfl
/-- what stands in the midst of a thought -/
def TH (A B A1 B1 : Bk) (np nc nt : Nat) : Prop := (∃ ks wh, HR (fun i => A1 (rh32 i)) B1 1 np nc nt ks wh) ∧ (∀ j, j < 211 → j ≠ 23 → j ≠ 49 → ¬ (99 ≤ j ∧ j < 112) → A1 j = A j) ∧ (∀ j, j < 211 → (A1 j).length = (A j).length) ∧ (A1 99).getD 0 0 = nI 1 ∧
  (∀ i, i < 38 → i ≠ 0 → i ≠ 1 → i ∉ [3, 20, 21] → B1 i = B i) ∧ (∀ i, i < 38 → (B1 i).length = (B i).length) ∧ B1 3 = B 1 ∧ (B1 0) = (B 0).set 5 (nI 1)
theorem th_end {A B A1 B1 : Bk} {np nc nt : Nat} (h : R A B) (t : TH A B A1 B1 np nc nt) : ∃ B2, gX11_endsThought B1 = some (0, B2) ∧ R A1 B2 ∧ R A1 B := by
  obtain ⟨⟨ks, wh, hR⟩, t1, t2, t3, t4, t5, t6, t7⟩ := t
  have hb0 := R_B0 h
  obtain ⟨⟨np', nc', nt', ks', wh', hH, hU⟩, hT, hI, hA, hB⟩ := id h
  have h1 : (B 1).length = 183 := hH.1.1.2.1.1
  have h3 : (B 3).length = 183 := hB.1
  have s5 : (B 0).getD 5 0 = 0 := hH.1.2.2.2.1.2.1
  have x99 : (A1 99).getD 0 0 = (A 99).getD 0 0 := by rw [t3]; exact hA.2.1.symm
  refine ⟨_, p_endsThought (B := B1) (by rw [t5 0 (by decide)]; exact hb0) (by rw [t5 1 (by decide)]; exact h1) (by rw [t6]; exact h1), ?_, ?_⟩
  · refine R_XG h (fun j a b c d e => t1 j a b c d) t2 x99 (fun i a b c => ?_) (fun i a => ?_) (fun k hk => ?_)
    · rw [up_ne _ _ b]
      by_cases q : i = 1
      · subst q; rw [up_same, t6]
      · rw [up_ne _ _ q]
        exact t4 i a b q (fun z => c ((by decide : ∀ z, z ∈ [3, 20, 21] → z ∈ [3, 16, 20, 21, 23, 24, 25, 26, 27, 28, 31, 34, 36]) i z))
    · by_cases q0 : i = 0
      · subst q0; rw [up_same, List.length_set]; exact t5 0 a
      · rw [up_ne _ _ q0]
        by_cases q : i = 1
        · subst q; rw [up_same, t6]
        · rw [up_ne _ _ q]; exact t5 i a
    · rw [up_same, t7]
      by_cases q : k = 5
      · subst q
        rw [gd_set_same (by rw [List.length_set]; omega), s5]
      · rw [gd_set_ne (fun z => q z.symm), gd_set_ne (fun z => q z.symm)]
  · exact R_XG h (fun j a b c d e => t1 j a b c d) t2 x99 (fun i a b c => rfl) (fun i a => rfl) (fun k hk => rfl)
theorem th_start {A B : Bk} {np nc nt : Nat} {ks : Nat → List Nat} {wh : Nat → Nat} (h : R A B) (hH : HH (fun i => A (rh24 i)) B np nc nt ks wh) : ∃ A1 B1, lf rh31 26 gX9_copy A = some (0, A1) ∧ gX11_thinks B = some (0, B1) ∧ TH A B A1 B1 np nc nt := by
  have hb0 := R_B0 h
  obtain ⟨-, hT, hI, hA, hB⟩ := id h
  obtain ⟨hW, hw0⟩ := R_W hH
  have h1 : (B 1).length = 183 := hH.1.1.2.1.1
  have h3 : (B 3).length = 183 := hB.1
  have hWR : WR (fun i => A (2 + i)) (B 1) (B 4) (B 5) np nc nt ks wh := WR_congr hW (fun i hi => by
    show A (2 + i) = A (rh23 i)
    rw [rh23_v i hi])
  obtain ⟨A1, c1, c2, c3, c4, c5, c6⟩ := cp_all rh31_inj rh31_v hA.1 hWR.1
  have hW1 := cp_WR (a := 99) hWR c2 c3 c4
  obtain ⟨B1, hB1⟩ : ∃ z, z = up (up B 3 (B 1)) 0 ((B 0).set 5 (nI 1)) := ⟨_, rfl⟩
  have bj : ∀ i, i ≠ 0 → i ≠ 3 → B1 i = B i := fun i a b => by rw [hB1, up_ne _ _ a, up_ne _ _ b]
  have b0 : B1 0 = (B 0).set 5 (nI 1) := by rw [hB1, up_same]
  refine ⟨A1, B1, c1, by rw [hB1]; exact p_thinks hb0 h1 h3, ⟨ks, wh, ?_, ?_, ?_, ?_⟩, fun j a b c d => c6 j (by omega), fun j a => ?_, by rw [c5]; exact hA.2.1, fun i a b c d => bj i b (by rintro rfl; exact absurd d (by decide)), fun i a => ?_, by rw [hB1, up_ne _ _ (by decide), up_same], b0⟩
  · rw [bj 1 (by decide) (by decide), bj 4 (by decide) (by decide), bj 5 (by decide) (by decide)]
    exact WR_congr hW1 (fun i hi => by
      show A1 (rh32 (rh12 i)) = A1 (99 + i)
      rw [rh32_12 i hi])
  · exact ⟨by decide, by show (A1 (rh32 36)).getD 0 0 = nI 1; show (A1 99).getD 0 0 = nI 1; rw [c5]; exact hA.2.1⟩
  · have := hH.1.2.2.1
    exact ⟨by show A1 16 = B1 6; rw [c6 16 (by omega), bj 6 (by decide) (by decide)]; exact this.1, by rw [bj 6 (by decide) (by decide)]; exact this.2⟩
  · obtain ⟨⟨g0, g5, g6, g7, g8⟩, a, b, c, d, f, g1, g2⟩ := hH.1.2.2.2
    have e1 : ∀ i, i < 36 → A1 (rh32 i) = A (rh24 i) := fun i hi => by
      rw [(rh32_36 i hi).1]; exact c6 _ (by have := (rh32_36 i hi).2; omega)
    have es : ∀ k, k ≠ 5 → (B1 0).getD k 0 = (B 0).getD k 0 := fun k hk => by rw [b0, gd_set_ne (fun z => hk z.symm)]
    unfold HS RLaw RDeeds RMinds RFr at *
    refine ⟨⟨by rw [b0, List.length_set]; exact g0, by rw [b0, gd_set_same (by omega)], by rw [es 6 (by decide)]; exact g6, by rw [es 7 (by decide)]; exact g7, by rw [es 8 (by decide)]; exact g8⟩, ?_⟩
    rw [es 35 (by decide), es 37 (by decide), es 39 (by decide), bj 9 (by decide) (by decide), bj 10 (by decide) (by decide), bj 11 (by decide) (by decide), bj 12 (by decide) (by decide), bj 13 (by decide) (by decide), bj 14 (by decide) (by decide), bj 15 (by decide) (by decide), bj 17 (by decide) (by decide), bj 18 (by decide) (by decide), bj 19 (by decide) (by decide), bj 20 (by decide) (by decide), bj 21 (by decide) (by decide)]
    simp only [Nat.reduceAdd] at *
    rw [e1 3 (by decide)]
    rw [e1 4 (by decide)]
    rw [e1 5 (by decide)]
    rw [e1 6 (by decide)]
    rw [e1 7 (by decide)]
    rw [e1 8 (by decide)]
    rw [e1 9 (by decide)]
    rw [e1 10 (by decide)]
    rw [e1 11 (by decide)]
    rw [e1 12 (by decide)]
    rw [e1 13 (by decide)]
    rw [e1 14 (by decide)]
    rw [e1 15 (by decide)]
    rw [e1 16 (by decide)]
    rw [e1 17 (by decide)]
    rw [e1 18 (by decide)]
    rw [e1 19 (by decide)]
    rw [e1 20 (by decide)]
    rw [e1 21 (by decide)]
    rw [e1 22 (by decide)]
    rw [e1 23 (by decide)]
    rw [e1 24 (by decide)]
    rw [e1 35 (by decide)]
    exact ⟨a, b, c, d, f, g1, g2⟩
  · by_cases q : 99 ≤ j ∧ j < 112
    · have w1 := hW1.1
      have w2 := hA.1
      unfold WL at w1 w2
      simp only [Nat.reduceAdd] at w1 w2
      rcases (show j = 99 ∨ j = 100 ∨ j = 101 ∨ j = 102 ∨ j = 103 ∨ j = 104 ∨ j = 105 ∨ j = 106 ∨ j = 107 ∨ j = 108 ∨ j = 109 ∨ j = 110 ∨ j = 111 by omega) with z | z | z | z | z | z | z | z | z | z | z | z | z <;> subst z <;> omega
    · rw [c6 j (by omega)]
  · by_cases q0 : i = 0
    · subst q0; rw [b0, List.length_set]
    · by_cases q3 : i = 3
      · subst q3; rw [hB1, up_ne _ _ (by decide), up_same, h1, h3]
      · rw [bj i q0 q3]
theorem th_day {A B A1 B1 : Bk} {np nc nt : Nat} (t : TH A B A1 B1 np nc nt) : ∃ r A2 B2, lf rh32 49 gX1_passDay A1 = some (r, A2) ∧ gX11_goesBy B1 = some (r, B2) ∧ TH A B A2 B2 np nc nt := by
  obtain ⟨⟨ks, wh, hR⟩, t1, t2, t3, t4, t5, t6, t7⟩ := t
  obtain ⟨r, H', B2, g1, g2, ks', wh', g3, ⟨⟨f1, f2, f3, f4, f5, f6⟩, f7⟩⟩ := day_h hR
  have hfl := f7 hR.2.1.2
  obtain ⟨A2, hA2⟩ : ∃ z, z = pu rh32 49 H' A1 := ⟨_, rfl⟩
  have ain : ∀ i, i < 49 → A2 (rh32 i) = H' i := fun i hi => by rw [hA2]; exact pu_in rh32_inj hi H' A1
  have aout : ∀ j, (∀ i, i < 49 → rh32 i ≠ j) → A2 j = A1 j := fun j hj => by rw [hA2]; exact pu_out hj _ _
  have key : ∀ j, j < 211 → (∃ i, i < 49 ∧ rh32 i = j) ∨ (∀ i, i < 49 → rh32 i ≠ j) := fun j _ => by
    by_cases q : ∃ i, i < 49 ∧ rh32 i = j
    · exact Or.inl q
    · exact Or.inr (fun i hi e => q ⟨i, hi, e⟩)
  have hWL1 := hR.1.1
  have hWL2 := g3.1.1
  have bl : ∀ i, i < 38 → (B2 i).length = (B1 i).length := fun i hi => by
    by_cases q1 : i = 1
    · subst q1; rw [g3.1.2.1.1, hR.1.2.1.1]
    · by_cases q6 : i = 6
      · subst q6; rw [g3.2.2.1.2, hR.2.2.1.2]
      · by_cases q20 : i = 20
        · subst q20; exact f5
        · by_cases q21 : i = 21
          · subst q21; exact f6
          · rw [f4 i q1 q6 q20 q21]
  refine ⟨r, A2, B2, by rw [hA2]; exact lf_run g1, g2, ⟨ks', wh', HR_congr g3 (fun i hi => ain i hi)⟩, fun j a b c d => ?_, fun j a => ?_, ?_, fun i a b c d => ?_, fun i hi => by rw [bl i hi, t5 i hi], by rw [f4 3 (by decide) (by decide) (by decide) (by decide), t6], by rw [f4 0 (by decide) (by decide) (by decide) (by decide), t7]⟩
  · rw [← t1 j a b c d]
    rcases key j a with ⟨i, hi, e⟩ | q
    · subst e
      have hv := rh32_v i hi
      have h36 : i < 36 := by
        rcases Nat.lt_or_ge i 36 with z | z
        · exact z
        · rw [if_neg (by omega)] at hv; omega
      rw [ain i hi]
      by_cases q2 : i = 2
      · subst q2; exact hfl.1
      · exact f1 i h36 q2 (by rintro rfl; exact b (by decide)) (by rintro rfl; exact c (by decide))
    · exact aout j q
  · rw [← t2 j a]
    rcases key j a with ⟨i, hi, e⟩ | q
    · subst e
      rw [ain i hi]
      show (H' i).length = ((fun i => A1 (rh32 i)) i).length
      by_cases h36 : i < 36
      · by_cases q9 : i = 9
        · subst q9; exact f2
        · by_cases q35 : i = 35
          · subst q35; exact f3
          · by_cases q2 : i = 2
            · subst q2; rw [hfl.1]
            · rw [f1 i h36 q2 q9 q35]
      · have e1 : ∀ k, k < 13 → (H' (rh12 k)).length = ((fun i => A1 (rh32 i)) (rh12 k)).length := by
          intro k hk
          exact WL_len hWL2 hWL1 k hk
        have := e1 (i - 36) (by omega)
        rw [rh12_v _ (by omega), show 36 + (i - 36) = i by omega] at this
        exact this
    · rw [aout j q]
  · have := ain 36 (by decide)
    have e : rh32 36 = 99 := by decide
    rw [e] at this
    rw [this]; exact hfl.2
  · have hd : i ≠ 20 ∧ i ≠ 21 := ⟨by rintro rfl; exact absurd d (by decide), by rintro rfl; exact absurd d (by decide)⟩
    by_cases q6 : i = 6
    · subst q6
      have e1 : H' 2 = B2 6 := g3.2.2.1.1
      have e2 : (fun i => A1 (rh32 i)) 2 = B1 6 := hR.2.2.1.1
      rw [← e1, hfl.1, e2]; exact t4 6 a b c d
    · rw [f4 i c q6 hd.1 hd.2]; exact t4 i a b c d
