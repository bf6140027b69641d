/-! PURE: table, the class lays it -/
def fl71B (v1 : Int32) (x1 : Int32) : (Int32 → MM Int32) → Int32 → MM Int32 := fun (self2 : Int32 → MM Int32) (s3 : Int32) =>
  (if v1 ≤ s3 then
  pr 0
  else
  bd (sa 0 s3 x1) fun _ =>
  lt (s3 + 1) fun y4 =>
  self2 y4)
def fl71 (v1 : Int32) (x1 : Int32) : MM Int32 := loopC 100000 (fl71B v1 x1) 0
theorem fl7_eq (x1 : Int32) : gJ7_fill_53178 x1 =
  bd (ln 0) fun v1 =>
  (fl71 v1 x1) := rfl
set_option maxHeartbeats 400000 in
theorem p_fill {A : Bk} (hl : (A 0).length = 16) : Ht (gJ7_fill_53178 (-1) A) (fun r A' => r = 0 ∧ ∃ l : List Int32, A' = up A 0 l ∧ l.length = 16 ∧ ∀ p, p < 16 → l.getD p 0 = -nI 1) := by
  rw [fl7_eq, bd_ln, hl]
  unfold fl71
  refine loopI 16 (fun j s A' => s = nI j ∧ ∃ l : List Int32, A' = up A 0 l ∧ l.length = 16 ∧ ∀ p, p < j → l.getD p 0 = -nI 1) _ (fun j s A' hj hI => ?_) (fun s A' hI f => ?_) (by omega) ⟨rfl, A 0, (up_self A 0).symm, hl, fun p hp => absurd hp (Nat.not_lt_zero p)⟩
  · obtain ⟨rfl, l, rfl, h1, h2⟩ := hI
    have n1 : ¬ 16 ≤ j := by omega
    refine ⟨nI (j + 1), up A 0 (l.set j (-nI 1)), fun f => ?_, rfl, _, rfl, by rw [List.length_set, h1], fun p hp => ?_⟩
    · unfold fl71B
      simp (disch := first | omega | (simp only [up_ap, List.length_set, Nat.reduceEqDiff, reduceIte, h1] <;> omega)) only [Int32.le_refl, bd_pr, pr_ap, jn_eq, lt_eq, bd_bd, bd_ite, ite_ap, bd_ld, bd_sv, bd_la, bd_sa, bd_ln, bd_rz0, bd_rz1, rz_n0, rz_n1, e_lit2, nI_z, nI_eq0, nI_0eq, nI_le0, nI_lt0, nI_0lt, nI_0le, e_001, e_n10, e_n1lt, bd_la0, bd_sa0, bd_rz00, rz_0, rz_1, b2i_0, Int32.add_zero, Int32.zero_add, nI_add, nI_pred2, pk_sub, pk_mul, pk_div, e_nz, nI_eq, nI_leI, nI_ltI, e_nm1, e_nm2, up_ap, gd_set_ne, gd_set_same, List.length_set, Nat.add_sub_cancel, Nat.reduceEqDiff, Nat.reduceAdd, Nat.reduceMul, Nat.reduceSub, Nat.reduceLT, Nat.reduceLeDiff, reduceIte, Nat.not_lt_zero, not_true_eq_false, not_false_eq_true, and_true, true_and, and_false, false_and, n1, up_up]
    · by_cases e : p = j
      · subst e; rw [gd_set_same (by omega)]
      · rw [gd_set_ne (fun z => e z.symm)]; exact h2 p (by omega)
  · obtain ⟨rfl, l, rfl, h1, h2⟩ := hI
    unfold fl71B
    rw [if_pos (Int32.le_refl _)]
    exact ⟨0, _, rfl, rfl, l, rfl, h1, h2⟩
