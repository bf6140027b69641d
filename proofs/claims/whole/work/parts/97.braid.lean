/-! PURE: braid, rows -/
def rw2B (s6 : Int32) (self5 : Int32 → MM Int32) : (Int32 → MM Int32) → Int32 → MM Int32 := fun (self8 : Int32 → MM Int32) (s9 : Int32) =>
  (if 11 ≤ s9 then
  lt (s6 + 1) fun y10 =>
  self5 y10
  else
  jn (fun (a12 : Int32) =>
  jn (fun (a14 : Int32) =>
  bd (sa 34 ((11 * s6) + s9) a14) fun _ =>
  lt (s9 + 1) fun y15 =>
  self8 y15) (fun j13 =>
  (if s6 ≤ 0 then
  j13 a12
  else
  jn (fun (a17 : Int32) =>
  bd (la 34 ((11 * (s6 - 1)) + s9)) fun v18 =>
  lt (a17 + (((s6 - 1) + s9) * v18)) fun y19 =>
  j13 y19) (fun j16 =>
  (if s9 = 0 then
  j16 0
  else
  bd (la 34 (((11 * (s6 - 1)) + s9) - 1)) fun v20 =>
  j16 v20))))) (fun j11 =>
  jn (fun (a22 : Unit) =>
  j11 0) (fun j21 =>
  (if s6 = 0 then
  (if s9 = 0 then
  j11 1
  else
  j21 ())
  else
  j21 ()))))
def rw2 (s6 : Int32) (self5 : Int32 → MM Int32) : MM Int32 := loopC 100000 (rw2B s6 self5) 0
def rw1B (x1 : Int32) (x2 : Int32) : (Int32 → MM Int32) → Int32 → MM Int32 := fun (self5 : Int32 → MM Int32) (s6 : Int32) =>
  (if x1 < s6 then
  bd (la 34 ((11 * x1) + x2)) fun v7 =>
  pr v7
  else
  (rw2 s6 self5))
def rw1 (x1 : Int32) (x2 : Int32) : MM Int32 := loopC 100000 (rw1B x1 x2) 0
theorem rw_eq (x1 x2 : Int32) : gX11_rows x1 x2 =
  bd (sv 0 0 0) fun _ =>
  bd (gX11_isIn x1 0 10) fun r1 =>
  jn (fun (a3 : Unit) =>
  pr ((-1))) (fun j2 =>
  (if r1 = 0 then
  j2 ()
  else
  bd (gX11_isIn x2 0 10) fun r4 =>
  (if r4 = 0 then
  j2 ()
  else
  (rw1 x1 x2)))) := rfl
set_option maxHeartbeats 400000 in
theorem p_abs (v : Int32) (A : Bk) : gJ9_abs_0f7a4 v A = some (if 0 ≤ v then v else -v, A) := by
  unfold gJ9_abs_0f7a4
  by_cases h : 0 ≤ v
  · have h2 : ¬ v < 0 := Int32.not_lt.mpr h
    rw [if_pos h]
    simp (disch := first | omega | (simp only [up_ap, List.length_set, Nat.reduceEqDiff, reduceIte] <;> omega)) only [Int32.le_refl, bd_pr, pr_ap, jn_eq, lt_eq, bd_bd, bd_ite, ite_ap, bd_ld, bd_sv, bd_la, bd_sa, bd_ln, bd_rz0, bd_rz1, rz_n0, rz_n1, e_lit2, nI_z, nI_eq0, nI_0eq, nI_le0, nI_lt0, nI_0lt, nI_0le, e_001, e_n10, e_n1lt, bd_la0, bd_sa0, bd_rz00, rz_0, rz_1, b2i_0, Int32.add_zero, Int32.zero_add, nI_add, nI_pred2, pk_sub, pk_mul, pk_div, e_nz, nI_eq, nI_leI, nI_ltI, e_nm1, e_nm2, up_ap, gd_set_ne, gd_set_same, List.length_set, Nat.add_sub_cancel, Nat.reduceEqDiff, Nat.reduceAdd, Nat.reduceMul, Nat.reduceSub, Nat.reduceLT, Nat.reduceLeDiff, reduceIte, Nat.not_lt_zero, not_true_eq_false, not_false_eq_true, and_true, true_and, and_false, false_and, h, h2]
  · have h2 : v < 0 := Int32.not_le.mp h
    rw [if_neg h]
    simp (disch := first | omega | (simp only [up_ap, List.length_set, Nat.reduceEqDiff, reduceIte] <;> omega)) only [Int32.le_refl, bd_pr, pr_ap, jn_eq, lt_eq, bd_bd, bd_ite, ite_ap, bd_ld, bd_sv, bd_la, bd_sa, bd_ln, bd_rz0, bd_rz1, rz_n0, rz_n1, e_lit2, nI_z, nI_eq0, nI_0eq, nI_le0, nI_lt0, nI_0lt, nI_0le, e_001, e_n10, e_n1lt, bd_la0, bd_sa0, bd_rz00, rz_0, rz_1, b2i_0, Int32.add_zero, Int32.zero_add, nI_add, nI_pred2, pk_sub, pk_mul, pk_div, e_nz, nI_eq, nI_leI, nI_ltI, e_nm1, e_nm2, up_ap, gd_set_ne, gd_set_same, List.length_set, Nat.add_sub_cancel, Nat.reduceEqDiff, Nat.reduceAdd, Nat.reduceMul, Nat.reduceSub, Nat.reduceLT, Nat.reduceLeDiff, reduceIte, Nat.not_lt_zero, not_true_eq_false, not_false_eq_true, and_true, true_and, and_false, false_and, h, h2]
theorem ne_pred (a : Int32) : ¬ a = a - 1 := by
  intro h
  have h2 : a - a = a - (a - 1) := congrArg (fun z => a - z) h
  rw [Int32.sub_self] at h2
  have h3 : a - (a - 1) = 1 := by
    rw [Int32.sub_eq_add_neg, Int32.neg_sub, Int32.add_comm, Int32.sub_add_cancel]
  rw [h3] at h2
  exact absurd h2 (by decide)
def atS (p v : Int32) : Int32 := if p = (if 0 ≤ v then v else -v) then (if 0 ≤ v then v else -v) - 1 else if p = (if 0 ≤ v then v else -v) - 1 then (if 0 ≤ v then v else -v) else p
theorem atS_r (p v : Int32) : (if p = (if 0 ≤ v then v else -v) - 1 then (if 0 ≤ v then v else -v) else if p = (if 0 ≤ v then v else -v) then (if 0 ≤ v then v else -v) - 1 else p) = atS p v := by
  unfold atS
  by_cases h1 : p = (if 0 ≤ v then v else -v)
  · have h2 : ¬ p = (if 0 ≤ v then v else -v) - 1 := by rw [h1]; exact ne_pred _
    rw [if_neg h2, if_pos h1, if_pos h1]
  · rw [if_neg h1, if_neg h1]
set_option maxHeartbeats 400000 in
theorem br_step {B : Bk} {x p : Int32} {k l j : Nat} {cl : List Int32} (b0 : (B 0).length = 68) (b43 : (B 0).getD 43 0 = nI k) (hk : k ≤ 12) (m22 : (B 22).length = 12) (hcl : cl.length = 12) (hj : j < k) (hl : l ≤ j) (f : Int32 × Int32 × Int32 → MM Int32) :
    br1B x f (p, nI l, nI j) (up B 23 cl) = if 0 < l ∧ cl.getD (l - 1) 0 = -(B 22).getD j 0 then f (atS p ((B 22).getD j 0), nI (l - 1), nI (j + 1)) (up B 23 cl) else f (atS p ((B 22).getD j 0), nI (l + 1), nI (j + 1)) (up B 23 (cl.set l ((B 22).getD j 0))) := by
  obtain ⟨v, hv⟩ : ∃ v, (B 22).getD j 0 = v := ⟨_, rfl⟩
  obtain ⟨a, ha⟩ : ∃ a, (if 0 ≤ v then v else -v) = a := ⟨_, rfl⟩
  have n1 : ¬ k ≤ j := by omega
  have hat := atS_r p v
  rw [ha] at hat
  rw [hv]
  have main : ∀ q : Int32, q = atS p v → (∀ K : Int32 → Int32, True) → (if l = 0 then f (q, nI (l + 1), nI (j + 1)) (up B 23 (cl.set l v)) else if cl.getD (l - 1) 0 = -v then f (q, nI (l - 1), nI (j + 1)) (up B 23 cl) else f (q, nI (l + 1), nI (j + 1)) (up B 23 (cl.set l v))) = if 0 < l ∧ cl.getD (l - 1) 0 = -v then f (atS p v, nI (l - 1), nI (j + 1)) (up B 23 cl) else f (atS p v, nI (l + 1), nI (j + 1)) (up B 23 (cl.set l v)) := by
    intro q hq _
    subst hq
    by_cases h1 : l = 0
    · rw [if_pos h1, if_neg (fun z => by omega)]
    · rw [if_neg h1]
      by_cases h2 : cl.getD (l - 1) 0 = -v
      · rw [if_pos h2, if_pos ⟨by omega, h2⟩]
      · rw [if_neg h2, if_neg (fun z => h2 z.2)]
  rw [← main (atS p v) rfl (fun _ => trivial)]
  have hll : ¬ l = 0 → nI l - nI 1 = nI (l - 1) := fun h => pk_sub (by omega)
  unfold br1B
  by_cases h0 : 0 ≤ v
  · rw [if_pos h0] at ha
    subst ha
    by_cases q1 : p = v - nI 1
    · have e : atS p v = v := by rw [← hat]; exact if_pos q1
      rw [e]
      by_cases h1 : l = 0
      · simp (disch := first | omega | (simp only [up_ap, List.length_set, Nat.reduceEqDiff, reduceIte, hcl] <;> omega)) only [Int32.le_refl, bd_pr, pr_ap, jn_eq, lt_eq, bd_bd, bd_ite, ite_ap, bd_ld, bd_sv, bd_la, bd_sa, bd_ln, bd_rz0, bd_rz1, rz_n0, rz_n1, e_lit2, nI_z, nI_eq0, nI_0eq, nI_le0, nI_lt0, nI_0lt, nI_0le, e_001, e_n10, e_n1lt, bd_la0, bd_sa0, bd_rz00, rz_0, rz_1, b2i_0, Int32.add_zero, Int32.zero_add, nI_add, nI_pred2, pk_sub, pk_mul, pk_div, e_nz, nI_eq, nI_leI, nI_ltI, e_nm1, e_nm2, up_ap, gd_set_ne, gd_set_same, List.length_set, Nat.add_sub_cancel, Nat.reduceEqDiff, Nat.reduceAdd, Nat.reduceMul, Nat.reduceSub, Nat.reduceLT, Nat.reduceLeDiff, reduceIte, Nat.not_lt_zero, not_true_eq_false, not_false_eq_true, and_true, true_and, and_false, false_and, b43, n1, hv, h0, q1, h1, up_up]
      · by_cases h2 : cl.getD (l - 1) 0 = -v
        · simp (disch := first | omega | (simp only [up_ap, List.length_set, Nat.reduceEqDiff, reduceIte, hcl] <;> omega)) only [Int32.le_refl, bd_pr, pr_ap, jn_eq, lt_eq, bd_bd, bd_ite, ite_ap, bd_ld, bd_sv, bd_la, bd_sa, bd_ln, bd_rz0, bd_rz1, rz_n0, rz_n1, e_lit2, nI_z, nI_eq0, nI_0eq, nI_le0, nI_lt0, nI_0lt, nI_0le, e_001, e_n10, e_n1lt, bd_la0, bd_sa0, bd_rz00, rz_0, rz_1, b2i_0, Int32.add_zero, Int32.zero_add, nI_add, nI_pred2, pk_sub, pk_mul, pk_div, e_nz, nI_eq, nI_leI, nI_ltI, e_nm1, e_nm2, up_ap, gd_set_ne, gd_set_same, List.length_set, Nat.add_sub_cancel, Nat.reduceEqDiff, Nat.reduceAdd, Nat.reduceMul, Nat.reduceSub, Nat.reduceLT, Nat.reduceLeDiff, reduceIte, Nat.not_lt_zero, not_true_eq_false, not_false_eq_true, and_true, true_and, and_false, false_and, b43, n1, hv, h0, q1, h1, h2, up_up]
        · simp (disch := first | omega | (simp only [up_ap, List.length_set, Nat.reduceEqDiff, reduceIte, hcl] <;> omega)) only [Int32.le_refl, bd_pr, pr_ap, jn_eq, lt_eq, bd_bd, bd_ite, ite_ap, bd_ld, bd_sv, bd_la, bd_sa, bd_ln, bd_rz0, bd_rz1, rz_n0, rz_n1, e_lit2, nI_z, nI_eq0, nI_0eq, nI_le0, nI_lt0, nI_0lt, nI_0le, e_001, e_n10, e_n1lt, bd_la0, bd_sa0, bd_rz00, rz_0, rz_1, b2i_0, Int32.add_zero, Int32.zero_add, nI_add, nI_pred2, pk_sub, pk_mul, pk_div, e_nz, nI_eq, nI_leI, nI_ltI, e_nm1, e_nm2, up_ap, gd_set_ne, gd_set_same, List.length_set, Nat.add_sub_cancel, Nat.reduceEqDiff, Nat.reduceAdd, Nat.reduceMul, Nat.reduceSub, Nat.reduceLT, Nat.reduceLeDiff, reduceIte, Nat.not_lt_zero, not_true_eq_false, not_false_eq_true, and_true, true_and, and_false, false_and, b43, n1, hv, h0, q1, h1, h2, up_up]
    · by_cases q2 : p = v
      · have e : atS p v = v - nI 1 := by rw [← hat]; exact (if_neg q1).trans (if_pos q2)
        rw [e]
        have q3 : ¬ v = v - nI 1 := ne_pred v
        subst q2
        by_cases h1 : l = 0
        · simp (disch := first | omega | (simp only [up_ap, List.length_set, Nat.reduceEqDiff, reduceIte, hcl] <;> omega)) only [Int32.le_refl, bd_pr, pr_ap, jn_eq, lt_eq, bd_bd, bd_ite, ite_ap, bd_ld, bd_sv, bd_la, bd_sa, bd_ln, bd_rz0, bd_rz1, rz_n0, rz_n1, e_lit2, nI_z, nI_eq0, nI_0eq, nI_le0, nI_lt0, nI_0lt, nI_0le, e_001, e_n10, e_n1lt, bd_la0, bd_sa0, bd_rz00, rz_0, rz_1, b2i_0, Int32.add_zero, Int32.zero_add, nI_add, nI_pred2, pk_sub, pk_mul, pk_div, e_nz, nI_eq, nI_leI, nI_ltI, e_nm1, e_nm2, up_ap, gd_set_ne, gd_set_same, List.length_set, Nat.add_sub_cancel, Nat.reduceEqDiff, Nat.reduceAdd, Nat.reduceMul, Nat.reduceSub, Nat.reduceLT, Nat.reduceLeDiff, reduceIte, Nat.not_lt_zero, not_true_eq_false, not_false_eq_true, and_true, true_and, and_false, false_and, b43, n1, hv, h0, q3, h1, up_up]
        · by_cases h2 : cl.getD (l - 1) 0 = -p
          · simp (disch := first | omega | (simp only [up_ap, List.length_set, Nat.reduceEqDiff, reduceIte, hcl] <;> omega)) only [Int32.le_refl, bd_pr, pr_ap, jn_eq, lt_eq, bd_bd, bd_ite, ite_ap, bd_ld, bd_sv, bd_la, bd_sa, bd_ln, bd_rz0, bd_rz1, rz_n0, rz_n1, e_lit2, nI_z, nI_eq0, nI_0eq, nI_le0, nI_lt0, nI_0lt, nI_0le, e_001, e_n10, e_n1lt, bd_la0, bd_sa0, bd_rz00, rz_0, rz_1, b2i_0, Int32.add_zero, Int32.zero_add, nI_add, nI_pred2, pk_sub, pk_mul, pk_div, e_nz, nI_eq, nI_leI, nI_ltI, e_nm1, e_nm2, up_ap, gd_set_ne, gd_set_same, List.length_set, Nat.add_sub_cancel, Nat.reduceEqDiff, Nat.reduceAdd, Nat.reduceMul, Nat.reduceSub, Nat.reduceLT, Nat.reduceLeDiff, reduceIte, Nat.not_lt_zero, not_true_eq_false, not_false_eq_true, and_true, true_and, and_false, false_and, b43, n1, hv, h0, q3, h1, h2, up_up]
          · simp (disch := first | omega | (simp only [up_ap, List.length_set, Nat.reduceEqDiff, reduceIte, hcl] <;> omega)) only [Int32.le_refl, bd_pr, pr_ap, jn_eq, lt_eq, bd_bd, bd_ite, ite_ap, bd_ld, bd_sv, bd_la, bd_sa, bd_ln, bd_rz0, bd_rz1, rz_n0, rz_n1, e_lit2, nI_z, nI_eq0, nI_0eq, nI_le0, nI_lt0, nI_0lt, nI_0le, e_001, e_n10, e_n1lt, bd_la0, bd_sa0, bd_rz00, rz_0, rz_1, b2i_0, Int32.add_zero, Int32.zero_add, nI_add, nI_pred2, pk_sub, pk_mul, pk_div, e_nz, nI_eq, nI_leI, nI_ltI, e_nm1, e_nm2, up_ap, gd_set_ne, gd_set_same, List.length_set, Nat.add_sub_cancel, Nat.reduceEqDiff, Nat.reduceAdd, Nat.reduceMul, Nat.reduceSub, Nat.reduceLT, Nat.reduceLeDiff, reduceIte, Nat.not_lt_zero, not_true_eq_false, not_false_eq_true, and_true, true_and, and_false, false_and, b43, n1, hv, h0, q3, h1, h2, up_up]
      · have e : atS p v = p := by rw [← hat]; exact (if_neg q1).trans (if_neg q2)
        rw [e]
        by_cases h1 : l = 0
        · simp (disch := first | omega | (simp only [up_ap, List.length_set, Nat.reduceEqDiff, reduceIte, hcl] <;> omega)) only [Int32.le_refl, bd_pr, pr_ap, jn_eq, lt_eq, bd_bd, bd_ite, ite_ap, bd_ld, bd_sv, bd_la, bd_sa, bd_ln, bd_rz0, bd_rz1, rz_n0, rz_n1, e_lit2, nI_z, nI_eq0, nI_0eq, nI_le0, nI_lt0, nI_0lt, nI_0le, e_001, e_n10, e_n1lt, bd_la0, bd_sa0, bd_rz00, rz_0, rz_1, b2i_0, Int32.add_zero, Int32.zero_add, nI_add, nI_pred2, pk_sub, pk_mul, pk_div, e_nz, nI_eq, nI_leI, nI_ltI, e_nm1, e_nm2, up_ap, gd_set_ne, gd_set_same, List.length_set, Nat.add_sub_cancel, Nat.reduceEqDiff, Nat.reduceAdd, Nat.reduceMul, Nat.reduceSub, Nat.reduceLT, Nat.reduceLeDiff, reduceIte, Nat.not_lt_zero, not_true_eq_false, not_false_eq_true, and_true, true_and, and_false, false_and, b43, n1, hv, h0, q1, q2, h1, up_up]
        · by_cases h2 : cl.getD (l - 1) 0 = -v
          · simp (disch := first | omega | (simp only [up_ap, List.length_set, Nat.reduceEqDiff, reduceIte, hcl] <;> omega)) only [Int32.le_refl, bd_pr, pr_ap, jn_eq, lt_eq, bd_bd, bd_ite, ite_ap, bd_ld, bd_sv, bd_la, bd_sa, bd_ln, bd_rz0, bd_rz1, rz_n0, rz_n1, e_lit2, nI_z, nI_eq0, nI_0eq, nI_le0, nI_lt0, nI_0lt, nI_0le, e_001, e_n10, e_n1lt, bd_la0, bd_sa0, bd_rz00, rz_0, rz_1, b2i_0, Int32.add_zero, Int32.zero_add, nI_add, nI_pred2, pk_sub, pk_mul, pk_div, e_nz, nI_eq, nI_leI, nI_ltI, e_nm1, e_nm2, up_ap, gd_set_ne, gd_set_same, List.length_set, Nat.add_sub_cancel, Nat.reduceEqDiff, Nat.reduceAdd, Nat.reduceMul, Nat.reduceSub, Nat.reduceLT, Nat.reduceLeDiff, reduceIte, Nat.not_lt_zero, not_true_eq_false, not_false_eq_true, and_true, true_and, and_false, false_and, b43, n1, hv, h0, q1, q2, h1, h2, up_up]
          · simp (disch := first | omega | (simp only [up_ap, List.length_set, Nat.reduceEqDiff, reduceIte, hcl] <;> omega)) only [Int32.le_refl, bd_pr, pr_ap, jn_eq, lt_eq, bd_bd, bd_ite, ite_ap, bd_ld, bd_sv, bd_la, bd_sa, bd_ln, bd_rz0, bd_rz1, rz_n0, rz_n1, e_lit2, nI_z, nI_eq0, nI_0eq, nI_le0, nI_lt0, nI_0lt, nI_0le, e_001, e_n10, e_n1lt, bd_la0, bd_sa0, bd_rz00, rz_0, rz_1, b2i_0, Int32.add_zero, Int32.zero_add, nI_add, nI_pred2, pk_sub, pk_mul, pk_div, e_nz, nI_eq, nI_leI, nI_ltI, e_nm1, e_nm2, up_ap, gd_set_ne, gd_set_same, List.length_set, Nat.add_sub_cancel, Nat.reduceEqDiff, Nat.reduceAdd, Nat.reduceMul, Nat.reduceSub, Nat.reduceLT, Nat.reduceLeDiff, reduceIte, Nat.not_lt_zero, not_true_eq_false, not_false_eq_true, and_true, true_and, and_false, false_and, b43, n1, hv, h0, q1, q2, h1, h2, up_up]
  · rw [if_neg h0] at ha
    by_cases q1 : p = a - nI 1
    · have e : atS p v = a := by rw [← hat]; exact if_pos q1
      rw [e]
      by_cases h1 : l = 0
      · simp (disch := first | omega | (simp only [up_ap, List.length_set, Nat.reduceEqDiff, reduceIte, hcl] <;> omega)) only [Int32.le_refl, bd_pr, pr_ap, jn_eq, lt_eq, bd_bd, bd_ite, ite_ap, bd_ld, bd_sv, bd_la, bd_sa, bd_ln, bd_rz0, bd_rz1, rz_n0, rz_n1, e_lit2, nI_z, nI_eq0, nI_0eq, nI_le0, nI_lt0, nI_0lt, nI_0le, e_001, e_n10, e_n1lt, bd_la0, bd_sa0, bd_rz00, rz_0, rz_1, b2i_0, Int32.add_zero, Int32.zero_add, nI_add, nI_pred2, pk_sub, pk_mul, pk_div, e_nz, nI_eq, nI_leI, nI_ltI, e_nm1, e_nm2, up_ap, gd_set_ne, gd_set_same, List.length_set, Nat.add_sub_cancel, Nat.reduceEqDiff, Nat.reduceAdd, Nat.reduceMul, Nat.reduceSub, Nat.reduceLT, Nat.reduceLeDiff, reduceIte, Nat.not_lt_zero, not_true_eq_false, not_false_eq_true, and_true, true_and, and_false, false_and, b43, n1, hv, h0, ha, q1, h1, up_up]
      · by_cases h2 : cl.getD (l - 1) 0 = a
        · simp (disch := first | omega | (simp only [up_ap, List.length_set, Nat.reduceEqDiff, reduceIte, hcl] <;> omega)) only [Int32.le_refl, bd_pr, pr_ap, jn_eq, lt_eq, bd_bd, bd_ite, ite_ap, bd_ld, bd_sv, bd_la, bd_sa, bd_ln, bd_rz0, bd_rz1, rz_n0, rz_n1, e_lit2, nI_z, nI_eq0, nI_0eq, nI_le0, nI_lt0, nI_0lt, nI_0le, e_001, e_n10, e_n1lt, bd_la0, bd_sa0, bd_rz00, rz_0, rz_1, b2i_0, Int32.add_zero, Int32.zero_add, nI_add, nI_pred2, pk_sub, pk_mul, pk_div, e_nz, nI_eq, nI_leI, nI_ltI, e_nm1, e_nm2, up_ap, gd_set_ne, gd_set_same, List.length_set, Nat.add_sub_cancel, Nat.reduceEqDiff, Nat.reduceAdd, Nat.reduceMul, Nat.reduceSub, Nat.reduceLT, Nat.reduceLeDiff, reduceIte, Nat.not_lt_zero, not_true_eq_false, not_false_eq_true, and_true, true_and, and_false, false_and, b43, n1, hv, h0, ha, q1, h1, h2, up_up]
        · simp (disch := first | omega | (simp only [up_ap, List.length_set, Nat.reduceEqDiff, reduceIte, hcl] <;> omega)) only [Int32.le_refl, bd_pr, pr_ap, jn_eq, lt_eq, bd_bd, bd_ite, ite_ap, bd_ld, bd_sv, bd_la, bd_sa, bd_ln, bd_rz0, bd_rz1, rz_n0, rz_n1, e_lit2, nI_z, nI_eq0, nI_0eq, nI_le0, nI_lt0, nI_0lt, nI_0le, e_001, e_n10, e_n1lt, bd_la0, bd_sa0, bd_rz00, rz_0, rz_1, b2i_0, Int32.add_zero, Int32.zero_add, nI_add, nI_pred2, pk_sub, pk_mul, pk_div, e_nz, nI_eq, nI_leI, nI_ltI, e_nm1, e_nm2, up_ap, gd_set_ne, gd_set_same, List.length_set, Nat.add_sub_cancel, Nat.reduceEqDiff, Nat.reduceAdd, Nat.reduceMul, Nat.reduceSub, Nat.reduceLT, Nat.reduceLeDiff, reduceIte, Nat.not_lt_zero, not_true_eq_false, not_false_eq_true, and_true, true_and, and_false, false_and, b43, n1, hv, h0, ha, q1, h1, h2, up_up]
    · by_cases q2 : p = a
      · have e : atS p v = a - nI 1 := by rw [← hat]; exact (if_neg q1).trans (if_pos q2)
        rw [e]
        have q3 : ¬ a = a - nI 1 := ne_pred a
        subst q2
        by_cases h1 : l = 0
        · simp (disch := first | omega | (simp only [up_ap, List.length_set, Nat.reduceEqDiff, reduceIte, hcl] <;> omega)) only [Int32.le_refl, bd_pr, pr_ap, jn_eq, lt_eq, bd_bd, bd_ite, ite_ap, bd_ld, bd_sv, bd_la, bd_sa, bd_ln, bd_rz0, bd_rz1, rz_n0, rz_n1, e_lit2, nI_z, nI_eq0, nI_0eq, nI_le0, nI_lt0, nI_0lt, nI_0le, e_001, e_n10, e_n1lt, bd_la0, bd_sa0, bd_rz00, rz_0, rz_1, b2i_0, Int32.add_zero, Int32.zero_add, nI_add, nI_pred2, pk_sub, pk_mul, pk_div, e_nz, nI_eq, nI_leI, nI_ltI, e_nm1, e_nm2, up_ap, gd_set_ne, gd_set_same, List.length_set, Nat.add_sub_cancel, Nat.reduceEqDiff, Nat.reduceAdd, Nat.reduceMul, Nat.reduceSub, Nat.reduceLT, Nat.reduceLeDiff, reduceIte, Nat.not_lt_zero, not_true_eq_false, not_false_eq_true, and_true, true_and, and_false, false_and, b43, n1, hv, h0, ha, q3, h1, up_up]
        · by_cases h2 : cl.getD (l - 1) 0 = p
          · simp (disch := first | omega | (simp only [up_ap, List.length_set, Nat.reduceEqDiff, reduceIte, hcl] <;> omega)) only [Int32.le_refl, bd_pr, pr_ap, jn_eq, lt_eq, bd_bd, bd_ite, ite_ap, bd_ld, bd_sv, bd_la, bd_sa, bd_ln, bd_rz0, bd_rz1, rz_n0, rz_n1, e_lit2, nI_z, nI_eq0, nI_0eq, nI_le0, nI_lt0, nI_0lt, nI_0le, e_001, e_n10, e_n1lt, bd_la0, bd_sa0, bd_rz00, rz_0, rz_1, b2i_0, Int32.add_zero, Int32.zero_add, nI_add, nI_pred2, pk_sub, pk_mul, pk_div, e_nz, nI_eq, nI_leI, nI_ltI, e_nm1, e_nm2, up_ap, gd_set_ne, gd_set_same, List.length_set, Nat.add_sub_cancel, Nat.reduceEqDiff, Nat.reduceAdd, Nat.reduceMul, Nat.reduceSub, Nat.reduceLT, Nat.reduceLeDiff, reduceIte, Nat.not_lt_zero, not_true_eq_false, not_false_eq_true, and_true, true_and, and_false, false_and, b43, n1, hv, h0, ha, q3, h1, h2, up_up]
          · simp (disch := first | omega | (simp only [up_ap, List.length_set, Nat.reduceEqDiff, reduceIte, hcl] <;> omega)) only [Int32.le_refl, bd_pr, pr_ap, jn_eq, lt_eq, bd_bd, bd_ite, ite_ap, bd_ld, bd_sv, bd_la, bd_sa, bd_ln, bd_rz0, bd_rz1, rz_n0, rz_n1, e_lit2, nI_z, nI_eq0, nI_0eq, nI_le0, nI_lt0, nI_0lt, nI_0le, e_001, e_n10, e_n1lt, bd_la0, bd_sa0, bd_rz00, rz_0, rz_1, b2i_0, Int32.add_zero, Int32.zero_add, nI_add, nI_pred2, pk_sub, pk_mul, pk_div, e_nz, nI_eq, nI_leI, nI_ltI, e_nm1, e_nm2, up_ap, gd_set_ne, gd_set_same, List.length_set, Nat.add_sub_cancel, Nat.reduceEqDiff, Nat.reduceAdd, Nat.reduceMul, Nat.reduceSub, Nat.reduceLT, Nat.reduceLeDiff, reduceIte, Nat.not_lt_zero, not_true_eq_false, not_false_eq_true, and_true, true_and, and_false, false_and, b43, n1, hv, h0, ha, q3, h1, h2, up_up]
      · have e : atS p v = p := by rw [← hat]; exact (if_neg q1).trans (if_neg q2)
        rw [e]
        by_cases h1 : l = 0
        · simp (disch := first | omega | (simp only [up_ap, List.length_set, Nat.reduceEqDiff, reduceIte, hcl] <;> omega)) only [Int32.le_refl, bd_pr, pr_ap, jn_eq, lt_eq, bd_bd, bd_ite, ite_ap, bd_ld, bd_sv, bd_la, bd_sa, bd_ln, bd_rz0, bd_rz1, rz_n0, rz_n1, e_lit2, nI_z, nI_eq0, nI_0eq, nI_le0, nI_lt0, nI_0lt, nI_0le, e_001, e_n10, e_n1lt, bd_la0, bd_sa0, bd_rz00, rz_0, rz_1, b2i_0, Int32.add_zero, Int32.zero_add, nI_add, nI_pred2, pk_sub, pk_mul, pk_div, e_nz, nI_eq, nI_leI, nI_ltI, e_nm1, e_nm2, up_ap, gd_set_ne, gd_set_same, List.length_set, Nat.add_sub_cancel, Nat.reduceEqDiff, Nat.reduceAdd, Nat.reduceMul, Nat.reduceSub, Nat.reduceLT, Nat.reduceLeDiff, reduceIte, Nat.not_lt_zero, not_true_eq_false, not_false_eq_true, and_true, true_and, and_false, false_and, b43, n1, hv, h0, ha, q1, q2, h1, up_up]
        · by_cases h2 : cl.getD (l - 1) 0 = a
          · simp (disch := first | omega | (simp only [up_ap, List.length_set, Nat.reduceEqDiff, reduceIte, hcl] <;> omega)) only [Int32.le_refl, bd_pr, pr_ap, jn_eq, lt_eq, bd_bd, bd_ite, ite_ap, bd_ld, bd_sv, bd_la, bd_sa, bd_ln, bd_rz0, bd_rz1, rz_n0, rz_n1, e_lit2, nI_z, nI_eq0, nI_0eq, nI_le0, nI_lt0, nI_0lt, nI_0le, e_001, e_n10, e_n1lt, bd_la0, bd_sa0, bd_rz00, rz_0, rz_1, b2i_0, Int32.add_zero, Int32.zero_add, nI_add, nI_pred2, pk_sub, pk_mul, pk_div, e_nz, nI_eq, nI_leI, nI_ltI, e_nm1, e_nm2, up_ap, gd_set_ne, gd_set_same, List.length_set, Nat.add_sub_cancel, Nat.reduceEqDiff, Nat.reduceAdd, Nat.reduceMul, Nat.reduceSub, Nat.reduceLT, Nat.reduceLeDiff, reduceIte, Nat.not_lt_zero, not_true_eq_false, not_false_eq_true, and_true, true_and, and_false, false_and, b43, n1, hv, h0, ha, q1, q2, h1, h2, up_up]
          · simp (disch := first | omega | (simp only [up_ap, List.length_set, Nat.reduceEqDiff, reduceIte, hcl] <;> omega)) only [Int32.le_refl, bd_pr, pr_ap, jn_eq, lt_eq, bd_bd, bd_ite, ite_ap, bd_ld, bd_sv, bd_la, bd_sa, bd_ln, bd_rz0, bd_rz1, rz_n0, rz_n1, e_lit2, nI_z, nI_eq0, nI_0eq, nI_le0, nI_lt0, nI_0lt, nI_0le, e_001, e_n10, e_n1lt, bd_la0, bd_sa0, bd_rz00, rz_0, rz_1, b2i_0, Int32.add_zero, Int32.zero_add, nI_add, nI_pred2, pk_sub, pk_mul, pk_div, e_nz, nI_eq, nI_leI, nI_ltI, e_nm1, e_nm2, up_ap, gd_set_ne, gd_set_same, List.length_set, Nat.add_sub_cancel, Nat.reduceEqDiff, Nat.reduceAdd, Nat.reduceMul, Nat.reduceSub, Nat.reduceLT, Nat.reduceLeDiff, reduceIte, Nat.not_lt_zero, not_true_eq_false, not_false_eq_true, and_true, true_and, and_false, false_and, b43, n1, hv, h0, ha, q1, q2, h1, h2, up_up]
set_option maxHeartbeats 400000 in
theorem cr_step {T : Bk} {v : Int32} {k l j : Nat} {st : List Int32} (hk : k ≤ 12) (u4l : (T 4).length = 2) (u4 : (T 4).getD 0 0 = nI k) (t1 : T 1 = st) (hst : st.length = 12) (hj : j < k) (hl : l ≤ j) (hg : gX8_get (nI j) (fun i => T (rh20 i)) = some (v, fun i => T (rh20 i))) (f : Int32 × Int32 → MM Int32) :
    cr1B f (nI l, nI j) T = if 0 < l ∧ st.getD (l - 1) 0 = -v then f (nI (l - 1), nI (j + 1)) T else f (nI (l + 1), nI (j + 1)) (up T 1 (st.set l v)) := by
  have n1 : ¬ k ≤ j := by omega
  have n4 : ¬ 12 ≤ l := by omega
  have n3 : ¬ 12 < l := by omega
  have tl : (T 1).length = 12 := by rw [t1]; exact hst
  unfold cr1B
  rw [bd_ld _ (by omega), u4]
  rw [if_neg (show ¬ nI k ≤ nI j from nI_ge (by omega) (by omega)), bd_lf0 _ hg]
  by_cases h0 : l = 0
  · subst h0
    rw [if_neg (fun z => absurd z.1 (by decide))]
    simp (disch := first | omega | (simp only [up_ap, List.length_set, Nat.reduceEqDiff, reduceIte, t1] <;> omega)) only [Int32.le_refl, bd_pr, pr_ap, jn_eq, lt_eq, bd_bd, bd_ite, ite_ap, bd_ld, bd_sv, bd_la, bd_sa, bd_ln, bd_rz0, bd_rz1, rz_n0, rz_n1, e_lit2, nI_z, nI_eq0, nI_0eq, nI_le0, nI_lt0, nI_0lt, nI_0le, e_001, e_n10, e_n1lt, bd_la0, bd_sa0, bd_rz00, rz_0, rz_1, b2i_0, Int32.add_zero, Int32.zero_add, nI_add, nI_pred2, pk_sub, pk_mul, pk_div, e_nz, nI_eq, nI_leI, nI_ltI, e_nm1, e_nm2, up_ap, gd_set_ne, gd_set_same, List.length_set, Nat.add_sub_cancel, Nat.reduceEqDiff, Nat.reduceAdd, Nat.reduceMul, Nat.reduceSub, Nat.reduceLT, Nat.reduceLeDiff, reduceIte, Nat.not_lt_zero, not_true_eq_false, not_false_eq_true, and_true, true_and, and_false, false_and, tl, t1, hst]
  · obtain ⟨m, rfl⟩ : ∃ m, l = m + 1 := ⟨l - 1, by omega⟩
    rw [Nat.add_sub_cancel]
    by_cases h2 : st.getD m 0 = -v
    · rw [if_pos ⟨by omega, h2⟩]
      simp (disch := first | omega | (simp only [up_ap, List.length_set, Nat.reduceEqDiff, reduceIte, t1] <;> omega)) only [Int32.le_refl, bd_pr, pr_ap, jn_eq, lt_eq, bd_bd, bd_ite, ite_ap, bd_ld, bd_sv, bd_la, bd_sa, bd_ln, bd_rz0, bd_rz1, rz_n0, rz_n1, e_lit2, nI_z, nI_eq0, nI_0eq, nI_le0, nI_lt0, nI_0lt, nI_0le, e_001, e_n10, e_n1lt, bd_la0, bd_sa0, bd_rz00, rz_0, rz_1, b2i_0, Int32.add_zero, Int32.zero_add, nI_add, nI_pred2, pk_sub, pk_mul, pk_div, e_nz, nI_eq, nI_leI, nI_ltI, e_nm1, e_nm2, up_ap, gd_set_ne, gd_set_same, List.length_set, Nat.add_sub_cancel, Nat.reduceEqDiff, Nat.reduceAdd, Nat.reduceMul, Nat.reduceSub, Nat.reduceLT, Nat.reduceLeDiff, reduceIte, Nat.not_lt_zero, not_true_eq_false, not_false_eq_true, and_true, true_and, and_false, false_and, tl, t1, hst, n3, h2, pk_m1']
    · rw [if_neg (fun z => h2 z.2)]
      simp (disch := first | omega | (simp only [up_ap, List.length_set, Nat.reduceEqDiff, reduceIte, t1] <;> omega)) only [Int32.le_refl, bd_pr, pr_ap, jn_eq, lt_eq, bd_bd, bd_ite, ite_ap, bd_ld, bd_sv, bd_la, bd_sa, bd_ln, bd_rz0, bd_rz1, rz_n0, rz_n1, e_lit2, nI_z, nI_eq0, nI_0eq, nI_le0, nI_lt0, nI_0lt, nI_0le, e_001, e_n10, e_n1lt, bd_la0, bd_sa0, bd_rz00, rz_0, rz_1, b2i_0, Int32.add_zero, Int32.zero_add, nI_add, nI_pred2, pk_sub, pk_mul, pk_div, e_nz, nI_eq, nI_leI, nI_ltI, e_nm1, e_nm2, up_ap, gd_set_ne, gd_set_same, List.length_set, Nat.add_sub_cancel, Nat.reduceEqDiff, Nat.reduceAdd, Nat.reduceMul, Nat.reduceSub, Nat.reduceLT, Nat.reduceLeDiff, reduceIte, Nat.not_lt_zero, not_true_eq_false, not_false_eq_true, and_true, true_and, and_false, false_and, tl, t1, hst, n3, n4, h2]
theorem rh38_inj : ∀ i j, i < 6 → j < 6 → rh38 i = rh38 j → i = j := inj_d (by decide +kernel)
set_option maxHeartbeats 400000 in
theorem op_braid {A B : Bk} (h : R A B) (x : Int32) : ∃ r A' B', gX10_braid x A = some (r, A') ∧ gX11_braid x B = some (r, B') ∧ R A' B' := by
  have hb0 := R_B0 h
  have hRt := R_told h
  obtain ⟨B0, hB0⟩ : ∃ z, z = up B 0 ((B 0).set 0 0) := ⟨_, rfl⟩
  rw [← hB0] at hRt
  have z0 := R_B0 hRt
  obtain ⟨⟨np, nc, nt, ks, wh, hH, hU⟩, hT, hI, hA, hB⟩ := id hRt
  obtain ⟨hW, hw0⟩ := R_W hH
  obtain ⟨hl, ⟨hn1, hn2, hn3, hn4⟩, ⟨p1, p2, p3, p4, p5, p6⟩, he, ⟨s1, s2, s3, s4, s5, s6, s7⟩, hod, ho, hd, hw, ⟨k1, k2, k3⟩⟩ := id hW
  obtain ⟨l0, l1, l2, l3, l4, l5, l6, l7, l8, l9, l10, l11, l12⟩ := id hl
  have b6 : (B0 0).getD 6 0 = nI np := hH.1.2.2.2.1.2.2.1
  have b7 : (B0 0).getD 7 0 = nI nc := hH.1.2.2.2.1.2.2.2.1
  have b8 : (B0 0).getD 8 0 = nI nt := hH.1.2.2.2.1.2.2.2.2
  have m4 : (B0 4).length = 20 := by rw [← hod.1]; exact l8
  have m5 : (B0 5).length = 20 := by rw [← hod.2]; exact l9
  obtain ⟨⟨c1, c2, c3, k, hk, c4, c5, c6⟩, -⟩ := hH.2
  have c1 : (A 39).length = 2 := c1
  have c2 : (A 40).length = 12 := c2
  have c4 : (A 39).getD 0 0 = nI k := c4
  have c6 : ∀ i, i < k → (A 40).getD i 0 = (B0 22).getD i 0 := fun i hi => (c6 i hi).1
  have m23 : (B0 23).length = 12 := hB.2.2.2.1
  have m130 : (A 130).length = 12 := hA.2.2.2.2.2.1
  have hb1 : ∀ cl : List Int32, cl.length = 12 → R A (up B0 23 cl) := fun cl hcl => R_XF hRt (XF_B (by decide) (by rw [hcl, m23]))
  by_cases hx1 : x = -nI 1
  · subst hx1
    have key : J2 (cr1 (fun i => A (rh38 i))) (br1 (-nI 1) B0) (fun r A' r' B' => r = r' ∧ ∃ st cl : List Int32, A' = up (fun i => A (rh38 i)) 1 st ∧ B' = up B0 23 cl ∧ st.length = 12 ∧ cl.length = 12) := by
      unfold cr1 br1
      refine loopJ k (fun j s T t B' => ∃ (l : Nat) (p : Int32) (st cl : List Int32), s = (nI l, nI j) ∧ t = (p, nI l, nI j) ∧ T = up (fun i => A (rh38 i)) 1 st ∧ B' = up B0 23 cl ∧ st.length = 12 ∧ cl.length = 12 ∧ l ≤ j ∧ ∀ i, i < l → st.getD i 0 = cl.getD i 0) _ (fun j s T t B' hj hI => ?_) (fun s T t B' hI f1 f2 => ?_) (by omega) (by omega) ⟨0, _, A 130, B0 23, rfl, rfl, (up_self (fun i => A (rh38 i)) 1).symm, (up_self B0 23).symm, m130, m23, Nat.le_refl _, fun i hi => absurd hi (Nat.not_lt_zero i)⟩
      · obtain ⟨l, p, st, cl, rfl, rfl, rfl, rfl, hst, hcl, hlj, hag⟩ := hI
        have n1 : ¬ k ≤ j := by omega
        have hg : gX8_get (nI j) (fun i => up (fun i => A (rh38 i)) 1 st (rh20 i)) = some ((B0 22).getD j 0, fun i => up (fun i => A (rh38 i)) 1 st (rh20 i)) := by
          have := p_get (T := fun i => up (fun i => A (rh38 i)) 1 st (rh20 i)) (i := j) (by show j < (A 40).length; omega) (by show (A 40).length < 2 ^ 31; omega)
          rw [show ((fun i => up (fun i => A (rh38 i)) 1 st (rh20 i)) 1).getD j 0 = (A 40).getD j 0 from rfl, c6 j hj] at this
          exact this
        have u4 : (up (fun i => A (rh38 i)) 1 st 4).getD 0 0 = nI k := c4
        have u4l : (up (fun i => A (rh38 i)) 1 st 4).length = 2 := c1
        obtain ⟨T, hT'⟩ : ∃ T, T = up (fun i => A (rh38 i)) 1 st := ⟨_, rfl⟩
        have t1 : T 1 = st := by rw [hT', up_same]
        rw [← hT'] at hg u4 u4l ⊢
        have hup : ∀ z, up T 1 z = up (fun i => A (rh38 i)) 1 z := fun z => by rw [hT', up_up]
        have t1l : (T 1).length = 12 := by rw [t1]; exact hst
        by_cases q : 0 < l ∧ cl.getD (l - 1) 0 = -(B0 22).getD j 0
        · have q2 : st.getD (l - 1) 0 = -(B0 22).getD j 0 := by rw [hag (l - 1) (by omega)]; exact q.2
          refine ⟨(nI (l - 1), nI (j + 1)), T, (atS p ((B0 22).getD j 0), nI (l - 1), nI (j + 1)), up B0 23 cl, fun f => ?_, fun f => ?_, l - 1, _, st, cl, rfl, rfl, hT', rfl, hst, hcl, by omega, fun i hi => hag i (by omega)⟩
          · rw [cr_step hk u4l u4 t1 hst hj hlj hg f, if_pos ⟨q.1, q2⟩]
          · rw [br_step z0 c5 hk c3 hcl hj hlj f, if_pos q]
        · refine ⟨(nI (l + 1), nI (j + 1)), up (fun i => A (rh38 i)) 1 (st.set l ((B0 22).getD j 0)), (atS p ((B0 22).getD j 0), nI (l + 1), nI (j + 1)), up B0 23 (cl.set l ((B0 22).getD j 0)), fun f => ?_, fun f => ?_, l + 1, _, _, _, rfl, rfl, rfl, rfl, by rw [List.length_set, hst], by rw [List.length_set, hcl], by omega, ag_set hag (by omega) (by omega) (Nat.le_refl _)⟩
          · rw [cr_step hk u4l u4 t1 hst hj hlj hg f, if_neg (fun z => q ⟨z.1, by rw [← hag (l - 1) (by omega)]; exact z.2⟩), hup]
          · rw [br_step z0 c5 hk c3 hcl hj hlj f, if_neg q]
      · obtain ⟨l, p, st, cl, rfl, rfl, rfl, rfl, hst, hcl, hlj, hag⟩ := hI
        have u4 : (up (fun i => A (rh38 i)) 1 st 4).getD 0 0 = nI k := c4
        have u4l : (up (fun i => A (rh38 i)) 1 st 4).length = 2 := c1
        refine ⟨nI l, _, nI l, _, ?_, ?_, rfl, st, cl, rfl, rfl, hst, hcl⟩
        · unfold cr1B
          rw [bd_ld _ (by omega), u4, if_pos (Int32.le_refl _)]; rfl
        · have u43 : (up B0 23 cl 0).getD 43 0 = nI k := c5
          unfold br1B
          rw [bd_ld _ (show 43 < (up B0 23 cl 0).length by show 43 < (B0 0).length; omega), u43, if_pos (Int32.le_refl _)]
          simp only [jn_eq]
          rw [if_pos (show -nI 1 = (-1 : Int32) from rfl)]; rfl
    obtain ⟨r, A', r', B', g1, g2, rfl, st, cl, rfl, rfl, hst, hcl⟩ := key
    refine ⟨r, up A 130 st, up B0 23 cl, ?_, ?_, R_XF (hb1 cl hcl) (XF_A (Or.inr (Or.inl rfl)) (by rw [hst, m130]))⟩
    · unfold gX10_braid
      rw [if_pos (show -nI 1 = (-1 : Int32) from rfl)]
      have g1' : gX6_crossingsLeft (fun i => A (rh38 i)) = some (r, up (fun i => A (rh38 i)) 1 st) := g1
      rw [bd_lf _ g1', pu1 rh38_inj (i := 1) (by decide)]; rfl
    · rw [br_eq, told0 _ hb0, ← hB0, bd_in, b2i_t (by decide), if_neg (by decide)]
      exact g2
  · by_cases hx : 0 ≤ x ∧ x ≤ nI 4
    · have key : J2 (se1 x (fun i => A (rh37 i))) (br1 x B0) (fun r A' r' B' => r = r' ∧ A' = (fun i => A (rh37 i)) ∧ ∃ cl : List Int32, B' = up B0 23 cl ∧ cl.length = 12) := by
        unfold se1 br1
        refine loopJ k (fun j s T t B' => ∃ (l : Nat) (p : Int32) (cl : List Int32), s = (p, nI j) ∧ t = (p, nI l, nI j) ∧ T = (fun i => A (rh37 i)) ∧ B' = up B0 23 cl ∧ cl.length = 12 ∧ l ≤ j) _ (fun j s T t B' hj hI => ?_) (fun s T t B' hI f1 f2 => ?_) (by omega) (by omega) ⟨0, _, B0 23, rfl, rfl, rfl, (up_self B0 23).symm, m23, Nat.le_refl _⟩
        · obtain ⟨l, p, cl, rfl, rfl, rfl, rfl, hcl, hlj⟩ := hI
          have n1 : ¬ k ≤ j := by omega
          have hg : gX8_get (nI j) (fun i => A (rh37 i)) = some ((B0 22).getD j 0, fun i => A (rh37 i)) := by
            have := p_get (T := fun i => A (rh37 i)) (i := j) (by show j < (A 40).length; omega) (by show (A 40).length < 2 ^ 31; omega)
            rw [show ((fun i => A (rh37 i)) 1).getD j 0 = (A 40).getD j 0 from rfl, c6 j hj] at this
            exact this
          have u4 : ((fun i => A (rh37 i)) 0).getD 0 0 = nI k := c4
          have u4l : ((fun i => A (rh37 i)) 0).length = 2 := c1
          obtain ⟨T, hT'⟩ : ∃ T, T = (fun i => A (rh37 i)) := ⟨_, rfl⟩
          rw [← hT'] at hg u4 u4l ⊢
          have hse : ∀ f, se1B f (p, nI j) T = f (atS p ((B0 22).getD j 0), nI (j + 1)) T := fun f => by
            obtain ⟨v, hv⟩ : ∃ v, (B0 22).getD j 0 = v := ⟨_, rfl⟩
            rw [hv] at hg ⊢
            obtain ⟨a, ha⟩ : ∃ a, (if 0 ≤ v then v else -v) = a := ⟨_, rfl⟩
            unfold atS
            rw [ha]
            unfold se1B
            simp (disch := first | omega | (simp only [up_ap, List.length_set, Nat.reduceEqDiff, reduceIte] <;> omega)) only [Int32.le_refl, bd_pr, pr_ap, jn_eq, lt_eq, bd_bd, bd_ite, ite_ap, bd_ld, bd_sv, bd_la, bd_sa, bd_ln, bd_rz0, bd_rz1, rz_n0, rz_n1, e_lit2, nI_z, nI_eq0, nI_0eq, nI_le0, nI_lt0, nI_0lt, nI_0le, e_001, e_n10, e_n1lt, bd_la0, bd_sa0, bd_rz00, rz_0, rz_1, b2i_0, Int32.add_zero, Int32.zero_add, nI_add, nI_pred2, pk_sub, pk_mul, pk_div, e_nz, nI_eq, nI_leI, nI_ltI, e_nm1, e_nm2, up_ap, gd_set_ne, gd_set_same, List.length_set, Nat.add_sub_cancel, Nat.reduceEqDiff, Nat.reduceAdd, Nat.reduceMul, Nat.reduceSub, Nat.reduceLT, Nat.reduceLeDiff, reduceIte, Nat.not_lt_zero, not_true_eq_false, not_false_eq_true, and_true, true_and, and_false, false_and, u4, n1]
            rw [bd_some hg, bd_lf0 _ (p_abs v _), ha]
            by_cases q1 : p = a
            · simp (disch := first | omega | (simp only [up_ap, List.length_set, Nat.reduceEqDiff, reduceIte] <;> omega)) only [Int32.le_refl, bd_pr, pr_ap, jn_eq, lt_eq, bd_bd, bd_ite, ite_ap, bd_ld, bd_sv, bd_la, bd_sa, bd_ln, bd_rz0, bd_rz1, rz_n0, rz_n1, e_lit2, nI_z, nI_eq0, nI_0eq, nI_le0, nI_lt0, nI_0lt, nI_0le, e_001, e_n10, e_n1lt, bd_la0, bd_sa0, bd_rz00, rz_0, rz_1, b2i_0, Int32.add_zero, Int32.zero_add, nI_add, nI_pred2, pk_sub, pk_mul, pk_div, e_nz, nI_eq, nI_leI, nI_ltI, e_nm1, e_nm2, up_ap, gd_set_ne, gd_set_same, List.length_set, Nat.add_sub_cancel, Nat.reduceEqDiff, Nat.reduceAdd, Nat.reduceMul, Nat.reduceSub, Nat.reduceLT, Nat.reduceLeDiff, reduceIte, Nat.not_lt_zero, not_true_eq_false, not_false_eq_true, and_true, true_and, and_false, false_and, q1]
            · by_cases q2 : p = a - nI 1
              · have q3 : ¬ a - nI 1 = a := fun z => ne_pred a z.symm
                simp (disch := first | omega | (simp only [up_ap, List.length_set, Nat.reduceEqDiff, reduceIte] <;> omega)) only [Int32.le_refl, bd_pr, pr_ap, jn_eq, lt_eq, bd_bd, bd_ite, ite_ap, bd_ld, bd_sv, bd_la, bd_sa, bd_ln, bd_rz0, bd_rz1, rz_n0, rz_n1, e_lit2, nI_z, nI_eq0, nI_0eq, nI_le0, nI_lt0, nI_0lt, nI_0le, e_001, e_n10, e_n1lt, bd_la0, bd_sa0, bd_rz00, rz_0, rz_1, b2i_0, Int32.add_zero, Int32.zero_add, nI_add, nI_pred2, pk_sub, pk_mul, pk_div, e_nz, nI_eq, nI_leI, nI_ltI, e_nm1, e_nm2, up_ap, gd_set_ne, gd_set_same, List.length_set, Nat.add_sub_cancel, Nat.reduceEqDiff, Nat.reduceAdd, Nat.reduceMul, Nat.reduceSub, Nat.reduceLT, Nat.reduceLeDiff, reduceIte, Nat.not_lt_zero, not_true_eq_false, not_false_eq_true, and_true, true_and, and_false, false_and, q1, q2, q3]
              · have q3 : ¬ a - nI 1 = a := fun z => ne_pred a z.symm
                simp (disch := first | omega | (simp only [up_ap, List.length_set, Nat.reduceEqDiff, reduceIte] <;> omega)) only [Int32.le_refl, bd_pr, pr_ap, jn_eq, lt_eq, bd_bd, bd_ite, ite_ap, bd_ld, bd_sv, bd_la, bd_sa, bd_ln, bd_rz0, bd_rz1, rz_n0, rz_n1, e_lit2, nI_z, nI_eq0, nI_0eq, nI_le0, nI_lt0, nI_0lt, nI_0le, e_001, e_n10, e_n1lt, bd_la0, bd_sa0, bd_rz00, rz_0, rz_1, b2i_0, Int32.add_zero, Int32.zero_add, nI_add, nI_pred2, pk_sub, pk_mul, pk_div, e_nz, nI_eq, nI_leI, nI_ltI, e_nm1, e_nm2, up_ap, gd_set_ne, gd_set_same, List.length_set, Nat.add_sub_cancel, Nat.reduceEqDiff, Nat.reduceAdd, Nat.reduceMul, Nat.reduceSub, Nat.reduceLT, Nat.reduceLeDiff, reduceIte, Nat.not_lt_zero, not_true_eq_false, not_false_eq_true, and_true, true_and, and_false, false_and, q1, q2, q3]
          by_cases q : 0 < l ∧ cl.getD (l - 1) 0 = -(B0 22).getD j 0
          · exact ⟨_, T, _, up B0 23 cl, hse, fun f => by rw [br_step z0 c5 hk c3 hcl hj hlj f, if_pos q], l - 1, _, cl, rfl, rfl, rfl, rfl, hcl, by omega⟩
          · exact ⟨_, T, _, _, hse, fun f => by rw [br_step z0 c5 hk c3 hcl hj hlj f, if_neg q], l + 1, _, _, rfl, rfl, rfl, rfl, by rw [List.length_set, hcl], by omega⟩
        · obtain ⟨l, p, cl, rfl, rfl, rfl, rfl, hcl, hlj⟩ := hI
          have u4 : ((fun i => A (rh37 i)) 0).getD 0 0 = nI k := c4
          have u4l : ((fun i => A (rh37 i)) 0).length = 2 := c1
          refine ⟨p, _, p, _, ?_, ?_, rfl, rfl, cl, rfl, hcl⟩
          · unfold se1B
            obtain ⟨T, hT'⟩ : ∃ T, T = (fun i => A (rh37 i)) := ⟨_, rfl⟩
            rw [← hT'] at u4 u4l ⊢
            rw [bd_ld _ (by omega), u4, if_pos (Int32.le_refl _)]; rfl
          · have u43 : (up B0 23 cl 0).getD 43 0 = nI k := c5
            unfold br1B
            rw [bd_ld _ (show 43 < (up B0 23 cl 0).length by show 43 < (B0 0).length; omega), u43, if_pos (Int32.le_refl _)]
            simp only [jn_eq]
            rw [if_neg (show ¬ x = (-1 : Int32) from hx1)]; rfl
      obtain ⟨r, A', r', B', g1, g2, rfl, rfl, cl, rfl, hcl⟩ := key
      refine ⟨r, A, up B0 23 cl, ?_, ?_, hb1 cl hcl⟩
      · unfold gX10_braid
        rw [if_neg (show ¬ x = (-1 : Int32) from hx1), bd_iw, b2i_t (show (0 : Int32) ≤ x ∧ x ≤ 4 from hx)]
        simp only [jn_eq]
        have g1' : gX6_strandEnd x (fun i => A (rh37 i)) = some (r, fun i => A (rh37 i)) := g1
        rw [if_neg (by decide), bd_lf0 _ g1']; rfl
      · rw [br_eq, told0 _ hb0, ← hB0, bd_in, b2i_t (show (-1 : Int32) ≤ x ∧ x ≤ 4 from ⟨Int32.le_trans (by decide) hx.1, hx.2⟩), if_neg (by decide)]
        exact g2
    · refine ⟨-1, A, B0, ?_, ?_, hRt⟩
      · unfold gX10_braid
        rw [if_neg (show ¬ x = (-1 : Int32) from hx1), bd_iw, b2i_f (show ¬ ((0 : Int32) ≤ x ∧ x ≤ 4) from hx)]; rfl
      · have hno : ¬ ((-1 : Int32) ≤ x ∧ x ≤ 4) := fun q => by
          by_cases hx0 : x < 0
          · apply hx1
            have h1 := q.1
            rw [Int32.le_iff_toInt_le] at h1
            rw [Int32.lt_iff_toInt_lt] at hx0
            have e1 : (-1 : Int32).toInt = -1 := by decide
            have e2 : (0 : Int32).toInt = 0 := by decide
            rw [e1] at h1
            rw [e2] at hx0
            exact Int32.toInt_inj.mp (by rw [show (-nI 1).toInt = -1 by decide]; omega)
          · exact hx ⟨Int32.not_lt.mp hx0, q.2⟩
        rw [br_eq, told0 _ hb0, ← hB0, bd_in, b2i_f hno]; rfl
