/-! PURE: boxes, spelt, braid -/
def ba1B (x1 : Int32) : (Int32 × Int32 → MM Int32) → Int32 × Int32 → MM Int32 := fun (self1 : Int32 × Int32 → MM Int32) (s2 : Int32 × Int32) =>
  (if x1 ≤ s2.2 then
  pr s2.1
  else
  bd (gX8_get s2.2) fun r3 =>
  jn (fun (a5 : Int32) =>
  lt (s2.2 + 1) fun y6 =>
  self1 (a5, y6)) (fun j4 =>
  (if r3 = 1 then
  bd (lf rh0 0 (gJ9_min_7cf53 5 (s2.1 + 1))) fun r7 =>
  j4 r7
  else
  j4 1)))
def ba1 (x1 : Int32) : MM Int32 := loopC 100000 (ba1B x1) (1, 0)
theorem ba_eq (x1 : Int32) : gX6_boxAfter x1 =
  (ba1 x1) := rfl
def na1B : (Int32 × Int32 → MM Int32) → Int32 × Int32 → MM Int32 := fun (self1 : Int32 × Int32 → MM Int32) (s2 : Int32 × Int32) =>
  bd (ld 0 0) fun v3 =>
  (if v3 < s2.2 then
  pr s2.1
  else
  bd (gX6_boxAfter s2.2) fun r4 =>
  lt (s2.1 + (1 <<< ((r4 - 1) &&& 31))) fun y5 =>
  lt (s2.2 + 1) fun y6 =>
  self1 (y5, y6))
def na1 : MM Int32 := loopC 100000 (na1B) (0, 1)
theorem na_eq : gX6_nextAsked =
  (na1) := rfl
def bm1B (x1 : Int32) : (Int32 × Int32 × Int32 → MM Int32) → Int32 × Int32 × Int32 → MM Int32 := fun (self2 : Int32 × Int32 × Int32 → MM Int32) (s3 : Int32 × Int32 × Int32) =>
  bd (ld 0 52) fun v4 =>
  (if v4 ≤ s3.2.2 then
  jn (fun (a6 : Int32) =>
  pr a6) (fun j5 =>
  (if x1 = 0 then
  j5 s3.1
  else
  j5 s3.2.1))
  else
  bd (la 29 s3.2.2) fun v7 =>
  jn (fun (a9 : Int32) =>
  lt (s3.2.1 + (1 <<< ((a9 - 1) &&& 31))) fun y10 =>
  lt (s3.2.2 + 1) fun y11 =>
  self2 (a9, y10, y11)) (fun j8 =>
  (if v7 = 1 then
  bd (gX11_lesser 5 (s3.1 + 1)) fun r12 =>
  j8 r12
  else
  j8 1)))
def bm1 (x1 : Int32) : MM Int32 := loopC 100000 (bm1B x1) (1, 0, 0)
theorem bm_eq (x1 : Int32) : gX11_boxes x1 =
  bd (sv 0 0 0) fun _ =>
  bd (gX11_isIn x1 0 1) fun r1 =>
  (if r1 = 0 then
  pr ((-1))
  else
  (bm1 x1)) := rfl
def sp1B : (Int32 × Int32 → MM Int32) → Int32 × Int32 → MM Int32 := fun (self2 : Int32 × Int32 → MM Int32) (s3 : Int32 × Int32) =>
  bd (ld 0 0) fun v4 =>
  (if v4 ≤ s3.2 then
  pr s3.1
  else
  bd (gX8_get s3.2) fun r5 =>
  bd (lf rh0 0 (gX6_lettersOf r5)) fun r6 =>
  bd (lf rh0 0 (gJ9_max_7cf53 1 r6)) fun r7 =>
  lt (s3.1 * r7) fun y8 =>
  lt (s3.2 + 1) fun y9 =>
  self2 (y8, y9))
def sp1 (r1 : Int32) : MM Int32 := loopC 100000 (sp1B) (1, r1)
theorem sp_eq (x1 : Int32) : gX6_spellings x1 =
  bd (lf rh0 0 (gJ9_max_7cf53 x1 0)) fun r1 =>
  (sp1 r1) := rfl
def wf1B : (Int32 × Int32 → MM Int32) → Int32 × Int32 → MM Int32 := fun (self1 : Int32 × Int32 → MM Int32) (s2 : Int32 × Int32) =>
  bd (ld 0 61) fun v3 =>
  (if v3 ≤ s2.2 then
  pr s2.1
  else
  bd (la 35 s2.2) fun v4 =>
  bd (gX11_choicesOf v4) fun r5 =>
  lt (s2.1 * r5) fun y6 =>
  lt (s2.2 + 1) fun y7 =>
  self1 (y6, y7))
def wf1 (x1 : Int32) : MM Int32 := loopC 100000 (wf1B) (1, x1)
theorem wf_eq (x1 : Int32) : gX11_waysFrom x1 =
  (wf1 x1) := rfl
def se1B : (Int32 × Int32 → MM Int32) → Int32 × Int32 → MM Int32 := fun (self1 : Int32 × Int32 → MM Int32) (s2 : Int32 × Int32) =>
  bd (ld 0 0) fun v3 =>
  (if v3 ≤ s2.2 then
  pr s2.1
  else
  bd (gX8_get s2.2) fun r4 =>
  bd (lf rh0 0 (gJ9_abs_0f7a4 r4)) fun r5 =>
  jn (fun (a7 : Int32) =>
  lt (s2.2 + 1) fun y8 =>
  self1 (a7, y8)) (fun j6 =>
  (if s2.1 = r5 then
  lt (r5 - 1) fun y9 =>
  j6 y9
  else
  (if s2.1 = (r5 - 1) then
  j6 r5
  else
  j6 s2.1))))
def se1 (x1 : Int32) : MM Int32 := loopC 100000 (se1B) (x1, 0)
theorem se_eq (x1 : Int32) : gX6_strandEnd x1 =
  (se1 x1) := rfl
def cr1B : (Int32 × Int32 → MM Int32) → Int32 × Int32 → MM Int32 := fun (self1 : Int32 × Int32 → MM Int32) (s2 : Int32 × Int32) =>
  bd (ld 4 0) fun v3 =>
  (if v3 ≤ s2.2 then
  pr s2.1
  else
  bd (lf rh20 2 (gX8_get s2.2)) fun r4 =>
  jn (fun (a6 : Int32) =>
  lt (s2.2 + 1) fun y7 =>
  self1 (a6, y7)) (fun j5 =>
  jn (fun (a9 : Unit) =>
  bd (ln 1) fun v10 =>
  (if v10 ≤ s2.1 then
  j5 s2.1
  else
  bd (sa 1 s2.1 r4) fun _ =>
  lt (s2.1 + 1) fun y11 =>
  j5 y11)) (fun j8 =>
  (if s2.1 ≤ 0 then
  j8 ()
  else
  bd (ln 1) fun v12 =>
  (if v12 < s2.1 then
  j8 ()
  else
  bd (la 1 (s2.1 - 1)) fun v13 =>
  (if v13 = (-r4) then
  lt (s2.1 + (-1)) fun y14 =>
  j5 y14
  else
  j8 ()))))))
def cr1 : MM Int32 := loopC 100000 (cr1B) (0, 0)
theorem cr_eq : gX6_crossingsLeft =
  (cr1) := rfl
def br1B (x1 : Int32) : (Int32 × Int32 × Int32 → MM Int32) → Int32 × Int32 × Int32 → MM Int32 := fun (self2 : Int32 × Int32 × Int32 → MM Int32) (s3 : Int32 × Int32 × Int32) =>
  bd (ld 0 43) fun v4 =>
  (if v4 ≤ s3.2.2 then
  jn (fun (a6 : Int32) =>
  pr a6) (fun j5 =>
  (if x1 = ((-1)) then
  j5 s3.2.1
  else
  j5 s3.1))
  else
  bd (la 22 s3.2.2) fun v7 =>
  jn (fun (a9 : Int32) =>
  jn (fun (a11 : Int32) =>
  jn (fun (a13 : Int32) =>
  lt (s3.2.2 + 1) fun y14 =>
  self2 (a11, a13, y14)) (fun j12 =>
  jn (fun (a16 : Unit) =>
  bd (la 22 s3.2.2) fun v17 =>
  bd (sa 23 s3.2.1 v17) fun _ =>
  lt (s3.2.1 + 1) fun y18 =>
  j12 y18) (fun j15 =>
  (if s3.2.1 ≤ 0 then
  j15 ()
  else
  bd (la 23 (s3.2.1 - 1)) fun v19 =>
  bd (la 22 s3.2.2) fun v20 =>
  (if v19 = (-v20) then
  lt (s3.2.1 - 1) fun y21 =>
  j12 y21
  else
  j15 ()))))) (fun j10 =>
  (if s3.1 = (a9 - 1) then
  j10 a9
  else
  (if s3.1 = a9 then
  j10 (a9 - 1)
  else
  j10 s3.1)))) (fun j8 =>
  (if 0 ≤ v7 then
  bd (la 22 s3.2.2) fun v22 =>
  j8 v22
  else
  bd (la 22 s3.2.2) fun v23 =>
  j8 (-v23))))
def br1 (x1 : Int32) : MM Int32 := loopC 100000 (br1B x1) (x1, 0, 0)
theorem br_eq (x1 : Int32) : gX11_braid x1 =
  bd (sv 0 0 0) fun _ =>
  bd (gX11_isIn x1 ((-1)) 4) fun r1 =>
  (if r1 = 0 then
  pr ((-1))
  else
  (br1 x1)) := rfl
set_option maxHeartbeats 400000 in
theorem p_get {T : Bk} {i : Nat} (hi : i < (T 1).length) (hl : (T 1).length < 2 ^ 31) : gX8_get (nI i) T = some ((T 1).getD i 0, T) := by
  unfold gX8_get
  have n1 : ¬ (T 1).length ≤ i := by omega
  simp (disch := first | omega | (simp only [up_ap, List.length_set, Nat.reduceEqDiff, reduceIte] <;> omega)) only [Int32.le_refl, bd_pr, pr_ap, jn_eq, lt_eq, bd_bd, bd_ite, ite_ap, bd_ld, bd_sv, bd_la, bd_sa, bd_ln, bd_rz0, bd_rz1, rz_n0, rz_n1, e_lit2, nI_z, nI_eq0, nI_0eq, nI_le0, nI_lt0, nI_0lt, nI_0le, e_001, e_n10, e_n1lt, bd_la0, bd_sa0, bd_rz00, rz_0, rz_1, b2i_0, Int32.add_zero, Int32.zero_add, nI_add, nI_pred2, pk_sub, pk_mul, pk_div, e_nz, nI_eq, nI_leI, nI_ltI, e_nm1, e_nm2, up_ap, gd_set_ne, gd_set_same, List.length_set, Nat.add_sub_cancel, Nat.reduceEqDiff, Nat.reduceAdd, Nat.reduceMul, Nat.reduceSub, Nat.reduceLT, Nat.reduceLeDiff, reduceIte, Nat.not_lt_zero, not_true_eq_false, not_false_eq_true, and_true, true_and, and_false, false_and, n1]
def bx (f : Nat → Int32) : Nat → Nat := fo (fun i b => if f i = nI 1 then (if b < 5 then b + 1 else 5) else 1) 1
theorem bx_r (f : Nat → Int32) : ∀ n, 1 ≤ bx f n ∧ bx f n ≤ 5
  | 0 => ⟨Nat.le_refl _, by show 1 ≤ 5; decide⟩
  | n + 1 => by
    have := bx_r f n
    show 1 ≤ (if f n = nI 1 then (if bx f n < 5 then bx f n + 1 else 5) else 1) ∧ (if f n = nI 1 then (if bx f n < 5 then bx f n + 1 else 5) else 1) ≤ 5
    by_cases h : f n = nI 1
    · rw [if_pos h]
      by_cases h2 : bx f n < 5
      · rw [if_pos h2]; omega
      · rw [if_neg h2]; omega
    · rw [if_neg h]; omega
theorem min5 {b : Nat} (hb : b ≤ 5) : (∀ A, gJ9_min_7cf53 (nI 5) (nI (b + 1)) A = some (nI (if b < 5 then b + 1 else 5), A)) ∧ ∀ B, gX11_lesser (nI 5) (nI (b + 1)) B = some (nI (if b < 5 then b + 1 else 5), B) := by
  constructor
  · intro A
    unfold gJ9_min_7cf53
    by_cases h : b < 5
    · rw [if_pos h]
      by_cases h2 : b + 1 < 5
      · simp (disch := first | omega | (simp only [up_ap, List.length_set, Nat.reduceEqDiff, reduceIte] <;> omega)) only [Int32.le_refl, bd_pr, pr_ap, jn_eq, lt_eq, bd_bd, bd_ite, ite_ap, bd_ld, bd_sv, bd_la, bd_sa, bd_ln, bd_rz0, bd_rz1, rz_n0, rz_n1, e_lit2, nI_z, nI_eq0, nI_0eq, nI_le0, nI_lt0, nI_0lt, nI_0le, e_001, e_n10, e_n1lt, bd_la0, bd_sa0, bd_rz00, rz_0, rz_1, b2i_0, Int32.add_zero, Int32.zero_add, nI_add, nI_pred2, pk_sub, pk_mul, pk_div, e_nz, nI_eq, nI_leI, nI_ltI, e_nm1, e_nm2, up_ap, gd_set_ne, gd_set_same, List.length_set, Nat.add_sub_cancel, Nat.reduceEqDiff, Nat.reduceAdd, Nat.reduceMul, Nat.reduceSub, Nat.reduceLT, Nat.reduceLeDiff, reduceIte, Nat.not_lt_zero, not_true_eq_false, not_false_eq_true, and_true, true_and, and_false, false_and, h2]
      · have : b = 4 := by omega
        subst this
        simp (disch := first | omega | (simp only [up_ap, List.length_set, Nat.reduceEqDiff, reduceIte] <;> omega)) only [Int32.le_refl, bd_pr, pr_ap, jn_eq, lt_eq, bd_bd, bd_ite, ite_ap, bd_ld, bd_sv, bd_la, bd_sa, bd_ln, bd_rz0, bd_rz1, rz_n0, rz_n1, e_lit2, nI_z, nI_eq0, nI_0eq, nI_le0, nI_lt0, nI_0lt, nI_0le, e_001, e_n10, e_n1lt, bd_la0, bd_sa0, bd_rz00, rz_0, rz_1, b2i_0, Int32.add_zero, Int32.zero_add, nI_add, nI_pred2, pk_sub, pk_mul, pk_div, e_nz, nI_eq, nI_leI, nI_ltI, e_nm1, e_nm2, up_ap, gd_set_ne, gd_set_same, List.length_set, Nat.add_sub_cancel, Nat.reduceEqDiff, Nat.reduceAdd, Nat.reduceMul, Nat.reduceSub, Nat.reduceLT, Nat.reduceLeDiff, reduceIte, Nat.not_lt_zero, not_true_eq_false, not_false_eq_true, and_true, true_and, and_false, false_and]
    · rw [if_neg h]
      have h2 : ¬ b + 1 < 5 := by omega
      simp (disch := first | omega | (simp only [up_ap, List.length_set, Nat.reduceEqDiff, reduceIte] <;> omega)) only [Int32.le_refl, bd_pr, pr_ap, jn_eq, lt_eq, bd_bd, bd_ite, ite_ap, bd_ld, bd_sv, bd_la, bd_sa, bd_ln, bd_rz0, bd_rz1, rz_n0, rz_n1, e_lit2, nI_z, nI_eq0, nI_0eq, nI_le0, nI_lt0, nI_0lt, nI_0le, e_001, e_n10, e_n1lt, bd_la0, bd_sa0, bd_rz00, rz_0, rz_1, b2i_0, Int32.add_zero, Int32.zero_add, nI_add, nI_pred2, pk_sub, pk_mul, pk_div, e_nz, nI_eq, nI_leI, nI_ltI, e_nm1, e_nm2, up_ap, gd_set_ne, gd_set_same, List.length_set, Nat.add_sub_cancel, Nat.reduceEqDiff, Nat.reduceAdd, Nat.reduceMul, Nat.reduceSub, Nat.reduceLT, Nat.reduceLeDiff, reduceIte, Nat.not_lt_zero, not_true_eq_false, not_false_eq_true, and_true, true_and, and_false, false_and, h2]
  · intro B
    unfold gX11_lesser
    by_cases h : b < 5
    · rw [if_pos h]
      have h2 : b + 1 ≤ 5 := by omega
      simp (disch := first | omega | (simp only [up_ap, List.length_set, Nat.reduceEqDiff, reduceIte] <;> omega)) only [Int32.le_refl, bd_pr, pr_ap, jn_eq, lt_eq, bd_bd, bd_ite, ite_ap, bd_ld, bd_sv, bd_la, bd_sa, bd_ln, bd_rz0, bd_rz1, rz_n0, rz_n1, e_lit2, nI_z, nI_eq0, nI_0eq, nI_le0, nI_lt0, nI_0lt, nI_0le, e_001, e_n10, e_n1lt, bd_la0, bd_sa0, bd_rz00, rz_0, rz_1, b2i_0, Int32.add_zero, Int32.zero_add, nI_add, nI_pred2, pk_sub, pk_mul, pk_div, e_nz, nI_eq, nI_leI, nI_ltI, e_nm1, e_nm2, up_ap, gd_set_ne, gd_set_same, List.length_set, Nat.add_sub_cancel, Nat.reduceEqDiff, Nat.reduceAdd, Nat.reduceMul, Nat.reduceSub, Nat.reduceLT, Nat.reduceLeDiff, reduceIte, Nat.not_lt_zero, not_true_eq_false, not_false_eq_true, and_true, true_and, and_false, false_and, h2]
    · rw [if_neg h]
      have h2 : ¬ b + 1 ≤ 5 := by omega
      simp (disch := first | omega | (simp only [up_ap, List.length_set, Nat.reduceEqDiff, reduceIte] <;> omega)) only [Int32.le_refl, bd_pr, pr_ap, jn_eq, lt_eq, bd_bd, bd_ite, ite_ap, bd_ld, bd_sv, bd_la, bd_sa, bd_ln, bd_rz0, bd_rz1, rz_n0, rz_n1, e_lit2, nI_z, nI_eq0, nI_0eq, nI_le0, nI_lt0, nI_0lt, nI_0le, e_001, e_n10, e_n1lt, bd_la0, bd_sa0, bd_rz00, rz_0, rz_1, b2i_0, Int32.add_zero, Int32.zero_add, nI_add, nI_pred2, pk_sub, pk_mul, pk_div, e_nz, nI_eq, nI_leI, nI_ltI, e_nm1, e_nm2, up_ap, gd_set_ne, gd_set_same, List.length_set, Nat.add_sub_cancel, Nat.reduceEqDiff, Nat.reduceAdd, Nat.reduceMul, Nat.reduceSub, Nat.reduceLT, Nat.reduceLeDiff, reduceIte, Nat.not_lt_zero, not_true_eq_false, not_false_eq_true, and_true, true_and, and_false, false_and, h2]
set_option maxHeartbeats 400000 in
theorem p_boxAfter {T : Bk} {n : Nat} (hn : n ≤ (T 1).length) (hl : (T 1).length = 16) : gX6_boxAfter (nI n) T = some (nI (bx (fun i => (T 1).getD i 0) n), T) := by
  rw [ba_eq]
  unfold ba1
  refine loopF n (fun j => (nI (bx (fun i => (T 1).getD i 0) j), nI j)) (fun _ => T) rfl rfl (fun j hj self => ?_) (fun self => ?_) (by omega)
  · have n1 : ¬ n ≤ j := by omega
    have hg := p_get (T := T) (i := j) (by omega) (by omega)
    have hb := bx_r (fun i => (T 1).getD i 0) j
    have hm := min5 hb.2
    have e : bx (fun i => (T 1).getD i 0) (j + 1) = if (T 1).getD j 0 = nI 1 then (if bx (fun i => (T 1).getD i 0) j < 5 then bx (fun i => (T 1).getD i 0) j + 1 else 5) else 1 := rfl
    rw [e]
    unfold ba1B
    simp (disch := first | omega | (simp only [up_ap, List.length_set, Nat.reduceEqDiff, reduceIte] <;> omega)) only [Int32.le_refl, bd_pr, pr_ap, jn_eq, lt_eq, bd_bd, bd_ite, ite_ap, bd_ld, bd_sv, bd_la, bd_sa, bd_ln, bd_rz0, bd_rz1, rz_n0, rz_n1, e_lit2, nI_z, nI_eq0, nI_0eq, nI_le0, nI_lt0, nI_0lt, nI_0le, e_001, e_n10, e_n1lt, bd_la0, bd_sa0, bd_rz00, rz_0, rz_1, b2i_0, Int32.add_zero, Int32.zero_add, nI_add, nI_pred2, pk_sub, pk_mul, pk_div, e_nz, nI_eq, nI_leI, nI_ltI, e_nm1, e_nm2, up_ap, gd_set_ne, gd_set_same, List.length_set, Nat.add_sub_cancel, Nat.reduceEqDiff, Nat.reduceAdd, Nat.reduceMul, Nat.reduceSub, Nat.reduceLT, Nat.reduceLeDiff, reduceIte, Nat.not_lt_zero, not_true_eq_false, not_false_eq_true, and_true, true_and, and_false, false_and, n1]
    rw [bd_some hg]
    by_cases q : (T 1).getD j 0 = nI 1
    · rw [if_pos q]
      simp (disch := first | omega | (simp only [up_ap, List.length_set, Nat.reduceEqDiff, reduceIte] <;> omega)) only [Int32.le_refl, bd_pr, pr_ap, jn_eq, lt_eq, bd_bd, bd_ite, ite_ap, bd_ld, bd_sv, bd_la, bd_sa, bd_ln, bd_rz0, bd_rz1, rz_n0, rz_n1, e_lit2, nI_z, nI_eq0, nI_0eq, nI_le0, nI_lt0, nI_0lt, nI_0le, e_001, e_n10, e_n1lt, bd_la0, bd_sa0, bd_rz00, rz_0, rz_1, b2i_0, Int32.add_zero, Int32.zero_add, nI_add, nI_pred2, pk_sub, pk_mul, pk_div, e_nz, nI_eq, nI_leI, nI_ltI, e_nm1, e_nm2, up_ap, gd_set_ne, gd_set_same, List.length_set, Nat.add_sub_cancel, Nat.reduceEqDiff, Nat.reduceAdd, Nat.reduceMul, Nat.reduceSub, Nat.reduceLT, Nat.reduceLeDiff, reduceIte, Nat.not_lt_zero, not_true_eq_false, not_false_eq_true, and_true, true_and, and_false, false_and, q]
      rw [bd_lf0 _ (hm.1 _)]
    · rw [if_neg q]
      simp (disch := first | omega | (simp only [up_ap, List.length_set, Nat.reduceEqDiff, reduceIte] <;> omega)) only [Int32.le_refl, bd_pr, pr_ap, jn_eq, lt_eq, bd_bd, bd_ite, ite_ap, bd_ld, bd_sv, bd_la, bd_sa, bd_ln, bd_rz0, bd_rz1, rz_n0, rz_n1, e_lit2, nI_z, nI_eq0, nI_0eq, nI_le0, nI_lt0, nI_0lt, nI_0le, e_001, e_n10, e_n1lt, bd_la0, bd_sa0, bd_rz00, rz_0, rz_1, b2i_0, Int32.add_zero, Int32.zero_add, nI_add, nI_pred2, pk_sub, pk_mul, pk_div, e_nz, nI_eq, nI_leI, nI_ltI, e_nm1, e_nm2, up_ap, gd_set_ne, gd_set_same, List.length_set, Nat.add_sub_cancel, Nat.reduceEqDiff, Nat.reduceAdd, Nat.reduceMul, Nat.reduceSub, Nat.reduceLT, Nat.reduceLeDiff, reduceIte, Nat.not_lt_zero, not_true_eq_false, not_false_eq_true, and_true, true_and, and_false, false_and, q]
  · unfold ba1B
    simp (disch := first | omega | (simp only [up_ap, List.length_set, Nat.reduceEqDiff, reduceIte] <;> omega)) only [Int32.le_refl, bd_pr, pr_ap, jn_eq, lt_eq, bd_bd, bd_ite, ite_ap, bd_ld, bd_sv, bd_la, bd_sa, bd_ln, bd_rz0, bd_rz1, rz_n0, rz_n1, e_lit2, nI_z, nI_eq0, nI_0eq, nI_le0, nI_lt0, nI_0lt, nI_0le, e_001, e_n10, e_n1lt, bd_la0, bd_sa0, bd_rz00, rz_0, rz_1, b2i_0, Int32.add_zero, Int32.zero_add, nI_add, nI_pred2, pk_sub, pk_mul, pk_div, e_nz, nI_eq, nI_leI, nI_ltI, e_nm1, e_nm2, up_ap, gd_set_ne, gd_set_same, List.length_set, Nat.add_sub_cancel, Nat.reduceEqDiff, Nat.reduceAdd, Nat.reduceMul, Nat.reduceSub, Nat.reduceLT, Nat.reduceLeDiff, reduceIte, Nat.not_lt_zero, not_true_eq_false, not_false_eq_true, and_true, true_and, and_false, false_and]
def dyN (f : Nat → Int32) : Nat → Nat := fo (fun i d => d + 2 ^ (bx f (i + 1) - 1)) 0
theorem dyN_le (f : Nat → Int32) : ∀ n, dyN f n ≤ 16 * n
  | 0 => Nat.le_refl _
  | n + 1 => by
    have := dyN_le f n
    have hb := bx_r f (n + 1)
    have hp : 2 ^ (bx f (n + 1) - 1) ≤ 2 ^ 4 := Nat.pow_le_pow_right (by decide) (by omega)
    show dyN f n + 2 ^ (bx f (n + 1) - 1) ≤ 16 * (n + 1)
    omega
set_option maxHeartbeats 400000 in
theorem p_nextAsked {T : Bk} {n : Nat} (hn : n ≤ 16) (t0 : (T 0).length = 2) (e0 : (T 0).getD 0 0 = nI n) (hl : (T 1).length = 16) : gX6_nextAsked T = some (nI (dyN (fun i => (T 1).getD i 0) n), T) := by
  rw [na_eq]
  unfold na1
  refine loopF n (fun j => (nI (dyN (fun i => (T 1).getD i 0) j), nI (j + 1))) (fun _ => T) rfl rfl (fun j hj self => ?_) (fun self => ?_) (by omega)
  · have n1 : ¬ n < j + 1 := by omega
    have hg := p_boxAfter (T := T) (n := j + 1) (by omega) hl
    have hb := bx_r (fun i => (T 1).getD i 0) (j + 1)
    have hd := dyN_le (fun i => (T 1).getD i 0) j
    have e : dyN (fun i => (T 1).getD i 0) (j + 1) = dyN (fun i => (T 1).getD i 0) j + 2 ^ (bx (fun i => (T 1).getD i 0) (j + 1) - 1) := rfl
    have hs := shl_n (bx (fun i => (T 1).getD i 0) (j + 1) - 1) (by omega)
    rw [e]
    unfold na1B
    simp (disch := first | omega | (simp only [up_ap, List.length_set, Nat.reduceEqDiff, reduceIte] <;> omega)) only [Int32.le_refl, bd_pr, pr_ap, jn_eq, lt_eq, bd_bd, bd_ite, ite_ap, bd_ld, bd_sv, bd_la, bd_sa, bd_ln, bd_rz0, bd_rz1, rz_n0, rz_n1, e_lit2, nI_z, nI_eq0, nI_0eq, nI_le0, nI_lt0, nI_0lt, nI_0le, e_001, e_n10, e_n1lt, bd_la0, bd_sa0, bd_rz00, rz_0, rz_1, b2i_0, Int32.add_zero, Int32.zero_add, nI_add, nI_pred2, pk_sub, pk_mul, pk_div, e_nz, nI_eq, nI_leI, nI_ltI, e_nm1, e_nm2, up_ap, gd_set_ne, gd_set_same, List.length_set, Nat.add_sub_cancel, Nat.reduceEqDiff, Nat.reduceAdd, Nat.reduceMul, Nat.reduceSub, Nat.reduceLT, Nat.reduceLeDiff, reduceIte, Nat.not_lt_zero, not_true_eq_false, not_false_eq_true, and_true, true_and, and_false, false_and, e0, n1]
    rw [bd_some hg]
    simp (disch := first | omega | (simp only [up_ap, List.length_set, Nat.reduceEqDiff, reduceIte] <;> omega)) only [Int32.le_refl, bd_pr, pr_ap, jn_eq, lt_eq, bd_bd, bd_ite, ite_ap, bd_ld, bd_sv, bd_la, bd_sa, bd_ln, bd_rz0, bd_rz1, rz_n0, rz_n1, e_lit2, nI_z, nI_eq0, nI_0eq, nI_le0, nI_lt0, nI_0lt, nI_0le, e_001, e_n10, e_n1lt, bd_la0, bd_sa0, bd_rz00, rz_0, rz_1, b2i_0, Int32.add_zero, Int32.zero_add, nI_add, nI_pred2, pk_sub, pk_mul, pk_div, e_nz, nI_eq, nI_leI, nI_ltI, e_nm1, e_nm2, up_ap, gd_set_ne, gd_set_same, List.length_set, Nat.add_sub_cancel, Nat.reduceEqDiff, Nat.reduceAdd, Nat.reduceMul, Nat.reduceSub, Nat.reduceLT, Nat.reduceLeDiff, reduceIte, Nat.not_lt_zero, not_true_eq_false, not_false_eq_true, and_true, true_and, and_false, false_and, hs]
  · have n1 : n < n + 1 := by omega
    unfold na1B
    simp (disch := first | omega | (simp only [up_ap, List.length_set, Nat.reduceEqDiff, reduceIte] <;> omega)) only [Int32.le_refl, bd_pr, pr_ap, jn_eq, lt_eq, bd_bd, bd_ite, ite_ap, bd_ld, bd_sv, bd_la, bd_sa, bd_ln, bd_rz0, bd_rz1, rz_n0, rz_n1, e_lit2, nI_z, nI_eq0, nI_0eq, nI_le0, nI_lt0, nI_0lt, nI_0le, e_001, e_n10, e_n1lt, bd_la0, bd_sa0, bd_rz00, rz_0, rz_1, b2i_0, Int32.add_zero, Int32.zero_add, nI_add, nI_pred2, pk_sub, pk_mul, pk_div, e_nz, nI_eq, nI_leI, nI_ltI, e_nm1, e_nm2, up_ap, gd_set_ne, gd_set_same, List.length_set, Nat.add_sub_cancel, Nat.reduceEqDiff, Nat.reduceAdd, Nat.reduceMul, Nat.reduceSub, Nat.reduceLT, Nat.reduceLeDiff, reduceIte, Nat.not_lt_zero, not_true_eq_false, not_false_eq_true, and_true, true_and, and_false, false_and, e0, n1]
set_option maxHeartbeats 400000 in
theorem op_boxes {A B : Bk} (h : R A B) (x : Int32) : ∃ r A' B', gX10_boxes x A = some (r, A') ∧ gX11_boxes x B = some (r, B') ∧ R A' B' := by
  have hb0 := R_B0 h
  have hRt := R_told h
  obtain ⟨B0, hB0⟩ : ∃ z, z = up B 0 ((B 0).set 0 0) := ⟨_, rfl⟩
  rw [← hB0] at hRt
  have z0 := R_B0 hRt
  obtain ⟨⟨np, nc, nt, ks, wh, hH, hU⟩, hT, hI, hA, hB⟩ := id hRt
  obtain ⟨hW, hw0⟩ := R_W hH
  obtain ⟨hl, ⟨hn1, hn2, hn3, hn4⟩, ⟨p1, p2, p3, p4, p5, p6⟩, he, ⟨s1, s2, s3, s4, s5, s6, s7⟩, hod, ho, hd, hw, ⟨k1, k2, k3⟩⟩ := id hW
  obtain ⟨l0, l1, l2, l3, l4, l5, l6, l7, l8, l9, l10, l11, l12⟩ := id hl
  have b6 : (B0 0).getD 6 0 = nI np := hH.1.2.2.2.1.2.2.1
  have b7 : (B0 0).getD 7 0 = nI nc := hH.1.2.2.2.1.2.2.2.1
  have b8 : (B0 0).getD 8 0 = nI nt := hH.1.2.2.2.1.2.2.2.2
  have m4 : (B0 4).length = 20 := by rw [← hod.1]; exact l8
  have m5 : (B0 5).length = 20 := by rw [← hod.2]; exact l9
  obtain ⟨-, ⟨c1, c2, c3, k, hk, c4, c5, c6⟩, -⟩ := hH.2
  have c1 : (A 41).length = 2 := c1
  have c2 : (A 42).length = 16 := c2
  have c4 : (A 41).getD 0 0 = nI k := c4
  have hsw : gX10_boxes x = if x = nI 0 then (bd (ld 41 0) fun v1 => bd (lf rh40 2 (gX6_boxAfter v1)) fun r2 => pr r2) else if x = nI 1 then (bd (lf rh40 2 gX6_nextAsked) fun r3 => pr r3) else pr (-1) := by
    have e0 := swl_c (α := Int32) (x := x) (k := 0) (K := bd (ld 41 0) fun v1 => bd (lf rh40 2 (gX6_boxAfter v1)) fun r2 => pr r2) (D := pr (-1)) (L := [((1 : Int), bd (lf rh40 2 gX6_nextAsked) fun r3 => pr r3)]) (by decide)
    have e1 := swl_c (α := Int32) (x := x) (k := 1) (K := bd (lf rh40 2 gX6_nextAsked) fun r3 => pr r3) (D := pr (-1)) (L := []) (by decide)
    exact e0.trans (by rw [show swl x [((1 : Int), bd (lf rh40 2 gX6_nextAsked) fun r3 => pr r3)] (pr (-1)) = _ from e1]; rfl)
  have hbx : ∀ j, j ≤ k → bx (fun i => (A 42).getD i 0) j = bx (fun i => (B0 29).getD i 0) j := fun j hj => fo_congr (fun i hi b => by
    have : (A 42).getD i 0 = (B0 29).getD i 0 := (c6 i (by omega)).1
    simp only [this])
  have hlp : ∀ x, bm1 x B0 = some (if x = 0 then nI (bx (fun i => (B0 29).getD i 0) k) else nI (dyN (fun i => (B0 29).getD i 0) k), B0) := fun x => by
    unfold bm1
    refine loopF k (fun j => (nI (bx (fun i => (B0 29).getD i 0) j), nI (dyN (fun i => (B0 29).getD i 0) j), nI j)) (fun _ => B0) rfl rfl (fun j hj self => ?_) (fun self => ?_) (by omega)
    · have n1 : ¬ k ≤ j := by omega
      have hb := bx_r (fun i => (B0 29).getD i 0) j
      have hb1 := bx_r (fun i => (B0 29).getD i 0) (j + 1)
      have hm := min5 hb.2
      have hd := dyN_le (fun i => (B0 29).getD i 0) j
      have e2 : dyN (fun i => (B0 29).getD i 0) (j + 1) = dyN (fun i => (B0 29).getD i 0) j + 2 ^ (bx (fun i => (B0 29).getD i 0) (j + 1) - 1) := rfl
      have hs := shl_n (bx (fun i => (B0 29).getD i 0) (j + 1) - 1) (by omega)
      have e : bx (fun i => (B0 29).getD i 0) (j + 1) = if (B0 29).getD j 0 = nI 1 then (if bx (fun i => (B0 29).getD i 0) j < 5 then bx (fun i => (B0 29).getD i 0) j + 1 else 5) else 1 := rfl
      rw [e2]
      unfold bm1B
      simp (disch := first | omega | (simp only [up_ap, List.length_set, Nat.reduceEqDiff, reduceIte] <;> omega)) only [Int32.le_refl, bd_pr, pr_ap, jn_eq, lt_eq, bd_bd, bd_ite, ite_ap, bd_ld, bd_sv, bd_la, bd_sa, bd_ln, bd_rz0, bd_rz1, rz_n0, rz_n1, e_lit2, nI_z, nI_eq0, nI_0eq, nI_le0, nI_lt0, nI_0lt, nI_0le, e_001, e_n10, e_n1lt, bd_la0, bd_sa0, bd_rz00, rz_0, rz_1, b2i_0, Int32.add_zero, Int32.zero_add, nI_add, nI_pred2, pk_sub, pk_mul, pk_div, e_nz, nI_eq, nI_leI, nI_ltI, e_nm1, e_nm2, up_ap, gd_set_ne, gd_set_same, List.length_set, Nat.add_sub_cancel, Nat.reduceEqDiff, Nat.reduceAdd, Nat.reduceMul, Nat.reduceSub, Nat.reduceLT, Nat.reduceLeDiff, reduceIte, Nat.not_lt_zero, not_true_eq_false, not_false_eq_true, and_true, true_and, and_false, false_and, c5, n1]
      by_cases q : (B0 29).getD j 0 = nI 1
      · rw [if_pos q] at e
        simp (disch := first | omega | (simp only [up_ap, List.length_set, Nat.reduceEqDiff, reduceIte] <;> omega)) only [Int32.le_refl, bd_pr, pr_ap, jn_eq, lt_eq, bd_bd, bd_ite, ite_ap, bd_ld, bd_sv, bd_la, bd_sa, bd_ln, bd_rz0, bd_rz1, rz_n0, rz_n1, e_lit2, nI_z, nI_eq0, nI_0eq, nI_le0, nI_lt0, nI_0lt, nI_0le, e_001, e_n10, e_n1lt, bd_la0, bd_sa0, bd_rz00, rz_0, rz_1, b2i_0, Int32.add_zero, Int32.zero_add, nI_add, nI_pred2, pk_sub, pk_mul, pk_div, e_nz, nI_eq, nI_leI, nI_ltI, e_nm1, e_nm2, up_ap, gd_set_ne, gd_set_same, List.length_set, Nat.add_sub_cancel, Nat.reduceEqDiff, Nat.reduceAdd, Nat.reduceMul, Nat.reduceSub, Nat.reduceLT, Nat.reduceLeDiff, reduceIte, Nat.not_lt_zero, not_true_eq_false, not_false_eq_true, and_true, true_and, and_false, false_and, q]
        rw [bd_some (hm.2 _), ← e]
        simp (disch := first | omega | (simp only [up_ap, List.length_set, Nat.reduceEqDiff, reduceIte] <;> omega)) only [Int32.le_refl, bd_pr, pr_ap, jn_eq, lt_eq, bd_bd, bd_ite, ite_ap, bd_ld, bd_sv, bd_la, bd_sa, bd_ln, bd_rz0, bd_rz1, rz_n0, rz_n1, e_lit2, nI_z, nI_eq0, nI_0eq, nI_le0, nI_lt0, nI_0lt, nI_0le, e_001, e_n10, e_n1lt, bd_la0, bd_sa0, bd_rz00, rz_0, rz_1, b2i_0, Int32.add_zero, Int32.zero_add, nI_add, nI_pred2, pk_sub, pk_mul, pk_div, e_nz, nI_eq, nI_leI, nI_ltI, e_nm1, e_nm2, up_ap, gd_set_ne, gd_set_same, List.length_set, Nat.add_sub_cancel, Nat.reduceEqDiff, Nat.reduceAdd, Nat.reduceMul, Nat.reduceSub, Nat.reduceLT, Nat.reduceLeDiff, reduceIte, Nat.not_lt_zero, not_true_eq_false, not_false_eq_true, and_true, true_and, and_false, false_and, hs]
      · rw [if_neg q] at e
        have hs1 : nI 1 <<< ((0 : Int32) &&& nI 31) = nI 1 := by decide
        rw [e]
        simp (disch := first | omega | (simp only [up_ap, List.length_set, Nat.reduceEqDiff, reduceIte] <;> omega)) only [Int32.le_refl, bd_pr, pr_ap, jn_eq, lt_eq, bd_bd, bd_ite, ite_ap, bd_ld, bd_sv, bd_la, bd_sa, bd_ln, bd_rz0, bd_rz1, rz_n0, rz_n1, e_lit2, nI_z, nI_eq0, nI_0eq, nI_le0, nI_lt0, nI_0lt, nI_0le, e_001, e_n10, e_n1lt, bd_la0, bd_sa0, bd_rz00, rz_0, rz_1, b2i_0, Int32.add_zero, Int32.zero_add, nI_add, nI_pred2, pk_sub, pk_mul, pk_div, e_nz, nI_eq, nI_leI, nI_ltI, e_nm1, e_nm2, up_ap, gd_set_ne, gd_set_same, List.length_set, Nat.add_sub_cancel, Nat.reduceEqDiff, Nat.reduceAdd, Nat.reduceMul, Nat.reduceSub, Nat.reduceLT, Nat.reduceLeDiff, reduceIte, Nat.not_lt_zero, not_true_eq_false, not_false_eq_true, and_true, true_and, and_false, false_and, q, hs1, Nat.sub_self, Nat.pow_zero]
    · unfold bm1B
      by_cases q : x = 0
      · rw [if_pos q]
        simp (disch := first | omega | (simp only [up_ap, List.length_set, Nat.reduceEqDiff, reduceIte] <;> omega)) only [Int32.le_refl, bd_pr, pr_ap, jn_eq, lt_eq, bd_bd, bd_ite, ite_ap, bd_ld, bd_sv, bd_la, bd_sa, bd_ln, bd_rz0, bd_rz1, rz_n0, rz_n1, e_lit2, nI_z, nI_eq0, nI_0eq, nI_le0, nI_lt0, nI_0lt, nI_0le, e_001, e_n10, e_n1lt, bd_la0, bd_sa0, bd_rz00, rz_0, rz_1, b2i_0, Int32.add_zero, Int32.zero_add, nI_add, nI_pred2, pk_sub, pk_mul, pk_div, e_nz, nI_eq, nI_leI, nI_ltI, e_nm1, e_nm2, up_ap, gd_set_ne, gd_set_same, List.length_set, Nat.add_sub_cancel, Nat.reduceEqDiff, Nat.reduceAdd, Nat.reduceMul, Nat.reduceSub, Nat.reduceLT, Nat.reduceLeDiff, reduceIte, Nat.not_lt_zero, not_true_eq_false, not_false_eq_true, and_true, true_and, and_false, false_and, c5, q]
      · rw [if_neg q]
        simp (disch := first | omega | (simp only [up_ap, List.length_set, Nat.reduceEqDiff, reduceIte] <;> omega)) only [Int32.le_refl, bd_pr, pr_ap, jn_eq, lt_eq, bd_bd, bd_ite, ite_ap, bd_ld, bd_sv, bd_la, bd_sa, bd_ln, bd_rz0, bd_rz1, rz_n0, rz_n1, e_lit2, nI_z, nI_eq0, nI_0eq, nI_le0, nI_lt0, nI_0lt, nI_0le, e_001, e_n10, e_n1lt, bd_la0, bd_sa0, bd_rz00, rz_0, rz_1, b2i_0, Int32.add_zero, Int32.zero_add, nI_add, nI_pred2, pk_sub, pk_mul, pk_div, e_nz, nI_eq, nI_leI, nI_ltI, e_nm1, e_nm2, up_ap, gd_set_ne, gd_set_same, List.length_set, Nat.add_sub_cancel, Nat.reduceEqDiff, Nat.reduceAdd, Nat.reduceMul, Nat.reduceSub, Nat.reduceLT, Nat.reduceLeDiff, reduceIte, Nat.not_lt_zero, not_true_eq_false, not_false_eq_true, and_true, true_and, and_false, false_and, c5, q]
  by_cases h0 : x = 0
  · subst h0
    have g1 := p_boxAfter (T := fun i => A (rh40 i)) (n := k) (by show k ≤ (A 42).length; omega) c2
    have hl := hlp 0
    rw [if_pos rfl] at hl
    refine ⟨nI (bx (fun i => (B0 29).getD i 0) k), A, B0, ?_, ?_, hRt⟩
    · rw [hsw, if_pos (show (0 : Int32) = nI 0 from rfl), bd_ld _ (by omega), c4, bd_lf0 _ g1]
      have : bx (fun i => ((fun i => A (rh40 i)) 1).getD i 0) k = bx (fun i => (B0 29).getD i 0) k := hbx k (Nat.le_refl _)
      rw [this]; rfl
    · rw [bm_eq, told0 _ hb0, ← hB0, bd_in, b2i_t (by decide), if_neg (by decide)]
      exact hl
  · by_cases h1 : x = nI 1
    · subst h1
      have g1 := p_nextAsked (T := fun i => A (rh40 i)) hk c1 c4 c2
      have hl := hlp (nI 1)
      rw [if_neg h0] at hl
      refine ⟨nI (dyN (fun i => (B0 29).getD i 0) k), A, B0, ?_, ?_, hRt⟩
      · rw [hsw, if_neg (show ¬ nI 1 = nI 0 by decide), if_pos rfl, bd_lf0 _ g1]
        have : dyN (fun i => ((fun i => A (rh40 i)) 1).getD i 0) k = dyN (fun i => (B0 29).getD i 0) k := fo_congr (fun i hi d => by
          have := hbx (i + 1) (by omega)
          rw [show bx (fun i => ((fun i => A (rh40 i)) 1).getD i 0) (i + 1) = _ from this])
        rw [this]; rfl
      · rw [bm_eq, told0 _ hb0, ← hB0, bd_in, b2i_t (by decide), if_neg (by decide)]
        exact hl
    · have hn : ¬ ((0 : Int32) ≤ x ∧ x ≤ 1) := fun q => by
        obtain ⟨j, hj, rfl⟩ := wi_rng (n := 1) (by decide) q
        rcases (show j = 0 ∨ j = 1 by omega) with z | z
        · subst z; exact h0 rfl
        · subst z; exact h1 rfl
      refine ⟨-1, A, B0, ?_, ?_, hRt⟩
      · rw [hsw, if_neg (show ¬ x = nI 0 from h0), if_neg h1]; rfl
      · rw [bm_eq, told0 _ hb0, ← hB0, bd_in, b2i_f hn]; rfl
/-- spelt -/
def ch (d : Nat) : Nat := if d < 2 then 1 else if d = 7 ∨ d = 9 then 4 else 3
theorem ch_c : ∀ d : Nat, d < 10 → (gX11_choicesOf (nI d) (fun _ => [])).map (fun q => q.1) = some (nI (ch d)) ∧ (gX6_lettersOf (nI d) (fun _ => [])).map (fun q => q.1) = some (if d < 2 then nI 0 else nI (ch d)) ∧ 1 ≤ ch d ∧ ch d ≤ 4 := by decide +kernel
theorem St_choices (x : Int32) : St (gX11_choicesOf x) := by
  unfold gX11_choicesOf
  repeat' (first | with_reducible exact St_pr _ | with_reducible apply St_ite | with_reducible apply St_nz | with_reducible apply St_lt | with_reducible apply St_jn | intro _ | with_reducible apply_assumption)
set_option maxHeartbeats 400000 in
theorem p_choices {d : Nat} (hd : d < 10) (B : Bk) : gX11_choicesOf (nI d) B = some (nI (ch d), B) := St_val (St_choices _) (ch_c d hd).1 B
set_option maxHeartbeats 400000 in
theorem p_letters {d : Nat} (hd : d < 10) (B : Bk) : gX6_lettersOf (nI d) B = some (if d < 2 then nI 0 else nI (ch d), B) := St_val (St_X6_lettersOf _) (ch_c d hd).2.1 B
set_option maxHeartbeats 400000 in
theorem p_max1 {d : Nat} (hd : d < 10) (A : Bk) : gJ9_max_7cf53 (nI 1) (if d < 2 then nI 0 else nI (ch d)) A = some (nI (ch d), A) := by
  have h := (ch_c d hd).2.2
  unfold gJ9_max_7cf53
  by_cases q : d < 2
  · have : ch d = 1 := by unfold ch; rw [if_pos q]
    rw [if_pos q, this]
    have n1 : ¬ nI 1 < 0 := by decide
    simp (disch := first | omega | (simp only [up_ap, List.length_set, Nat.reduceEqDiff, reduceIte] <;> omega)) only [Int32.le_refl, bd_pr, pr_ap, jn_eq, lt_eq, bd_bd, bd_ite, ite_ap, bd_ld, bd_sv, bd_la, bd_sa, bd_ln, bd_rz0, bd_rz1, rz_n0, rz_n1, e_lit2, nI_z, nI_eq0, nI_0eq, nI_le0, nI_lt0, nI_0lt, nI_0le, e_001, e_n10, e_n1lt, bd_la0, bd_sa0, bd_rz00, rz_0, rz_1, b2i_0, Int32.add_zero, Int32.zero_add, nI_add, nI_pred2, pk_sub, pk_mul, pk_div, e_nz, nI_eq, nI_leI, nI_ltI, e_nm1, e_nm2, up_ap, gd_set_ne, gd_set_same, List.length_set, Nat.add_sub_cancel, Nat.reduceEqDiff, Nat.reduceAdd, Nat.reduceMul, Nat.reduceSub, Nat.reduceLT, Nat.reduceLeDiff, reduceIte, Nat.not_lt_zero, not_true_eq_false, not_false_eq_true, and_true, true_and, and_false, false_and, n1]
  · rw [if_neg q]
    by_cases q2 : 1 < ch d
    · simp (disch := first | omega | (simp only [up_ap, List.length_set, Nat.reduceEqDiff, reduceIte] <;> omega)) only [Int32.le_refl, bd_pr, pr_ap, jn_eq, lt_eq, bd_bd, bd_ite, ite_ap, bd_ld, bd_sv, bd_la, bd_sa, bd_ln, bd_rz0, bd_rz1, rz_n0, rz_n1, e_lit2, nI_z, nI_eq0, nI_0eq, nI_le0, nI_lt0, nI_0lt, nI_0le, e_001, e_n10, e_n1lt, bd_la0, bd_sa0, bd_rz00, rz_0, rz_1, b2i_0, Int32.add_zero, Int32.zero_add, nI_add, nI_pred2, pk_sub, pk_mul, pk_div, e_nz, nI_eq, nI_leI, nI_ltI, e_nm1, e_nm2, up_ap, gd_set_ne, gd_set_same, List.length_set, Nat.add_sub_cancel, Nat.reduceEqDiff, Nat.reduceAdd, Nat.reduceMul, Nat.reduceSub, Nat.reduceLT, Nat.reduceLeDiff, reduceIte, Nat.not_lt_zero, not_true_eq_false, not_false_eq_true, and_true, true_and, and_false, false_and, q2]
    · have : ch d = 1 := by omega
      rw [this]
      simp (disch := first | omega | (simp only [up_ap, List.length_set, Nat.reduceEqDiff, reduceIte] <;> omega)) only [Int32.le_refl, bd_pr, pr_ap, jn_eq, lt_eq, bd_bd, bd_ite, ite_ap, bd_ld, bd_sv, bd_la, bd_sa, bd_ln, bd_rz0, bd_rz1, rz_n0, rz_n1, e_lit2, nI_z, nI_eq0, nI_0eq, nI_le0, nI_lt0, nI_0lt, nI_0le, e_001, e_n10, e_n1lt, bd_la0, bd_sa0, bd_rz00, rz_0, rz_1, b2i_0, Int32.add_zero, Int32.zero_add, nI_add, nI_pred2, pk_sub, pk_mul, pk_div, e_nz, nI_eq, nI_leI, nI_ltI, e_nm1, e_nm2, up_ap, gd_set_ne, gd_set_same, List.length_set, Nat.add_sub_cancel, Nat.reduceEqDiff, Nat.reduceAdd, Nat.reduceMul, Nat.reduceSub, Nat.reduceLT, Nat.reduceLeDiff, reduceIte, Nat.not_lt_zero, not_true_eq_false, not_false_eq_true, and_true, true_and, and_false, false_and]
def wy (f : Nat → Nat) (o : Nat) : Nat → Nat := fo (fun j w => w * ch (f (o + j))) 1
theorem wy_r {f : Nat → Nat} {o : Nat} : ∀ n, (∀ j, j < n → f (o + j) < 10) → 1 ≤ wy f o n ∧ wy f o n ≤ 4 ^ n
  | 0, _ => ⟨Nat.le_refl _, Nat.le_refl _⟩
  | n + 1, h => by
    have := wy_r n (fun j hj => h j (by omega))
    have hc := (ch_c (f (o + n)) (h n (by omega))).2.2
    show 1 ≤ wy f o n * ch (f (o + n)) ∧ wy f o n * ch (f (o + n)) ≤ 4 ^ (n + 1)
    rw [Nat.pow_succ]
    exact ⟨Nat.mul_pos this.1 hc.1, Nat.mul_le_mul this.2 hc.2⟩
theorem wy_31 {f : Nat → Nat} {o n : Nat} (hn : n ≤ 10) (h : ∀ j, j < n → f (o + j) < 10) : 1 ≤ wy f o n ∧ wy f o n < 2 ^ 21 := by
  have := wy_r n h
  have h2 : 4 ^ n ≤ 4 ^ 10 := Nat.pow_le_pow_right (by decide) hn
  omega
set_option maxHeartbeats 400000 in
theorem p_spellings {T : Bk} {k o : Nat} {f : Nat → Nat} (t0 : (T 0).length = 2) (e0 : (T 0).getD 0 0 = nI k) (hk : k ≤ 10) (ho : o ≤ k) (hl : (T 1).length = 10) (hf : ∀ i, i < k → (T 1).getD i 0 = nI (f i) ∧ f i < 10) : gX6_spellings (nI o) T = some (nI (wy f o (k - o)), T) := by
  rw [sp_eq, bd_lf0 _ (p_max0 (by omega) _)]
  unfold sp1
  refine loopF (k - o) (fun j => (nI (wy f o j), nI (o + j))) (fun _ => T) rfl rfl (fun j hj self => ?_) (fun self => ?_) (by omega)
  · have n1 : ¬ k ≤ o + j := by omega
    obtain ⟨e1, e2⟩ := hf (o + j) (by omega)
    have hg := p_get (T := T) (i := o + j) (by omega) (by omega)
    rw [e1] at hg
    have hw := wy_31 (f := f) (o := o) (n := j) (by omega) (fun i hi => (hf (o + i) (by omega)).2)
    have hc := (ch_c (f (o + j)) e2).2.2
    have e : wy f o (j + 1) = wy f o j * ch (f (o + j)) := rfl
    have e3 : o + (j + 1) = o + j + 1 := rfl
    rw [e, e3]
    unfold sp1B
    simp (disch := first | omega | (simp only [up_ap, List.length_set, Nat.reduceEqDiff, reduceIte] <;> omega)) only [Int32.le_refl, bd_pr, pr_ap, jn_eq, lt_eq, bd_bd, bd_ite, ite_ap, bd_ld, bd_sv, bd_la, bd_sa, bd_ln, bd_rz0, bd_rz1, rz_n0, rz_n1, e_lit2, nI_z, nI_eq0, nI_0eq, nI_le0, nI_lt0, nI_0lt, nI_0le, e_001, e_n10, e_n1lt, bd_la0, bd_sa0, bd_rz00, rz_0, rz_1, b2i_0, Int32.add_zero, Int32.zero_add, nI_add, nI_pred2, pk_sub, pk_mul, pk_div, e_nz, nI_eq, nI_leI, nI_ltI, e_nm1, e_nm2, up_ap, gd_set_ne, gd_set_same, List.length_set, Nat.add_sub_cancel, Nat.reduceEqDiff, Nat.reduceAdd, Nat.reduceMul, Nat.reduceSub, Nat.reduceLT, Nat.reduceLeDiff, reduceIte, Nat.not_lt_zero, not_true_eq_false, not_false_eq_true, and_true, true_and, and_false, false_and, e0, n1]
    rw [bd_some hg, bd_lf0 _ (p_letters e2 _), bd_lf0 _ (p_max1 e2 _)]
    simp (disch := first | omega | (simp only [up_ap, List.length_set, Nat.reduceEqDiff, reduceIte] <;> omega)) only [Int32.le_refl, bd_pr, pr_ap, jn_eq, lt_eq, bd_bd, bd_ite, ite_ap, bd_ld, bd_sv, bd_la, bd_sa, bd_ln, bd_rz0, bd_rz1, rz_n0, rz_n1, e_lit2, nI_z, nI_eq0, nI_0eq, nI_le0, nI_lt0, nI_0lt, nI_0le, e_001, e_n10, e_n1lt, bd_la0, bd_sa0, bd_rz00, rz_0, rz_1, b2i_0, Int32.add_zero, Int32.zero_add, nI_add, nI_pred2, pk_sub, pk_mul, pk_div, e_nz, nI_eq, nI_leI, nI_ltI, e_nm1, e_nm2, up_ap, gd_set_ne, gd_set_same, List.length_set, Nat.add_sub_cancel, Nat.reduceEqDiff, Nat.reduceAdd, Nat.reduceMul, Nat.reduceSub, Nat.reduceLT, Nat.reduceLeDiff, reduceIte, Nat.not_lt_zero, not_true_eq_false, not_false_eq_true, and_true, true_and, and_false, false_and]
  · have n1 : k ≤ o + (k - o) := by omega
    unfold sp1B
    simp (disch := first | omega | (simp only [up_ap, List.length_set, Nat.reduceEqDiff, reduceIte] <;> omega)) only [Int32.le_refl, bd_pr, pr_ap, jn_eq, lt_eq, bd_bd, bd_ite, ite_ap, bd_ld, bd_sv, bd_la, bd_sa, bd_ln, bd_rz0, bd_rz1, rz_n0, rz_n1, e_lit2, nI_z, nI_eq0, nI_0eq, nI_le0, nI_lt0, nI_0lt, nI_0le, e_001, e_n10, e_n1lt, bd_la0, bd_sa0, bd_rz00, rz_0, rz_1, b2i_0, Int32.add_zero, Int32.zero_add, nI_add, nI_pred2, pk_sub, pk_mul, pk_div, e_nz, nI_eq, nI_leI, nI_ltI, e_nm1, e_nm2, up_ap, gd_set_ne, gd_set_same, List.length_set, Nat.add_sub_cancel, Nat.reduceEqDiff, Nat.reduceAdd, Nat.reduceMul, Nat.reduceSub, Nat.reduceLT, Nat.reduceLeDiff, reduceIte, Nat.not_lt_zero, not_true_eq_false, not_false_eq_true, and_true, true_and, and_false, false_and, e0, n1]
set_option maxHeartbeats 400000 in
theorem p_waysFrom {B : Bk} {k o : Nat} {f : Nat → Nat} (t0 : (B 0).length = 68) (e0 : (B 0).getD 61 0 = nI k) (hk : k ≤ 10) (ho : o ≤ k) (hl : (B 35).length = 10) (hf : ∀ i, i < k → (B 35).getD i 0 = nI (f i) ∧ f i < 10) : gX11_waysFrom (nI o) B = some (nI (wy f o (k - o)), B) := by
  rw [wf_eq]
  unfold wf1
  refine loopF (k - o) (fun j => (nI (wy f o j), nI (o + j))) (fun _ => B) rfl rfl (fun j hj self => ?_) (fun self => ?_) (by omega)
  · have n1 : ¬ k ≤ o + j := by omega
    obtain ⟨e1, e2⟩ := hf (o + j) (by omega)
    have e : wy f o (j + 1) = wy f o j * ch (f (o + j)) := rfl
    have e3 : o + (j + 1) = o + j + 1 := rfl
    rw [e, e3]
    unfold wf1B
    simp (disch := first | omega | (simp only [up_ap, List.length_set, Nat.reduceEqDiff, reduceIte] <;> omega)) only [Int32.le_refl, bd_pr, pr_ap, jn_eq, lt_eq, bd_bd, bd_ite, ite_ap, bd_ld, bd_sv, bd_la, bd_sa, bd_ln, bd_rz0, bd_rz1, rz_n0, rz_n1, e_lit2, nI_z, nI_eq0, nI_0eq, nI_le0, nI_lt0, nI_0lt, nI_0le, e_001, e_n10, e_n1lt, bd_la0, bd_sa0, bd_rz00, rz_0, rz_1, b2i_0, Int32.add_zero, Int32.zero_add, nI_add, nI_pred2, pk_sub, pk_mul, pk_div, e_nz, nI_eq, nI_leI, nI_ltI, e_nm1, e_nm2, up_ap, gd_set_ne, gd_set_same, List.length_set, Nat.add_sub_cancel, Nat.reduceEqDiff, Nat.reduceAdd, Nat.reduceMul, Nat.reduceSub, Nat.reduceLT, Nat.reduceLeDiff, reduceIte, Nat.not_lt_zero, not_true_eq_false, not_false_eq_true, and_true, true_and, and_false, false_and, e0, n1, e1]
    rw [bd_some (p_choices e2 _)]
    simp (disch := first | omega | (simp only [up_ap, List.length_set, Nat.reduceEqDiff, reduceIte] <;> omega)) only [Int32.le_refl, bd_pr, pr_ap, jn_eq, lt_eq, bd_bd, bd_ite, ite_ap, bd_ld, bd_sv, bd_la, bd_sa, bd_ln, bd_rz0, bd_rz1, rz_n0, rz_n1, e_lit2, nI_z, nI_eq0, nI_0eq, nI_le0, nI_lt0, nI_0lt, nI_0le, e_001, e_n10, e_n1lt, bd_la0, bd_sa0, bd_rz00, rz_0, rz_1, b2i_0, Int32.add_zero, Int32.zero_add, nI_add, nI_pred2, pk_sub, pk_mul, pk_div, e_nz, nI_eq, nI_leI, nI_ltI, e_nm1, e_nm2, up_ap, gd_set_ne, gd_set_same, List.length_set, Nat.add_sub_cancel, Nat.reduceEqDiff, Nat.reduceAdd, Nat.reduceMul, Nat.reduceSub, Nat.reduceLT, Nat.reduceLeDiff, reduceIte, Nat.not_lt_zero, not_true_eq_false, not_false_eq_true, and_true, true_and, and_false, false_and]
  · have n1 : k ≤ o + (k - o) := by omega
    unfold wf1B
    simp (disch := first | omega | (simp only [up_ap, List.length_set, Nat.reduceEqDiff, reduceIte] <;> omega)) only [Int32.le_refl, bd_pr, pr_ap, jn_eq, lt_eq, bd_bd, bd_ite, ite_ap, bd_ld, bd_sv, bd_la, bd_sa, bd_ln, bd_rz0, bd_rz1, rz_n0, rz_n1, e_lit2, nI_z, nI_eq0, nI_0eq, nI_le0, nI_lt0, nI_0lt, nI_0le, e_001, e_n10, e_n1lt, bd_la0, bd_sa0, bd_rz00, rz_0, rz_1, b2i_0, Int32.add_zero, Int32.zero_add, nI_add, nI_pred2, pk_sub, pk_mul, pk_div, e_nz, nI_eq, nI_leI, nI_ltI, e_nm1, e_nm2, up_ap, gd_set_ne, gd_set_same, List.length_set, Nat.add_sub_cancel, Nat.reduceEqDiff, Nat.reduceAdd, Nat.reduceMul, Nat.reduceSub, Nat.reduceLT, Nat.reduceLeDiff, reduceIte, Nat.not_lt_zero, not_true_eq_false, not_false_eq_true, and_true, true_and, and_false, false_and, e0, n1]
theorem rem_e {a d : Nat} (ha : a < 2 ^ 31) (h0 : 0 < d) (hd : d < 2 ^ 31) : irm (nI a) (nI d) = nI (a % d) := pk_rem ha h0 hd
set_option maxHeartbeats 400000 in
theorem op_spelt {A B : Bk} (h : R A B) (x y : Int32) : ∃ r A' B', gX10_spelt x y A = some (r, A') ∧ gX11_spelt x y B = some (r, B') ∧ R A' B' := by
  have hb0 := R_B0 h
  have hRt := R_told h
  obtain ⟨B0, hB0⟩ : ∃ z, z = up B 0 ((B 0).set 0 0) := ⟨_, rfl⟩
  rw [← hB0] at hRt
  have z0 := R_B0 hRt
  obtain ⟨⟨np, nc, nt, ks, wh, hH, hU⟩, hT, hI, hA, hB⟩ := id hRt
  obtain ⟨hW, hw0⟩ := R_W hH
  obtain ⟨hl, ⟨hn1, hn2, hn3, hn4⟩, ⟨p1, p2, p3, p4, p5, p6⟩, he, ⟨s1, s2, s3, s4, s5, s6, s7⟩, hod, ho, hd, hw, ⟨k1, k2, k3⟩⟩ := id hW
  obtain ⟨l0, l1, l2, l3, l4, l5, l6, l7, l8, l9, l10, l11, l12⟩ := id hl
  have b6 : (B0 0).getD 6 0 = nI np := hH.1.2.2.2.1.2.2.1
  have b7 : (B0 0).getD 7 0 = nI nc := hH.1.2.2.2.1.2.2.2.1
  have b8 : (B0 0).getD 8 0 = nI nt := hH.1.2.2.2.1.2.2.2.2
  have m4 : (B0 4).length = 20 := by rw [← hod.1]; exact l8
  have m5 : (B0 5).length = 20 := by rw [← hod.2]; exact l9
  obtain ⟨-, -, -, -, c1, c2, c3, k, hk, c4, c5, c6⟩ := hH.2
  have c1 : (A 47).length = 2 := c1
  have c2 : (A 48).length = 10 := c2
  have c4 : (A 47).getD 0 0 = nI k := c4
  have hex : ∀ i, ∃ d : Nat, i < k → (A 48).getD i 0 = nI d ∧ (B0 35).getD i 0 = nI d ∧ d < 10 := fun i => by
    by_cases hi : i < k
    · obtain ⟨e1, d, hd, e2⟩ := c6 i hi
      have e1 : (A 48).getD i 0 = (B0 35).getD i 0 := e1
      have e2 : (A 48).getD i 0 = nI d := e2
      exact ⟨d, fun _ => ⟨e2, by rw [← e1]; exact e2, by omega⟩⟩
    · exact ⟨0, fun q => absurd q hi⟩
  obtain ⟨f, hf⟩ := Classical.axiomOfChoice hex
  have fa : ∀ i, i < k → ((fun i => A (rh44 i)) 1).getD i 0 = nI (f i) ∧ f i < 10 := fun i hi => ⟨(hf i hi).1, (hf i hi).2.2⟩
  have fb : ∀ i, i < k → (B0 35).getD i 0 = nI (f i) ∧ f i < 10 := fun i hi => ⟨(hf i hi).2.1, (hf i hi).2.2⟩
  have s0 := p_spellings (T := fun i => A (rh44 i)) (o := 0) c1 c4 hk (Nat.zero_le _) c2 fa
  have w0 := p_waysFrom (B := B0) (o := 0) z0 c5 hk (Nat.zero_le _) c3 fb
  rw [Nat.sub_zero] at s0 w0
  have hw := wy_31 (f := f) (o := 0) (n := k) hk (fun i hi => by rw [Nat.zero_add]; exact (fa i hi).2)
  have hu : gX10_spelt x y A = bd (lf rh44 2 (gX6_spellings (nI 0))) (fun r1 => (if x = ((-1)) then pr r1 else bd (ld 47 0) fun v2 => bd (lf rh0 0 (gX10_isWithin x 0 (v2 - 1))) fun r3 => jn (fun (_ : Unit) => pr ((-1))) (fun j4 => (if r3 = 0 then j4 () else bd (lf rh0 0 (gX10_isWithin y 0 (r1 - 1))) fun r6 => (if r6 = 0 then j4 () else bd (lf rh44 2 (gX6_letterAt x y)) fun r7 => pr r7))))) A := rfl
  rw [hu, bd_lf0 _ s0]
  have w0' : gX11_waysFrom 0 B0 = some (nI (wy f 0 k), B0) := w0
  by_cases hx1 : x = -1
  · subst hx1
    refine ⟨nI (wy f 0 k), A, B0, ?_, ?_, hRt⟩
    · rw [if_pos rfl]; rfl
    · unfold gX11_spelt
      rw [told0 _ hb0, ← hB0, if_pos rfl, bd_some w0']; rfl
  · rw [if_neg hx1]
    have hmo : gX11_spelt x y B = bd (gX11_isIn x 0 (nI k - 1)) (fun r2 => jn (fun (_ : Unit) => pr ((-1))) (fun j3 => (if r2 = 0 then j3 () else bd (gX11_waysFrom 0) fun r5 => bd (gX11_isIn y 0 (r5 - 1)) fun r6 => (if r6 = 0 then j3 () else bd (la 35 x) fun v7 => (if 2 ≤ v7 then bd (gX11_waysFrom (x + 1)) fun r8 => nz r8 (bd (la 35 x) fun v9 => bd (gX11_choicesOf v9) fun r10 => nz r10 (pr (irm (y / r8) r10))) else j3 ()))))) B0 := by
      unfold gX11_spelt
      rw [told0 _ hb0, ← hB0, if_neg hx1, bd_ld _ (by omega), c5]
    rw [hmo, bd_ld _ (by omega), c4, bd_iw, bd_in]
    simp only [jn_eq]
    by_cases hx : 0 ≤ x ∧ x ≤ nI k - 1
    · rw [b2i_t hx, if_neg (by decide), if_neg (by decide), bd_some w0', bd_iw, bd_in]
      have hk0 : 0 < k := by
        rcases Nat.lt_or_ge 0 k with q | q
        · exact q
        · have : k = 0 := by omega
          subst this
          exact absurd (Int32.le_trans hx.1 hx.2) (by decide)
      obtain ⟨m, rfl⟩ : ∃ m, k = m + 1 := ⟨k - 1, by omega⟩
      have hkm : nI (m + 1) - 1 = nI m := nI_pred m
      rw [hkm] at hx
      obtain ⟨i, hi, rfl⟩ := wi_rng (n := m) (by omega) hx
      by_cases hy : 0 ≤ y ∧ y ≤ nI (wy f 0 (m + 1)) - 1
      · rw [b2i_t hy, if_neg (by decide), if_neg (by decide)]
        obtain ⟨w, hwe⟩ : ∃ w, wy f 0 (m + 1) = w + 1 := ⟨wy f 0 (m + 1) - 1, by omega⟩
        have hyw : nI (w + 1) - 1 = nI w := nI_pred w
        rw [hwe, hyw] at hy
        obtain ⟨v, hv, rfl⟩ := wi_rng (n := w) (by omega) hy
        obtain ⟨fe, fe10⟩ := fb i (by omega)
        obtain ⟨fea, -⟩ := fa i (by omega)
        have hg := p_get (T := fun i => A (rh44 i)) (i := i) (by show i < (A 48).length; omega) (by show (A 48).length < 2 ^ 31; omega)
        rw [fea] at hg
        have s1 := p_spellings (T := fun i => A (rh44 i)) (o := i + 1) c1 c4 hk (by omega) c2 fa
        have w1 := p_waysFrom (B := B0) (o := i + 1) z0 c5 hk (by omega) c3 fb
        have hw1 := wy_31 (f := f) (o := i + 1) (n := m + 1 - (i + 1)) (by omega) (fun j hj => (fa (i + 1 + j) (by omega)).2)
        have hc := (ch_c (f i) fe10).2.2
        rw [bd_la _ (by omega) (by omega), fe]
        by_cases hd : f i < 2
        · refine ⟨-1, A, B0, ?_, ?_, hRt⟩
          · have g : gX6_letterAt (nI i) (nI v) (fun i => A (rh44 i)) = some (-1, fun i => A (rh44 i)) := by
              unfold gX6_letterAt
              rw [bd_some hg, bd_lf0 _ (p_letters fe10 _), show nI i + 1 = nI (i + 1) from nI_1 i, bd_some s1, if_pos hd]; rfl
            rw [bd_lf0 _ g]; rfl
          · rw [if_neg (show ¬ (2 : Int32) ≤ nI (f i) from fun q => by have := (nI_leI (a := 2) (b := f i) (by decide) (by omega)).mp q; omega)]; rfl
        · refine ⟨nI (v / wy f (i + 1) (m + 1 - (i + 1)) % ch (f i)), A, B0, ?_, ?_, hRt⟩
          · have g : gX6_letterAt (nI i) (nI v) (fun i => A (rh44 i)) = some (nI (v / wy f (i + 1) (m + 1 - (i + 1)) % ch (f i)), fun i => A (rh44 i)) := by
              unfold gX6_letterAt
              rw [bd_some hg, bd_lf0 _ (p_letters fe10 _), show nI i + 1 = nI (i + 1) from nI_1 i, bd_some s1, if_neg hd]
              simp only [jn_eq]
              have hv2 : v / wy f (i + 1) (m + 1 - (i + 1)) ≤ v := Nat.div_le_self _ _
              rw [if_neg (nI_ne0 (by omega) (by omega)), if_pos (show (0 : Int32) < nI (wy f (i + 1) (m + 1 - (i + 1))) from nI_lt (a := 0) (by omega) (by omega)), e_nz (by omega) (by omega), e_nz (by omega) (by omega), pk_div (by omega) (by omega) (by omega), rem_e (by omega) (by omega) (by omega)]; rfl
            rw [bd_lf0 _ g]; rfl
          · have hv2 : v / wy f (i + 1) (m + 1 - (i + 1)) ≤ v := Nat.div_le_self _ _
            rw [if_pos (show (2 : Int32) ≤ nI (f i) from nI_le (a := 2) (by omega) (by omega)), show nI i + 1 = nI (i + 1) from nI_1 i, bd_some w1, e_nz (by omega) (by omega), bd_la _ (by omega) (by omega), fe, bd_some (p_choices fe10 _), e_nz (by omega) (by omega), pk_div (by omega) (by omega) (by omega), rem_e (by omega) (by omega) (by omega)]; rfl
      · rw [b2i_f hy]
        exact ⟨-1, A, B0, rfl, rfl, hRt⟩
    · rw [b2i_f hx]
      exact ⟨-1, A, B0, rfl, rfl, hRt⟩
