/-! PURE: what codes of the law come to -/
theorem pk_m1' (n : Nat) : nI (n + 1) + -nI 1 = nI n := pk_m1 n
theorem e_swt0 {α : Type} {n : Nat} (h : n < 2 ^ 31) (Ks : List (MM α)) (Kd : MM α) : swt (nI n) 0 Ks Kd = Ks.getD n Kd := by
  unfold swt
  rw [nI_toInt h, if_neg (by omega), show ((n : Int) - 0).toNat = n by omega]
theorem e_swt1 {α : Type} {n : Nat} (h : n < 2 ^ 31) (h1 : 10010 ≤ n) (Ks : List (MM α)) (Kd : MM α) : swt (nI n) 10010 Ks Kd = Ks.getD (n - 10010) Kd := by
  unfold swt
  rw [nI_toInt h, if_neg (by omega), show ((n : Int) - 10010).toNat = n - 10010 by omega]
theorem seg_nil (l : List Int32) (a : Nat) : seg l a a = [] := by
  unfold seg
  apply List.drop_eq_nil_of_le
  rw [List.length_take]; omega
theorem seg_cons {l : List Int32} {a b : Nat} (h : a < b) (hb : b ≤ l.length) : seg l a b = l.getD a 0 :: seg l (a + 1) b := by
  unfold seg
  have hl : a < (l.take b).length := by rw [List.length_take]; omega
  rw [List.drop_eq_getElem_cons hl, List.getElem_take]
  congr 1
  rw [List.getD_eq_getElem?_getD, List.getElem?_eq_getElem (by omega)]; rfl
def ty (y : Nat) (v : Int32) : Prop := (y = 1 → v = 0 ∨ v = nI 1) ∧ (y = 2 → v ≠ 0)
def TS : List Nat → List Int32 → Prop
  | [], _ => True
  | y :: r, s => ty y (s.getD r.length 0) ∧ TS r s
theorem TS_set {s : List Int32} {k : Nat} {v : Int32} : ∀ {r : List Nat}, TS r s → r.length ≤ k → TS r (s.set k v)
  | [], _, _ => trivial
  | y :: r, h, hk => by
    have hk2 : r.length + 1 ≤ k := hk
    exact ⟨by rw [gd_set_ne (by omega)]; exact h.1, TS_set h.2 (by omega)⟩
theorem ty0 (v : Int32) : ty 0 v := ⟨fun h => (by cases h), fun h => (by cases h)⟩
theorem ag_set {s t : List Int32} {n k : Nat} {v : Int32} (h : ∀ i, i < n → s.getD i 0 = t.getD i 0) (hs : k < s.length) (ht : k < t.length) (hn : k ≤ n) : ∀ i, i < k + 1 → (s.set k v).getD i 0 = (t.set k v).getD i 0 := fun i hi => by
  by_cases hq : i = k
  · subst hq; rw [gd_set_same hs, gd_set_same ht]
  · rw [gd_set_ne (fun q => hq q.symm), gd_set_ne (fun q => hq q.symm)]; exact h i (by omega)
theorem tcl_c (c : Int32) (r : List Int32) (st : List Nat) : tcl (c :: r) st = match tcs c st with
    | some s2 => tcl r s2
    | none => none := rfl
theorem p_max0 {a : Nat} (ha : a < 2 ^ 31) (A : Bk) : gJ9_max_7cf53 (nI a) 0 A = some (nI a, A) := by
  unfold gJ9_max_7cf53
  simp (disch := first | omega | (simp only [up_ap, List.length_set, Nat.reduceEqDiff, reduceIte]; omega)) only [bd_pr, pr_ap, jn_eq, lt_eq, bd_bd, bd_ite, ite_ap, bd_ld, bd_sv, bd_la, bd_sa, bd_ln, bd_rz0, bd_rz1, rz_n0, rz_n1, e_lit2, nI_z, nI_eq0, nI_0eq, nI_le0, nI_lt0, nI_0lt, nI_0le, e_001, e_n10, e_n1lt, bd_la0, bd_sa0, bd_rz00, rz_0, rz_1, b2i_0, Int32.add_zero, Int32.zero_add, nI_add, nI_pred2, pk_sub, pk_mul, pk_div, e_nz, nI_eq, nI_leI, nI_ltI, e_nm1, e_nm2, up_ap, gd_set_ne, gd_set_same, List.length_set, Nat.add_sub_cancel, Nat.reduceEqDiff, Nat.reduceAdd, Nat.reduceMul, Nat.reduceSub, Nat.reduceLT, Nat.reduceLeDiff, reduceIte, Nat.not_lt_zero, not_true_eq_false, not_false_eq_true, and_true, true_and, and_false, false_and]
def wB (x2 : Int32) : (Int32 × Int32 → MM Int32) → Int32 × Int32 → MM Int32 := fun self2 s3 =>
  jn (fun (a5 : Unit) =>
  jn (fun (a7 : Int32) =>
  pr a7) (fun j6 =>
  (if s3.1 ≤ 0 then
  j6 0
  else
  bd (la 6 (s3.1 - 1)) fun v8 =>
  j6 v8))) (fun j4 =>
  (if x2 ≤ s3.2 then
  j4 ()
  else
  (if 400 ≤ s3.2 then
  j4 ()
  else
  bd (la 5 s3.2) fun v9 =>
  jn (fun (a11 : Int32) =>
  lt (s3.2 + 1) fun y12 =>
  self2 (a11, y12)) (fun j10 =>
  (if 10010 ≤ v9 then
  (if v9 = 10019 then
  (if s3.1 ≤ 0 then
  j10 s3.1
  else
  bd (la 6 (s3.1 - 1)) fun v31 =>
  bd (sa 6 (s3.1 - 1) (1 - v31)) fun _ =>
  j10 s3.1)
  else
  (if s3.1 ≤ 1 then
  j10 s3.1
  else
  lt (s3.1 + (-1)) fun y13 =>
  bd (la 6 (y13 - 1)) fun v14 =>
  bd (la 6 y13) fun v15 =>
  jn (fun (a17 : Int32) =>
  bd (sa 6 (y13 - 1) a17) fun _ =>
  j10 y13) (fun j16 =>
  swt v9 10010 [lt (v14 + v15) fun y18 =>
  j16 y18,
  lt (v14 - v15) fun y19 =>
  j16 y19,
  lt (v14 * v15) fun y20 =>
  j16 y20,
  jn (fun (a22 : Int32) =>
  j16 a22) (fun j21 =>
  (if v15 = 0 then
  j21 0
  else
  nz v15 (
  j21 (v14 / v15)))),
  jn (fun (a24 : Int32) =>
  j16 a24) (fun j23 =>
  (if v15 ≤ v14 then
  j23 0
  else
  j23 1)),
  jn (fun (a26 : Int32) =>
  j16 a26) (fun j25 =>
  (if v14 = v15 then
  j25 1
  else
  j25 0)),
  jn (fun (a28 : Int32) =>
  j16 a28) (fun j27 =>
  (if v14 ≤ v15 then
  j27 0
  else
  j27 1)),
  lt (v14 &&& v15) fun y29 =>
  j16 y29,
  lt (v14 ||| v15) fun y30 =>
  j16 y30]
  (j16 v14))))
  else
  lt (v9 - 10000) fun y32 =>
  jn (fun (a34 : Int32) =>
  j10 a34) (fun j33 =>
  (if 400 ≤ s3.1 then
  j33 s3.1
  else
  jn (fun (a36 : Int32) =>
  bd (sa 6 s3.1 a36) fun _ =>
  lt (s3.1 + 1) fun y37 =>
  j33 y37) (fun j35 =>
  jn (fun (a39 : Unit) =>
  j35 v9) (fun j38 =>
  (if y32 < 0 then
  j38 ()
  else
  bd (ln 7) fun v40 =>
  (if v40 ≤ y32 then
  j38 ()
  else
  bd (la 7 y32) fun v41 =>
  j35 v41)))))))))))
theorem worth_eq (x1 x2 : Int32) : gX2_worth x1 x2 = bd (lf rh0 0 (gJ9_max_7cf53 x1 0)) fun r1 => loopC 100000 (wB x2) (0, r1) := rfl
def rB (x1 x3 : Int32) : (Int32 × Int32 → MM Int32) → Int32 × Int32 → MM Int32 := fun self2 s3 =>
  (if ((400 * x1) + x3) ≤ s3.2 then
  bd (la 21 0) fun v4 =>
  pr v4
  else
  bd (la 14 s3.2) fun v5 =>
  jn (fun (a7 : Int32) =>
  lt (s3.2 + 1) fun y8 =>
  self2 (a7, y8)) (fun j6 =>
  jn (fun (a10 : Unit) =>
  bd (la 14 s3.2) fun v11 =>
  jn (fun (a13 : Int32) =>
  bd (sa 21 s3.1 a13) fun _ =>
  lt (s3.1 + 1) fun y14 =>
  j6 y14) (fun j12 =>
  (if v11 = 0 then
  bd (la 15 s3.2) fun v17 =>
  j12 v17
  else
  bd (la 15 s3.2) fun v15 =>
  bd (la 20 v15) fun v16 =>
  j12 v16))) (fun j9 =>
  (if v5 = 0 then
  j9 ()
  else
  bd (la 14 s3.2) fun v18 =>
  (if v18 = 1 then
  j9 ()
  else
  bd (la 14 s3.2) fun v19 =>
  (if v19 = 9 then
  bd (la 21 (s3.1 - 1)) fun v25 =>
  bd (sa 21 (s3.1 - 1) (1 - v25)) fun _ =>
  j6 s3.1
  else
  lt (s3.1 - 1) fun y20 =>
  bd (la 14 s3.2) fun v21 =>
  bd (la 21 (y20 - 1)) fun v22 =>
  bd (la 21 y20) fun v23 =>
  bd (gX11_twoOf v21 v22 v23) fun r24 =>
  bd (sa 21 (y20 - 1) r24) fun _ =>
  j6 y20))))))
theorem runs_eq (x1 x2 x3 : Int32) : gX11_runs x1 x2 x3 = lt ((400 * x1) + x2) fun y1 => loopC 100000 (rB x1 x3) (0, y1) := rfl
theorem wB_num {A : Bk} {b i m n : Nat} (l5 : (A 5).length = 400) (l6 : (A 6).length = 400) (hm : m < 400) (hib : i < b) (hi4 : i < 400) (f : Int32 × Int32 → MM Int32) (hn : n < 10000) (hcc : (A 5).getD i 0 = nI n) (hb : b < 2 ^ 31) : wB (nI b) f (nI m, nI i) A = f (nI (m + 1), nI (i + 1)) (up A 6 ((A 6).set m (nI n))) := by
  have nb : ¬ b ≤ i := by omega
  have n4 : ¬ 400 ≤ i := by omega
  have n1 : ¬ 10010 ≤ n := by omega
  have n5 : ¬ 400 ≤ m := by omega
  have y1 : (nI n - nI 10000 < 0) = True := eq_true (pk_sneg (by omega) (by omega))
  unfold wB
  simp (disch := first | omega | (simp only [up_ap, List.length_set, Nat.reduceEqDiff, reduceIte]; omega)) only [bd_pr, pr_ap, jn_eq, lt_eq, bd_bd, bd_ite, ite_ap, bd_ld, bd_sv, bd_la, bd_sa, bd_ln, bd_rz0, bd_rz1, rz_n0, rz_n1, e_lit2, nI_z, nI_eq0, nI_0eq, nI_le0, nI_lt0, nI_0lt, nI_0le, e_001, e_n10, e_n1lt, bd_la0, bd_sa0, bd_rz00, rz_0, rz_1, b2i_0, Int32.add_zero, Int32.zero_add, nI_add, nI_pred2, pk_sub, pk_mul, pk_div, e_nz, nI_eq, nI_leI, nI_ltI, e_nm1, e_nm2, up_ap, gd_set_ne, gd_set_same, List.length_set, Nat.add_sub_cancel, Nat.reduceEqDiff, Nat.reduceAdd, Nat.reduceMul, Nat.reduceSub, Nat.reduceLT, Nat.reduceLeDiff, reduceIte, Nat.not_lt_zero, not_true_eq_false, not_false_eq_true, and_true, true_and, and_false, false_and, hcc, nb, n4, n1, n5, y1]
theorem wB_q {A : Bk} {b i m q : Nat} (l5 : (A 5).length = 400) (l6 : (A 6).length = 400) (l7 : (A 7).length = 9) (hm : m < 400) (hib : i < b) (hi4 : i < 400) (f : Int32 × Int32 → MM Int32) (hq : q < 9) (hcc : (A 5).getD i 0 = nI (10000 + q)) (hb : b < 2 ^ 31) : wB (nI b) f (nI m, nI i) A = f (nI (m + 1), nI (i + 1)) (up A 6 ((A 6).set m ((A 7).getD q 0))) := by
  have nb : ¬ b ≤ i := by omega
  have n4 : ¬ 400 ≤ i := by omega
  have n1 : ¬ 10010 ≤ 10000 + q := by omega
  have n5 : ¬ 400 ≤ m := by omega
  have n6 : ¬ 9 ≤ q := by omega
  have y1 : 10000 + q - 10000 = q := by omega
  unfold wB
  simp (disch := first | omega | (simp only [up_ap, List.length_set, Nat.reduceEqDiff, reduceIte]; omega)) only [bd_pr, pr_ap, jn_eq, lt_eq, bd_bd, bd_ite, ite_ap, bd_ld, bd_sv, bd_la, bd_sa, bd_ln, bd_rz0, bd_rz1, rz_n0, rz_n1, e_lit2, nI_z, nI_eq0, nI_0eq, nI_le0, nI_lt0, nI_0lt, nI_0le, e_001, e_n10, e_n1lt, bd_la0, bd_sa0, bd_rz00, rz_0, rz_1, b2i_0, Int32.add_zero, Int32.zero_add, nI_add, nI_pred2, pk_sub, pk_mul, pk_div, e_nz, nI_eq, nI_leI, nI_ltI, e_nm1, e_nm2, up_ap, gd_set_ne, gd_set_same, List.length_set, Nat.add_sub_cancel, Nat.reduceEqDiff, Nat.reduceAdd, Nat.reduceMul, Nat.reduceSub, Nat.reduceLT, Nat.reduceLeDiff, reduceIte, Nat.not_lt_zero, not_true_eq_false, not_false_eq_true, and_true, true_and, and_false, false_and, hcc, nb, n4, n1, n5, n6, y1, l7]
theorem wB_not {A : Bk} {b i k : Nat} (l5 : (A 5).length = 400) (l6 : (A 6).length = 400) (hk : k < 400) (hib : i < b) (hi4 : i < 400) (f : Int32 × Int32 → MM Int32) (hcc : (A 5).getD i 0 = nI 10019) (hb : b < 2 ^ 31) : wB (nI b) f (nI (k + 1), nI i) A = f (nI (k + 1), nI (i + 1)) (up A 6 ((A 6).set k (nI 1 - (A 6).getD k 0))) := by
  have nb : ¬ b ≤ i := by omega
  have n4 : ¬ 400 ≤ i := by omega
  have n8 : ¬ k + 1 = 0 := by omega
  unfold wB
  simp (disch := first | omega | (simp only [up_ap, List.length_set, Nat.reduceEqDiff, reduceIte]; omega)) only [bd_pr, pr_ap, jn_eq, lt_eq, bd_bd, bd_ite, ite_ap, bd_ld, bd_sv, bd_la, bd_sa, bd_ln, bd_rz0, bd_rz1, rz_n0, rz_n1, e_lit2, nI_z, nI_eq0, nI_0eq, nI_le0, nI_lt0, nI_0lt, nI_0le, e_001, e_n10, e_n1lt, bd_la0, bd_sa0, bd_rz00, rz_0, rz_1, b2i_0, Int32.add_zero, Int32.zero_add, nI_add, nI_pred2, pk_sub, pk_mul, pk_div, e_nz, nI_eq, nI_leI, nI_ltI, e_nm1, e_nm2, up_ap, gd_set_ne, gd_set_same, List.length_set, Nat.add_sub_cancel, Nat.reduceEqDiff, Nat.reduceAdd, Nat.reduceMul, Nat.reduceSub, Nat.reduceLT, Nat.reduceLeDiff, reduceIte, Nat.not_lt_zero, not_true_eq_false, not_false_eq_true, and_true, true_and, and_false, false_and, hcc, nb, n4, n8]
theorem wB_op0 {A : Bk} {b i k : Nat} (l5 : (A 5).length = 400) (l6 : (A 6).length = 400) (hk : k < 399) (hib : i < b) (hi4 : i < 400) (f : Int32 × Int32 → MM Int32) {x y : Int32} (hx : (A 6).getD k 0 = x) (hy : (A 6).getD (k + 1) 0 = y) (hcc : (A 5).getD i 0 = nI 10010) (hb : b < 2 ^ 31) : wB (nI b) f (nI (k + 1 + 1), nI i) A = f (nI (k + 1), nI (i + 1)) (up A 6 ((A 6).set k (x + y))) := by
  have nb : ¬ b ≤ i := by omega
  have n4 : ¬ 400 ≤ i := by omega
  have n7 : ¬ k + 1 + 1 ≤ 1 := by omega
  have n8 : ¬ k + 1 + 1 = 0 := by omega
  unfold wB
  simp (disch := first | omega | (simp only [up_ap, List.length_set, Nat.reduceEqDiff, reduceIte]; omega)) only [bd_pr, pr_ap, jn_eq, lt_eq, bd_bd, bd_ite, ite_ap, bd_ld, bd_sv, bd_la, bd_sa, bd_ln, bd_rz0, bd_rz1, rz_n0, rz_n1, e_lit2, nI_z, nI_eq0, nI_0eq, nI_le0, nI_lt0, nI_0lt, nI_0le, e_001, e_n10, e_n1lt, bd_la0, bd_sa0, bd_rz00, rz_0, rz_1, b2i_0, Int32.add_zero, Int32.zero_add, nI_add, nI_pred2, pk_sub, pk_mul, pk_div, e_nz, nI_eq, nI_leI, nI_ltI, e_nm1, e_nm2, up_ap, gd_set_ne, gd_set_same, List.length_set, Nat.add_sub_cancel, Nat.reduceEqDiff, Nat.reduceAdd, Nat.reduceMul, Nat.reduceSub, Nat.reduceLT, Nat.reduceLeDiff, reduceIte, Nat.not_lt_zero, not_true_eq_false, not_false_eq_true, and_true, true_and, and_false, false_and, hcc, nb, n4, n7, n8, hx, hy, pk_m1', e_swt1, List.getD_cons_succ, List.getD_cons_zero]
theorem wB_op1 {A : Bk} {b i k : Nat} (l5 : (A 5).length = 400) (l6 : (A 6).length = 400) (hk : k < 399) (hib : i < b) (hi4 : i < 400) (f : Int32 × Int32 → MM Int32) {x y : Int32} (hx : (A 6).getD k 0 = x) (hy : (A 6).getD (k + 1) 0 = y) (hcc : (A 5).getD i 0 = nI 10011) (hb : b < 2 ^ 31) : wB (nI b) f (nI (k + 1 + 1), nI i) A = f (nI (k + 1), nI (i + 1)) (up A 6 ((A 6).set k (x - y))) := by
  have nb : ¬ b ≤ i := by omega
  have n4 : ¬ 400 ≤ i := by omega
  have n7 : ¬ k + 1 + 1 ≤ 1 := by omega
  have n8 : ¬ k + 1 + 1 = 0 := by omega
  unfold wB
  simp (disch := first | omega | (simp only [up_ap, List.length_set, Nat.reduceEqDiff, reduceIte]; omega)) only [bd_pr, pr_ap, jn_eq, lt_eq, bd_bd, bd_ite, ite_ap, bd_ld, bd_sv, bd_la, bd_sa, bd_ln, bd_rz0, bd_rz1, rz_n0, rz_n1, e_lit2, nI_z, nI_eq0, nI_0eq, nI_le0, nI_lt0, nI_0lt, nI_0le, e_001, e_n10, e_n1lt, bd_la0, bd_sa0, bd_rz00, rz_0, rz_1, b2i_0, Int32.add_zero, Int32.zero_add, nI_add, nI_pred2, pk_sub, pk_mul, pk_div, e_nz, nI_eq, nI_leI, nI_ltI, e_nm1, e_nm2, up_ap, gd_set_ne, gd_set_same, List.length_set, Nat.add_sub_cancel, Nat.reduceEqDiff, Nat.reduceAdd, Nat.reduceMul, Nat.reduceSub, Nat.reduceLT, Nat.reduceLeDiff, reduceIte, Nat.not_lt_zero, not_true_eq_false, not_false_eq_true, and_true, true_and, and_false, false_and, hcc, nb, n4, n7, n8, hx, hy, pk_m1', e_swt1, List.getD_cons_succ, List.getD_cons_zero]
theorem wB_op2 {A : Bk} {b i k : Nat} (l5 : (A 5).length = 400) (l6 : (A 6).length = 400) (hk : k < 399) (hib : i < b) (hi4 : i < 400) (f : Int32 × Int32 → MM Int32) {x y : Int32} (hx : (A 6).getD k 0 = x) (hy : (A 6).getD (k + 1) 0 = y) (hcc : (A 5).getD i 0 = nI 10012) (hb : b < 2 ^ 31) : wB (nI b) f (nI (k + 1 + 1), nI i) A = f (nI (k + 1), nI (i + 1)) (up A 6 ((A 6).set k (x * y))) := by
  have nb : ¬ b ≤ i := by omega
  have n4 : ¬ 400 ≤ i := by omega
  have n7 : ¬ k + 1 + 1 ≤ 1 := by omega
  have n8 : ¬ k + 1 + 1 = 0 := by omega
  unfold wB
  simp (disch := first | omega | (simp only [up_ap, List.length_set, Nat.reduceEqDiff, reduceIte]; omega)) only [bd_pr, pr_ap, jn_eq, lt_eq, bd_bd, bd_ite, ite_ap, bd_ld, bd_sv, bd_la, bd_sa, bd_ln, bd_rz0, bd_rz1, rz_n0, rz_n1, e_lit2, nI_z, nI_eq0, nI_0eq, nI_le0, nI_lt0, nI_0lt, nI_0le, e_001, e_n10, e_n1lt, bd_la0, bd_sa0, bd_rz00, rz_0, rz_1, b2i_0, Int32.add_zero, Int32.zero_add, nI_add, nI_pred2, pk_sub, pk_mul, pk_div, e_nz, nI_eq, nI_leI, nI_ltI, e_nm1, e_nm2, up_ap, gd_set_ne, gd_set_same, List.length_set, Nat.add_sub_cancel, Nat.reduceEqDiff, Nat.reduceAdd, Nat.reduceMul, Nat.reduceSub, Nat.reduceLT, Nat.reduceLeDiff, reduceIte, Nat.not_lt_zero, not_true_eq_false, not_false_eq_true, and_true, true_and, and_false, false_and, hcc, nb, n4, n7, n8, hx, hy, pk_m1', e_swt1, List.getD_cons_succ, List.getD_cons_zero]
theorem wB_op3 {A : Bk} {b i k : Nat} (l5 : (A 5).length = 400) (l6 : (A 6).length = 400) (hk : k < 399) (hib : i < b) (hi4 : i < 400) (f : Int32 × Int32 → MM Int32) {x y : Int32} (hx : (A 6).getD k 0 = x) (hy : (A 6).getD (k + 1) 0 = y) (hy0 : ¬ y = 0) (hcc : (A 5).getD i 0 = nI 10013) (hb : b < 2 ^ 31) : wB (nI b) f (nI (k + 1 + 1), nI i) A = f (nI (k + 1), nI (i + 1)) (up A 6 ((A 6).set k (x / y))) := by
  have nb : ¬ b ≤ i := by omega
  have n4 : ¬ 400 ≤ i := by omega
  have n7 : ¬ k + 1 + 1 ≤ 1 := by omega
  have n8 : ¬ k + 1 + 1 = 0 := by omega
  unfold wB
  simp (disch := first | omega | (simp only [up_ap, List.length_set, Nat.reduceEqDiff, reduceIte]; omega)) only [bd_pr, pr_ap, jn_eq, lt_eq, bd_bd, bd_ite, ite_ap, bd_ld, bd_sv, bd_la, bd_sa, bd_ln, bd_rz0, bd_rz1, rz_n0, rz_n1, e_lit2, nI_z, nI_eq0, nI_0eq, nI_le0, nI_lt0, nI_0lt, nI_0le, e_001, e_n10, e_n1lt, bd_la0, bd_sa0, bd_rz00, rz_0, rz_1, b2i_0, Int32.add_zero, Int32.zero_add, nI_add, nI_pred2, pk_sub, pk_mul, pk_div, e_nz, nI_eq, nI_leI, nI_ltI, e_nm1, e_nm2, up_ap, gd_set_ne, gd_set_same, List.length_set, Nat.add_sub_cancel, Nat.reduceEqDiff, Nat.reduceAdd, Nat.reduceMul, Nat.reduceSub, Nat.reduceLT, Nat.reduceLeDiff, reduceIte, Nat.not_lt_zero, not_true_eq_false, not_false_eq_true, and_true, true_and, and_false, false_and, hcc, nb, n4, n7, n8, hx, hy, pk_m1', e_swt1, List.getD_cons_succ, List.getD_cons_zero, hy0, nz_fn hy0, not_false_eq_true]
theorem wB_op4 {A : Bk} {b i k : Nat} (l5 : (A 5).length = 400) (l6 : (A 6).length = 400) (hk : k < 399) (hib : i < b) (hi4 : i < 400) (f : Int32 × Int32 → MM Int32) {x y : Int32} (hx : (A 6).getD k 0 = x) (hy : (A 6).getD (k + 1) 0 = y) (hcc : (A 5).getD i 0 = nI 10014) (hb : b < 2 ^ 31) : wB (nI b) f (nI (k + 1 + 1), nI i) A = f (nI (k + 1), nI (i + 1)) (up A 6 ((A 6).set k (if y ≤ x then 0 else nI 1))) := by
  have nb : ¬ b ≤ i := by omega
  have n4 : ¬ 400 ≤ i := by omega
  have n7 : ¬ k + 1 + 1 ≤ 1 := by omega
  have n8 : ¬ k + 1 + 1 = 0 := by omega
  unfold wB
  by_cases hq : y ≤ x
  · rw [if_pos hq]
    simp (disch := first | omega | (simp only [up_ap, List.length_set, Nat.reduceEqDiff, reduceIte]; omega)) only [bd_pr, pr_ap, jn_eq, lt_eq, bd_bd, bd_ite, ite_ap, bd_ld, bd_sv, bd_la, bd_sa, bd_ln, bd_rz0, bd_rz1, rz_n0, rz_n1, e_lit2, nI_z, nI_eq0, nI_0eq, nI_le0, nI_lt0, nI_0lt, nI_0le, e_001, e_n10, e_n1lt, bd_la0, bd_sa0, bd_rz00, rz_0, rz_1, b2i_0, Int32.add_zero, Int32.zero_add, nI_add, nI_pred2, pk_sub, pk_mul, pk_div, e_nz, nI_eq, nI_leI, nI_ltI, e_nm1, e_nm2, up_ap, gd_set_ne, gd_set_same, List.length_set, Nat.add_sub_cancel, Nat.reduceEqDiff, Nat.reduceAdd, Nat.reduceMul, Nat.reduceSub, Nat.reduceLT, Nat.reduceLeDiff, reduceIte, Nat.not_lt_zero, not_true_eq_false, not_false_eq_true, and_true, true_and, and_false, false_and, hcc, nb, n4, n7, n8, hx, hy, pk_m1', e_swt1, List.getD_cons_succ, List.getD_cons_zero, hq]
  · rw [if_neg hq]
    simp (disch := first | omega | (simp only [up_ap, List.length_set, Nat.reduceEqDiff, reduceIte]; omega)) only [bd_pr, pr_ap, jn_eq, lt_eq, bd_bd, bd_ite, ite_ap, bd_ld, bd_sv, bd_la, bd_sa, bd_ln, bd_rz0, bd_rz1, rz_n0, rz_n1, e_lit2, nI_z, nI_eq0, nI_0eq, nI_le0, nI_lt0, nI_0lt, nI_0le, e_001, e_n10, e_n1lt, bd_la0, bd_sa0, bd_rz00, rz_0, rz_1, b2i_0, Int32.add_zero, Int32.zero_add, nI_add, nI_pred2, pk_sub, pk_mul, pk_div, e_nz, nI_eq, nI_leI, nI_ltI, e_nm1, e_nm2, up_ap, gd_set_ne, gd_set_same, List.length_set, Nat.add_sub_cancel, Nat.reduceEqDiff, Nat.reduceAdd, Nat.reduceMul, Nat.reduceSub, Nat.reduceLT, Nat.reduceLeDiff, reduceIte, Nat.not_lt_zero, not_true_eq_false, not_false_eq_true, and_true, true_and, and_false, false_and, hcc, nb, n4, n7, n8, hx, hy, pk_m1', e_swt1, List.getD_cons_succ, List.getD_cons_zero, hq]
theorem wB_op5 {A : Bk} {b i k : Nat} (l5 : (A 5).length = 400) (l6 : (A 6).length = 400) (hk : k < 399) (hib : i < b) (hi4 : i < 400) (f : Int32 × Int32 → MM Int32) {x y : Int32} (hx : (A 6).getD k 0 = x) (hy : (A 6).getD (k + 1) 0 = y) (hcc : (A 5).getD i 0 = nI 10015) (hb : b < 2 ^ 31) : wB (nI b) f (nI (k + 1 + 1), nI i) A = f (nI (k + 1), nI (i + 1)) (up A 6 ((A 6).set k (if x = y then nI 1 else 0))) := by
  have nb : ¬ b ≤ i := by omega
  have n4 : ¬ 400 ≤ i := by omega
  have n7 : ¬ k + 1 + 1 ≤ 1 := by omega
  have n8 : ¬ k + 1 + 1 = 0 := by omega
  unfold wB
  by_cases hq : x = y
  · rw [if_pos hq]
    simp (disch := first | omega | (simp only [up_ap, List.length_set, Nat.reduceEqDiff, reduceIte]; omega)) only [bd_pr, pr_ap, jn_eq, lt_eq, bd_bd, bd_ite, ite_ap, bd_ld, bd_sv, bd_la, bd_sa, bd_ln, bd_rz0, bd_rz1, rz_n0, rz_n1, e_lit2, nI_z, nI_eq0, nI_0eq, nI_le0, nI_lt0, nI_0lt, nI_0le, e_001, e_n10, e_n1lt, bd_la0, bd_sa0, bd_rz00, rz_0, rz_1, b2i_0, Int32.add_zero, Int32.zero_add, nI_add, nI_pred2, pk_sub, pk_mul, pk_div, e_nz, nI_eq, nI_leI, nI_ltI, e_nm1, e_nm2, up_ap, gd_set_ne, gd_set_same, List.length_set, Nat.add_sub_cancel, Nat.reduceEqDiff, Nat.reduceAdd, Nat.reduceMul, Nat.reduceSub, Nat.reduceLT, Nat.reduceLeDiff, reduceIte, Nat.not_lt_zero, not_true_eq_false, not_false_eq_true, and_true, true_and, and_false, false_and, hcc, nb, n4, n7, n8, hx, hy, pk_m1', e_swt1, List.getD_cons_succ, List.getD_cons_zero, hq]
  · rw [if_neg hq]
    simp (disch := first | omega | (simp only [up_ap, List.length_set, Nat.reduceEqDiff, reduceIte]; omega)) only [bd_pr, pr_ap, jn_eq, lt_eq, bd_bd, bd_ite, ite_ap, bd_ld, bd_sv, bd_la, bd_sa, bd_ln, bd_rz0, bd_rz1, rz_n0, rz_n1, e_lit2, nI_z, nI_eq0, nI_0eq, nI_le0, nI_lt0, nI_0lt, nI_0le, e_001, e_n10, e_n1lt, bd_la0, bd_sa0, bd_rz00, rz_0, rz_1, b2i_0, Int32.add_zero, Int32.zero_add, nI_add, nI_pred2, pk_sub, pk_mul, pk_div, e_nz, nI_eq, nI_leI, nI_ltI, e_nm1, e_nm2, up_ap, gd_set_ne, gd_set_same, List.length_set, Nat.add_sub_cancel, Nat.reduceEqDiff, Nat.reduceAdd, Nat.reduceMul, Nat.reduceSub, Nat.reduceLT, Nat.reduceLeDiff, reduceIte, Nat.not_lt_zero, not_true_eq_false, not_false_eq_true, and_true, true_and, and_false, false_and, hcc, nb, n4, n7, n8, hx, hy, pk_m1', e_swt1, List.getD_cons_succ, List.getD_cons_zero, hq]
theorem wB_op6 {A : Bk} {b i k : Nat} (l5 : (A 5).length = 400) (l6 : (A 6).length = 400) (hk : k < 399) (hib : i < b) (hi4 : i < 400) (f : Int32 × Int32 → MM Int32) {x y : Int32} (hx : (A 6).getD k 0 = x) (hy : (A 6).getD (k + 1) 0 = y) (hcc : (A 5).getD i 0 = nI 10016) (hb : b < 2 ^ 31) : wB (nI b) f (nI (k + 1 + 1), nI i) A = f (nI (k + 1), nI (i + 1)) (up A 6 ((A 6).set k (if x ≤ y then 0 else nI 1))) := by
  have nb : ¬ b ≤ i := by omega
  have n4 : ¬ 400 ≤ i := by omega
  have n7 : ¬ k + 1 + 1 ≤ 1 := by omega
  have n8 : ¬ k + 1 + 1 = 0 := by omega
  unfold wB
  by_cases hq : x ≤ y
  · rw [if_pos hq]
    simp (disch := first | omega | (simp only [up_ap, List.length_set, Nat.reduceEqDiff, reduceIte]; omega)) only [bd_pr, pr_ap, jn_eq, lt_eq, bd_bd, bd_ite, ite_ap, bd_ld, bd_sv, bd_la, bd_sa, bd_ln, bd_rz0, bd_rz1, rz_n0, rz_n1, e_lit2, nI_z, nI_eq0, nI_0eq, nI_le0, nI_lt0, nI_0lt, nI_0le, e_001, e_n10, e_n1lt, bd_la0, bd_sa0, bd_rz00, rz_0, rz_1, b2i_0, Int32.add_zero, Int32.zero_add, nI_add, nI_pred2, pk_sub, pk_mul, pk_div, e_nz, nI_eq, nI_leI, nI_ltI, e_nm1, e_nm2, up_ap, gd_set_ne, gd_set_same, List.length_set, Nat.add_sub_cancel, Nat.reduceEqDiff, Nat.reduceAdd, Nat.reduceMul, Nat.reduceSub, Nat.reduceLT, Nat.reduceLeDiff, reduceIte, Nat.not_lt_zero, not_true_eq_false, not_false_eq_true, and_true, true_and, and_false, false_and, hcc, nb, n4, n7, n8, hx, hy, pk_m1', e_swt1, List.getD_cons_succ, List.getD_cons_zero, hq]
  · rw [if_neg hq]
    simp (disch := first | omega | (simp only [up_ap, List.length_set, Nat.reduceEqDiff, reduceIte]; omega)) only [bd_pr, pr_ap, jn_eq, lt_eq, bd_bd, bd_ite, ite_ap, bd_ld, bd_sv, bd_la, bd_sa, bd_ln, bd_rz0, bd_rz1, rz_n0, rz_n1, e_lit2, nI_z, nI_eq0, nI_0eq, nI_le0, nI_lt0, nI_0lt, nI_0le, e_001, e_n10, e_n1lt, bd_la0, bd_sa0, bd_rz00, rz_0, rz_1, b2i_0, Int32.add_zero, Int32.zero_add, nI_add, nI_pred2, pk_sub, pk_mul, pk_div, e_nz, nI_eq, nI_leI, nI_ltI, e_nm1, e_nm2, up_ap, gd_set_ne, gd_set_same, List.length_set, Nat.add_sub_cancel, Nat.reduceEqDiff, Nat.reduceAdd, Nat.reduceMul, Nat.reduceSub, Nat.reduceLT, Nat.reduceLeDiff, reduceIte, Nat.not_lt_zero, not_true_eq_false, not_false_eq_true, and_true, true_and, and_false, false_and, hcc, nb, n4, n7, n8, hx, hy, pk_m1', e_swt1, List.getD_cons_succ, List.getD_cons_zero, hq]
theorem wB_op7 {A : Bk} {b i k : Nat} (l5 : (A 5).length = 400) (l6 : (A 6).length = 400) (hk : k < 399) (hib : i < b) (hi4 : i < 400) (f : Int32 × Int32 → MM Int32) {x y : Int32} (hx : (A 6).getD k 0 = x) (hy : (A 6).getD (k + 1) 0 = y) (hcc : (A 5).getD i 0 = nI 10017) (hb : b < 2 ^ 31) : wB (nI b) f (nI (k + 1 + 1), nI i) A = f (nI (k + 1), nI (i + 1)) (up A 6 ((A 6).set k (x &&& y))) := by
  have nb : ¬ b ≤ i := by omega
  have n4 : ¬ 400 ≤ i := by omega
  have n7 : ¬ k + 1 + 1 ≤ 1 := by omega
  have n8 : ¬ k + 1 + 1 = 0 := by omega
  unfold wB
  simp (disch := first | omega | (simp only [up_ap, List.length_set, Nat.reduceEqDiff, reduceIte]; omega)) only [bd_pr, pr_ap, jn_eq, lt_eq, bd_bd, bd_ite, ite_ap, bd_ld, bd_sv, bd_la, bd_sa, bd_ln, bd_rz0, bd_rz1, rz_n0, rz_n1, e_lit2, nI_z, nI_eq0, nI_0eq, nI_le0, nI_lt0, nI_0lt, nI_0le, e_001, e_n10, e_n1lt, bd_la0, bd_sa0, bd_rz00, rz_0, rz_1, b2i_0, Int32.add_zero, Int32.zero_add, nI_add, nI_pred2, pk_sub, pk_mul, pk_div, e_nz, nI_eq, nI_leI, nI_ltI, e_nm1, e_nm2, up_ap, gd_set_ne, gd_set_same, List.length_set, Nat.add_sub_cancel, Nat.reduceEqDiff, Nat.reduceAdd, Nat.reduceMul, Nat.reduceSub, Nat.reduceLT, Nat.reduceLeDiff, reduceIte, Nat.not_lt_zero, not_true_eq_false, not_false_eq_true, and_true, true_and, and_false, false_and, hcc, nb, n4, n7, n8, hx, hy, pk_m1', e_swt1, List.getD_cons_succ, List.getD_cons_zero]
theorem wB_op8 {A : Bk} {b i k : Nat} (l5 : (A 5).length = 400) (l6 : (A 6).length = 400) (hk : k < 399) (hib : i < b) (hi4 : i < 400) (f : Int32 × Int32 → MM Int32) {x y : Int32} (hx : (A 6).getD k 0 = x) (hy : (A 6).getD (k + 1) 0 = y) (hcc : (A 5).getD i 0 = nI 10018) (hb : b < 2 ^ 31) : wB (nI b) f (nI (k + 1 + 1), nI i) A = f (nI (k + 1), nI (i + 1)) (up A 6 ((A 6).set k (x ||| y))) := by
  have nb : ¬ b ≤ i := by omega
  have n4 : ¬ 400 ≤ i := by omega
  have n7 : ¬ k + 1 + 1 ≤ 1 := by omega
  have n8 : ¬ k + 1 + 1 = 0 := by omega
  unfold wB
  simp (disch := first | omega | (simp only [up_ap, List.length_set, Nat.reduceEqDiff, reduceIte]; omega)) only [bd_pr, pr_ap, jn_eq, lt_eq, bd_bd, bd_ite, ite_ap, bd_ld, bd_sv, bd_la, bd_sa, bd_ln, bd_rz0, bd_rz1, rz_n0, rz_n1, e_lit2, nI_z, nI_eq0, nI_0eq, nI_le0, nI_lt0, nI_0lt, nI_0le, e_001, e_n10, e_n1lt, bd_la0, bd_sa0, bd_rz00, rz_0, rz_1, b2i_0, Int32.add_zero, Int32.zero_add, nI_add, nI_pred2, pk_sub, pk_mul, pk_div, e_nz, nI_eq, nI_leI, nI_ltI, e_nm1, e_nm2, up_ap, gd_set_ne, gd_set_same, List.length_set, Nat.add_sub_cancel, Nat.reduceEqDiff, Nat.reduceAdd, Nat.reduceMul, Nat.reduceSub, Nat.reduceLT, Nat.reduceLeDiff, reduceIte, Nat.not_lt_zero, not_true_eq_false, not_false_eq_true, and_true, true_and, and_false, false_and, hcc, nb, n4, n7, n8, hx, hy, pk_m1', e_swt1, List.getD_cons_succ, List.getD_cons_zero]
theorem rB_num {A : Bk} {b i m n : Nat} (m14 : (A 14).length = 1200) (m15 : (A 15).length = 1200) (m20 : (A 20).length = 9) (m21 : (A 21).length = 420) (hib : i < b) (hi4 : i < 400) (f : Int32 × Int32 → MM Int32) (hm : m < 420) (hop : (A 14).getD i 0 = 0) (har : (A 15).getD i 0 = nI n) (hb : b < 2 ^ 31) : rB 0 (nI b) f (nI m, nI i) A = f (nI (m + 1), nI (i + 1)) (up A 21 ((A 21).set m (nI n))) := by
  have nb : ¬ b ≤ i := by omega
  unfold rB
  simp (disch := first | omega | (simp only [up_ap, List.length_set, Nat.reduceEqDiff, reduceIte]; omega)) only [bd_pr, pr_ap, jn_eq, lt_eq, bd_bd, bd_ite, ite_ap, bd_ld, bd_sv, bd_la, bd_sa, bd_ln, bd_rz0, bd_rz1, rz_n0, rz_n1, e_lit2, nI_z, nI_eq0, nI_0eq, nI_le0, nI_lt0, nI_0lt, nI_0le, e_001, e_n10, e_n1lt, bd_la0, bd_sa0, bd_rz00, rz_0, rz_1, b2i_0, Int32.add_zero, Int32.zero_add, nI_add, nI_pred2, pk_sub, pk_mul, pk_div, e_nz, nI_eq, nI_leI, nI_ltI, e_nm1, e_nm2, up_ap, gd_set_ne, gd_set_same, List.length_set, Nat.add_sub_cancel, Nat.reduceEqDiff, Nat.reduceAdd, Nat.reduceMul, Nat.reduceSub, Nat.reduceLT, Nat.reduceLeDiff, reduceIte, Nat.not_lt_zero, not_true_eq_false, not_false_eq_true, and_true, true_and, and_false, false_and, hop, har, nb, Int32.mul_zero]
theorem rB_q {A : Bk} {b i m q : Nat} (m14 : (A 14).length = 1200) (m15 : (A 15).length = 1200) (m20 : (A 20).length = 9) (m21 : (A 21).length = 420) (hib : i < b) (hi4 : i < 400) (f : Int32 × Int32 → MM Int32) (hm : m < 420) (hq : q < 9) (hop : (A 14).getD i 0 = nI 1) (har : (A 15).getD i 0 = nI q) (hb : b < 2 ^ 31) : rB 0 (nI b) f (nI m, nI i) A = f (nI (m + 1), nI (i + 1)) (up A 21 ((A 21).set m ((A 20).getD q 0))) := by
  have nb : ¬ b ≤ i := by omega
  unfold rB
  simp (disch := first | omega | (simp only [up_ap, List.length_set, Nat.reduceEqDiff, reduceIte]; omega)) only [bd_pr, pr_ap, jn_eq, lt_eq, bd_bd, bd_ite, ite_ap, bd_ld, bd_sv, bd_la, bd_sa, bd_ln, bd_rz0, bd_rz1, rz_n0, rz_n1, e_lit2, nI_z, nI_eq0, nI_0eq, nI_le0, nI_lt0, nI_0lt, nI_0le, e_001, e_n10, e_n1lt, bd_la0, bd_sa0, bd_rz00, rz_0, rz_1, b2i_0, Int32.add_zero, Int32.zero_add, nI_add, nI_pred2, pk_sub, pk_mul, pk_div, e_nz, nI_eq, nI_leI, nI_ltI, e_nm1, e_nm2, up_ap, gd_set_ne, gd_set_same, List.length_set, Nat.add_sub_cancel, Nat.reduceEqDiff, Nat.reduceAdd, Nat.reduceMul, Nat.reduceSub, Nat.reduceLT, Nat.reduceLeDiff, reduceIte, Nat.not_lt_zero, not_true_eq_false, not_false_eq_true, and_true, true_and, and_false, false_and, hop, har, nb, Int32.mul_zero, Nat_1_le_0]
theorem rB_not {A : Bk} {b i k : Nat} (m14 : (A 14).length = 1200) (m15 : (A 15).length = 1200) (m20 : (A 20).length = 9) (m21 : (A 21).length = 420) (hib : i < b) (hi4 : i < 400) (f : Int32 × Int32 → MM Int32) (hm : k < 420) (hop : (A 14).getD i 0 = nI 9) (hb : b < 2 ^ 31) : rB 0 (nI b) f (nI (k + 1), nI i) A = f (nI (k + 1), nI (i + 1)) (up A 21 ((A 21).set k (nI 1 - (A 21).getD k 0))) := by
  have nb : ¬ b ≤ i := by omega
  unfold rB
  simp (disch := first | omega | (simp only [up_ap, List.length_set, Nat.reduceEqDiff, reduceIte]; omega)) only [bd_pr, pr_ap, jn_eq, lt_eq, bd_bd, bd_ite, ite_ap, bd_ld, bd_sv, bd_la, bd_sa, bd_ln, bd_rz0, bd_rz1, rz_n0, rz_n1, e_lit2, nI_z, nI_eq0, nI_0eq, nI_le0, nI_lt0, nI_0lt, nI_0le, e_001, e_n10, e_n1lt, bd_la0, bd_sa0, bd_rz00, rz_0, rz_1, b2i_0, Int32.add_zero, Int32.zero_add, nI_add, nI_pred2, pk_sub, pk_mul, pk_div, e_nz, nI_eq, nI_leI, nI_ltI, e_nm1, e_nm2, up_ap, gd_set_ne, gd_set_same, List.length_set, Nat.add_sub_cancel, Nat.reduceEqDiff, Nat.reduceAdd, Nat.reduceMul, Nat.reduceSub, Nat.reduceLT, Nat.reduceLeDiff, reduceIte, Nat.not_lt_zero, not_true_eq_false, not_false_eq_true, and_true, true_and, and_false, false_and, hop, nb, Int32.mul_zero, Nat.reduceEqDiff]
theorem tw_0 {x y : Int32} (A : Bk) : gX11_twoOf (nI 2) x y A = some (x + y, A) := by
  unfold gX11_twoOf
  simp (disch := first | omega | (simp only [up_ap, List.length_set, Nat.reduceEqDiff, reduceIte]; omega)) only [bd_pr, pr_ap, jn_eq, lt_eq, bd_bd, bd_ite, ite_ap, bd_ld, bd_sv, bd_la, bd_sa, bd_ln, bd_rz0, bd_rz1, rz_n0, rz_n1, e_lit2, nI_z, nI_eq0, nI_0eq, nI_le0, nI_lt0, nI_0lt, nI_0le, e_001, e_n10, e_n1lt, bd_la0, bd_sa0, bd_rz00, rz_0, rz_1, b2i_0, Int32.add_zero, Int32.zero_add, nI_add, nI_pred2, pk_sub, pk_mul, pk_div, e_nz, nI_eq, nI_leI, nI_ltI, e_nm1, e_nm2, up_ap, gd_set_ne, gd_set_same, List.length_set, Nat.add_sub_cancel, Nat.reduceEqDiff, Nat.reduceAdd, Nat.reduceMul, Nat.reduceSub, Nat.reduceLT, Nat.reduceLeDiff, reduceIte, Nat.not_lt_zero, not_true_eq_false, not_false_eq_true, and_true, true_and, and_false, false_and, Nat_1_le_0]
theorem tw_1 {x y : Int32} (A : Bk) : gX11_twoOf (nI 3) x y A = some (x - y, A) := by
  unfold gX11_twoOf
  simp (disch := first | omega | (simp only [up_ap, List.length_set, Nat.reduceEqDiff, reduceIte]; omega)) only [bd_pr, pr_ap, jn_eq, lt_eq, bd_bd, bd_ite, ite_ap, bd_ld, bd_sv, bd_la, bd_sa, bd_ln, bd_rz0, bd_rz1, rz_n0, rz_n1, e_lit2, nI_z, nI_eq0, nI_0eq, nI_le0, nI_lt0, nI_0lt, nI_0le, e_001, e_n10, e_n1lt, bd_la0, bd_sa0, bd_rz00, rz_0, rz_1, b2i_0, Int32.add_zero, Int32.zero_add, nI_add, nI_pred2, pk_sub, pk_mul, pk_div, e_nz, nI_eq, nI_leI, nI_ltI, e_nm1, e_nm2, up_ap, gd_set_ne, gd_set_same, List.length_set, Nat.add_sub_cancel, Nat.reduceEqDiff, Nat.reduceAdd, Nat.reduceMul, Nat.reduceSub, Nat.reduceLT, Nat.reduceLeDiff, reduceIte, Nat.not_lt_zero, not_true_eq_false, not_false_eq_true, and_true, true_and, and_false, false_and, Nat_1_le_0]
theorem tw_2 {x y : Int32} (A : Bk) : gX11_twoOf (nI 4) x y A = some (x * y, A) := by
  unfold gX11_twoOf
  simp (disch := first | omega | (simp only [up_ap, List.length_set, Nat.reduceEqDiff, reduceIte]; omega)) only [bd_pr, pr_ap, jn_eq, lt_eq, bd_bd, bd_ite, ite_ap, bd_ld, bd_sv, bd_la, bd_sa, bd_ln, bd_rz0, bd_rz1, rz_n0, rz_n1, e_lit2, nI_z, nI_eq0, nI_0eq, nI_le0, nI_lt0, nI_0lt, nI_0le, e_001, e_n10, e_n1lt, bd_la0, bd_sa0, bd_rz00, rz_0, rz_1, b2i_0, Int32.add_zero, Int32.zero_add, nI_add, nI_pred2, pk_sub, pk_mul, pk_div, e_nz, nI_eq, nI_leI, nI_ltI, e_nm1, e_nm2, up_ap, gd_set_ne, gd_set_same, List.length_set, Nat.add_sub_cancel, Nat.reduceEqDiff, Nat.reduceAdd, Nat.reduceMul, Nat.reduceSub, Nat.reduceLT, Nat.reduceLeDiff, reduceIte, Nat.not_lt_zero, not_true_eq_false, not_false_eq_true, and_true, true_and, and_false, false_and, Nat_1_le_0]
theorem tw_3 {x y : Int32} (hy0 : ¬ y = 0) (A : Bk) : gX11_twoOf (nI 5) x y A = some (x / y, A) := by
  unfold gX11_twoOf
  simp (disch := first | omega | (simp only [up_ap, List.length_set, Nat.reduceEqDiff, reduceIte]; omega)) only [bd_pr, pr_ap, jn_eq, lt_eq, bd_bd, bd_ite, ite_ap, bd_ld, bd_sv, bd_la, bd_sa, bd_ln, bd_rz0, bd_rz1, rz_n0, rz_n1, e_lit2, nI_z, nI_eq0, nI_0eq, nI_le0, nI_lt0, nI_0lt, nI_0le, e_001, e_n10, e_n1lt, bd_la0, bd_sa0, bd_rz00, rz_0, rz_1, b2i_0, Int32.add_zero, Int32.zero_add, nI_add, nI_pred2, pk_sub, pk_mul, pk_div, e_nz, nI_eq, nI_leI, nI_ltI, e_nm1, e_nm2, up_ap, gd_set_ne, gd_set_same, List.length_set, Nat.add_sub_cancel, Nat.reduceEqDiff, Nat.reduceAdd, Nat.reduceMul, Nat.reduceSub, Nat.reduceLT, Nat.reduceLeDiff, reduceIte, Nat.not_lt_zero, not_true_eq_false, not_false_eq_true, and_true, true_and, and_false, false_and, Nat_1_le_0, hy0, nz_fn hy0, not_false_eq_true]
theorem tw_4 {x y : Int32} (A : Bk) : gX11_twoOf (nI 6) x y A = some (if y ≤ x then 0 else nI 1, A) := by
  unfold gX11_twoOf
  by_cases hq : y ≤ x
  · rw [if_pos hq]
    simp (disch := first | omega | (simp only [up_ap, List.length_set, Nat.reduceEqDiff, reduceIte]; omega)) only [bd_pr, pr_ap, jn_eq, lt_eq, bd_bd, bd_ite, ite_ap, bd_ld, bd_sv, bd_la, bd_sa, bd_ln, bd_rz0, bd_rz1, rz_n0, rz_n1, e_lit2, nI_z, nI_eq0, nI_0eq, nI_le0, nI_lt0, nI_0lt, nI_0le, e_001, e_n10, e_n1lt, bd_la0, bd_sa0, bd_rz00, rz_0, rz_1, b2i_0, Int32.add_zero, Int32.zero_add, nI_add, nI_pred2, pk_sub, pk_mul, pk_div, e_nz, nI_eq, nI_leI, nI_ltI, e_nm1, e_nm2, up_ap, gd_set_ne, gd_set_same, List.length_set, Nat.add_sub_cancel, Nat.reduceEqDiff, Nat.reduceAdd, Nat.reduceMul, Nat.reduceSub, Nat.reduceLT, Nat.reduceLeDiff, reduceIte, Nat.not_lt_zero, not_true_eq_false, not_false_eq_true, and_true, true_and, and_false, false_and, Nat_1_le_0, hq]
  · rw [if_neg hq]
    simp (disch := first | omega | (simp only [up_ap, List.length_set, Nat.reduceEqDiff, reduceIte]; omega)) only [bd_pr, pr_ap, jn_eq, lt_eq, bd_bd, bd_ite, ite_ap, bd_ld, bd_sv, bd_la, bd_sa, bd_ln, bd_rz0, bd_rz1, rz_n0, rz_n1, e_lit2, nI_z, nI_eq0, nI_0eq, nI_le0, nI_lt0, nI_0lt, nI_0le, e_001, e_n10, e_n1lt, bd_la0, bd_sa0, bd_rz00, rz_0, rz_1, b2i_0, Int32.add_zero, Int32.zero_add, nI_add, nI_pred2, pk_sub, pk_mul, pk_div, e_nz, nI_eq, nI_leI, nI_ltI, e_nm1, e_nm2, up_ap, gd_set_ne, gd_set_same, List.length_set, Nat.add_sub_cancel, Nat.reduceEqDiff, Nat.reduceAdd, Nat.reduceMul, Nat.reduceSub, Nat.reduceLT, Nat.reduceLeDiff, reduceIte, Nat.not_lt_zero, not_true_eq_false, not_false_eq_true, and_true, true_and, and_false, false_and, Nat_1_le_0, hq]
theorem tw_5 {x y : Int32} (A : Bk) : gX11_twoOf (nI 7) x y A = some (if x = y then nI 1 else 0, A) := by
  unfold gX11_twoOf
  by_cases hq : x = y
  · rw [if_pos hq]
    simp (disch := first | omega | (simp only [up_ap, List.length_set, Nat.reduceEqDiff, reduceIte]; omega)) only [bd_pr, pr_ap, jn_eq, lt_eq, bd_bd, bd_ite, ite_ap, bd_ld, bd_sv, bd_la, bd_sa, bd_ln, bd_rz0, bd_rz1, rz_n0, rz_n1, e_lit2, nI_z, nI_eq0, nI_0eq, nI_le0, nI_lt0, nI_0lt, nI_0le, e_001, e_n10, e_n1lt, bd_la0, bd_sa0, bd_rz00, rz_0, rz_1, b2i_0, Int32.add_zero, Int32.zero_add, nI_add, nI_pred2, pk_sub, pk_mul, pk_div, e_nz, nI_eq, nI_leI, nI_ltI, e_nm1, e_nm2, up_ap, gd_set_ne, gd_set_same, List.length_set, Nat.add_sub_cancel, Nat.reduceEqDiff, Nat.reduceAdd, Nat.reduceMul, Nat.reduceSub, Nat.reduceLT, Nat.reduceLeDiff, reduceIte, Nat.not_lt_zero, not_true_eq_false, not_false_eq_true, and_true, true_and, and_false, false_and, Nat_1_le_0, hq]
  · rw [if_neg hq]
    simp (disch := first | omega | (simp only [up_ap, List.length_set, Nat.reduceEqDiff, reduceIte]; omega)) only [bd_pr, pr_ap, jn_eq, lt_eq, bd_bd, bd_ite, ite_ap, bd_ld, bd_sv, bd_la, bd_sa, bd_ln, bd_rz0, bd_rz1, rz_n0, rz_n1, e_lit2, nI_z, nI_eq0, nI_0eq, nI_le0, nI_lt0, nI_0lt, nI_0le, e_001, e_n10, e_n1lt, bd_la0, bd_sa0, bd_rz00, rz_0, rz_1, b2i_0, Int32.add_zero, Int32.zero_add, nI_add, nI_pred2, pk_sub, pk_mul, pk_div, e_nz, nI_eq, nI_leI, nI_ltI, e_nm1, e_nm2, up_ap, gd_set_ne, gd_set_same, List.length_set, Nat.add_sub_cancel, Nat.reduceEqDiff, Nat.reduceAdd, Nat.reduceMul, Nat.reduceSub, Nat.reduceLT, Nat.reduceLeDiff, reduceIte, Nat.not_lt_zero, not_true_eq_false, not_false_eq_true, and_true, true_and, and_false, false_and, Nat_1_le_0, hq]
theorem tw_6 {x y : Int32} (A : Bk) : gX11_twoOf (nI 8) x y A = some (if x ≤ y then 0 else nI 1, A) := by
  unfold gX11_twoOf
  by_cases hq : x ≤ y
  · rw [if_pos hq]
    simp (disch := first | omega | (simp only [up_ap, List.length_set, Nat.reduceEqDiff, reduceIte]; omega)) only [bd_pr, pr_ap, jn_eq, lt_eq, bd_bd, bd_ite, ite_ap, bd_ld, bd_sv, bd_la, bd_sa, bd_ln, bd_rz0, bd_rz1, rz_n0, rz_n1, e_lit2, nI_z, nI_eq0, nI_0eq, nI_le0, nI_lt0, nI_0lt, nI_0le, e_001, e_n10, e_n1lt, bd_la0, bd_sa0, bd_rz00, rz_0, rz_1, b2i_0, Int32.add_zero, Int32.zero_add, nI_add, nI_pred2, pk_sub, pk_mul, pk_div, e_nz, nI_eq, nI_leI, nI_ltI, e_nm1, e_nm2, up_ap, gd_set_ne, gd_set_same, List.length_set, Nat.add_sub_cancel, Nat.reduceEqDiff, Nat.reduceAdd, Nat.reduceMul, Nat.reduceSub, Nat.reduceLT, Nat.reduceLeDiff, reduceIte, Nat.not_lt_zero, not_true_eq_false, not_false_eq_true, and_true, true_and, and_false, false_and, Nat_1_le_0, hq]
  · rw [if_neg hq]
    simp (disch := first | omega | (simp only [up_ap, List.length_set, Nat.reduceEqDiff, reduceIte]; omega)) only [bd_pr, pr_ap, jn_eq, lt_eq, bd_bd, bd_ite, ite_ap, bd_ld, bd_sv, bd_la, bd_sa, bd_ln, bd_rz0, bd_rz1, rz_n0, rz_n1, e_lit2, nI_z, nI_eq0, nI_0eq, nI_le0, nI_lt0, nI_0lt, nI_0le, e_001, e_n10, e_n1lt, bd_la0, bd_sa0, bd_rz00, rz_0, rz_1, b2i_0, Int32.add_zero, Int32.zero_add, nI_add, nI_pred2, pk_sub, pk_mul, pk_div, e_nz, nI_eq, nI_leI, nI_ltI, e_nm1, e_nm2, up_ap, gd_set_ne, gd_set_same, List.length_set, Nat.add_sub_cancel, Nat.reduceEqDiff, Nat.reduceAdd, Nat.reduceMul, Nat.reduceSub, Nat.reduceLT, Nat.reduceLeDiff, reduceIte, Nat.not_lt_zero, not_true_eq_false, not_false_eq_true, and_true, true_and, and_false, false_and, Nat_1_le_0, hq]
theorem tw_7 {x y : Int32} (hx1 : x = 0 ∨ x = nI 1) (hy1 : y = 0 ∨ y = nI 1) (A : Bk) : gX11_twoOf (nI 10) x y A = some (x &&& y, A) := by
  unfold gX11_twoOf
  rcases hx1 with rfl | rfl <;> rcases hy1 with rfl | rfl
  · have ev : (0 : Int32) &&& 0 = 0 := by decide
    have ez : (0 : Int32) * 0 = nI 0 := by decide
    have ew : (0 : Int32) + 0 = nI 0 := by decide
    have np : ¬ (1 : Nat) ≤ 0 := by decide
    have np2 : ¬ (2 : Nat) ≤ 0 := by decide
    have np3 : (0 : Int32) ≤ 0 := by decide
    simp (disch := first | omega | (simp only [up_ap, List.length_set, Nat.reduceEqDiff, reduceIte]; omega)) only [bd_pr, pr_ap, jn_eq, lt_eq, bd_bd, bd_ite, ite_ap, bd_ld, bd_sv, bd_la, bd_sa, bd_ln, bd_rz0, bd_rz1, rz_n0, rz_n1, e_lit2, nI_z, nI_eq0, nI_0eq, nI_le0, nI_lt0, nI_0lt, nI_0le, e_001, e_n10, e_n1lt, bd_la0, bd_sa0, bd_rz00, rz_0, rz_1, b2i_0, Int32.add_zero, Int32.zero_add, nI_add, nI_pred2, pk_sub, pk_mul, pk_div, e_nz, nI_eq, nI_leI, nI_ltI, e_nm1, e_nm2, up_ap, gd_set_ne, gd_set_same, List.length_set, Nat.add_sub_cancel, Nat.reduceEqDiff, Nat.reduceAdd, Nat.reduceMul, Nat.reduceSub, Nat.reduceLT, Nat.reduceLeDiff, reduceIte, Nat.not_lt_zero, not_true_eq_false, not_false_eq_true, and_true, true_and, and_false, false_and, Nat_1_le_0, ev, ez, ew, np, np2, np3]
  · have ev : (0 : Int32) &&& nI 1 = 0 := by decide
    have ez : (0 : Int32) * nI 1 = nI 0 := by decide
    have ew : (0 : Int32) + nI 1 = nI 1 := by decide
    have np : ¬ (1 : Nat) ≤ 0 := by decide
    have np2 : ¬ (2 : Nat) ≤ 0 := by decide
    have np3 : (0 : Int32) ≤ 0 := by decide
    simp (disch := first | omega | (simp only [up_ap, List.length_set, Nat.reduceEqDiff, reduceIte]; omega)) only [bd_pr, pr_ap, jn_eq, lt_eq, bd_bd, bd_ite, ite_ap, bd_ld, bd_sv, bd_la, bd_sa, bd_ln, bd_rz0, bd_rz1, rz_n0, rz_n1, e_lit2, nI_z, nI_eq0, nI_0eq, nI_le0, nI_lt0, nI_0lt, nI_0le, e_001, e_n10, e_n1lt, bd_la0, bd_sa0, bd_rz00, rz_0, rz_1, b2i_0, Int32.add_zero, Int32.zero_add, nI_add, nI_pred2, pk_sub, pk_mul, pk_div, e_nz, nI_eq, nI_leI, nI_ltI, e_nm1, e_nm2, up_ap, gd_set_ne, gd_set_same, List.length_set, Nat.add_sub_cancel, Nat.reduceEqDiff, Nat.reduceAdd, Nat.reduceMul, Nat.reduceSub, Nat.reduceLT, Nat.reduceLeDiff, reduceIte, Nat.not_lt_zero, not_true_eq_false, not_false_eq_true, and_true, true_and, and_false, false_and, Nat_1_le_0, ev, ez, ew, np, np2, np3]
  · have ev : (nI 1 : Int32) &&& 0 = 0 := by decide
    have ez : (nI 1 : Int32) * 0 = nI 0 := by decide
    have ew : (nI 1 : Int32) + 0 = nI 1 := by decide
    have np : ¬ (1 : Nat) ≤ 0 := by decide
    have np2 : ¬ (2 : Nat) ≤ 0 := by decide
    have np3 : (0 : Int32) ≤ 0 := by decide
    simp (disch := first | omega | (simp only [up_ap, List.length_set, Nat.reduceEqDiff, reduceIte]; omega)) only [bd_pr, pr_ap, jn_eq, lt_eq, bd_bd, bd_ite, ite_ap, bd_ld, bd_sv, bd_la, bd_sa, bd_ln, bd_rz0, bd_rz1, rz_n0, rz_n1, e_lit2, nI_z, nI_eq0, nI_0eq, nI_le0, nI_lt0, nI_0lt, nI_0le, e_001, e_n10, e_n1lt, bd_la0, bd_sa0, bd_rz00, rz_0, rz_1, b2i_0, Int32.add_zero, Int32.zero_add, nI_add, nI_pred2, pk_sub, pk_mul, pk_div, e_nz, nI_eq, nI_leI, nI_ltI, e_nm1, e_nm2, up_ap, gd_set_ne, gd_set_same, List.length_set, Nat.add_sub_cancel, Nat.reduceEqDiff, Nat.reduceAdd, Nat.reduceMul, Nat.reduceSub, Nat.reduceLT, Nat.reduceLeDiff, reduceIte, Nat.not_lt_zero, not_true_eq_false, not_false_eq_true, and_true, true_and, and_false, false_and, Nat_1_le_0, ev, ez, ew, np, np2, np3]
  · have ev : (nI 1 : Int32) &&& nI 1 = nI 1 := by decide
    have ez : (nI 1 : Int32) * nI 1 = nI 1 := by decide
    have ew : (nI 1 : Int32) + nI 1 = nI 2 := by decide
    have np : ¬ (1 : Nat) ≤ 0 := by decide
    have np2 : ¬ (2 : Nat) ≤ 0 := by decide
    have np3 : (0 : Int32) ≤ 0 := by decide
    simp (disch := first | omega | (simp only [up_ap, List.length_set, Nat.reduceEqDiff, reduceIte]; omega)) only [bd_pr, pr_ap, jn_eq, lt_eq, bd_bd, bd_ite, ite_ap, bd_ld, bd_sv, bd_la, bd_sa, bd_ln, bd_rz0, bd_rz1, rz_n0, rz_n1, e_lit2, nI_z, nI_eq0, nI_0eq, nI_le0, nI_lt0, nI_0lt, nI_0le, e_001, e_n10, e_n1lt, bd_la0, bd_sa0, bd_rz00, rz_0, rz_1, b2i_0, Int32.add_zero, Int32.zero_add, nI_add, nI_pred2, pk_sub, pk_mul, pk_div, e_nz, nI_eq, nI_leI, nI_ltI, e_nm1, e_nm2, up_ap, gd_set_ne, gd_set_same, List.length_set, Nat.add_sub_cancel, Nat.reduceEqDiff, Nat.reduceAdd, Nat.reduceMul, Nat.reduceSub, Nat.reduceLT, Nat.reduceLeDiff, reduceIte, Nat.not_lt_zero, not_true_eq_false, not_false_eq_true, and_true, true_and, and_false, false_and, Nat_1_le_0, ev, ez, ew, np, np2, np3]
theorem tw_8 {x y : Int32} (hx1 : x = 0 ∨ x = nI 1) (hy1 : y = 0 ∨ y = nI 1) (A : Bk) : gX11_twoOf (nI 11) x y A = some (x ||| y, A) := by
  unfold gX11_twoOf
  rcases hx1 with rfl | rfl <;> rcases hy1 with rfl | rfl
  · have ev : (0 : Int32) ||| 0 = 0 := by decide
    have ez : (0 : Int32) * 0 = nI 0 := by decide
    have ew : (0 : Int32) + 0 = nI 0 := by decide
    have np : ¬ (1 : Nat) ≤ 0 := by decide
    have np2 : ¬ (2 : Nat) ≤ 0 := by decide
    have np3 : (0 : Int32) ≤ 0 := by decide
    simp (disch := first | omega | (simp only [up_ap, List.length_set, Nat.reduceEqDiff, reduceIte]; omega)) only [bd_pr, pr_ap, jn_eq, lt_eq, bd_bd, bd_ite, ite_ap, bd_ld, bd_sv, bd_la, bd_sa, bd_ln, bd_rz0, bd_rz1, rz_n0, rz_n1, e_lit2, nI_z, nI_eq0, nI_0eq, nI_le0, nI_lt0, nI_0lt, nI_0le, e_001, e_n10, e_n1lt, bd_la0, bd_sa0, bd_rz00, rz_0, rz_1, b2i_0, Int32.add_zero, Int32.zero_add, nI_add, nI_pred2, pk_sub, pk_mul, pk_div, e_nz, nI_eq, nI_leI, nI_ltI, e_nm1, e_nm2, up_ap, gd_set_ne, gd_set_same, List.length_set, Nat.add_sub_cancel, Nat.reduceEqDiff, Nat.reduceAdd, Nat.reduceMul, Nat.reduceSub, Nat.reduceLT, Nat.reduceLeDiff, reduceIte, Nat.not_lt_zero, not_true_eq_false, not_false_eq_true, and_true, true_and, and_false, false_and, Nat_1_le_0, ev, ez, ew, np, np2, np3]
  · have ev : (0 : Int32) ||| nI 1 = nI 1 := by decide
    have ez : (0 : Int32) * nI 1 = nI 0 := by decide
    have ew : (0 : Int32) + nI 1 = nI 1 := by decide
    have np : ¬ (1 : Nat) ≤ 0 := by decide
    have np2 : ¬ (2 : Nat) ≤ 0 := by decide
    have np3 : (0 : Int32) ≤ 0 := by decide
    simp (disch := first | omega | (simp only [up_ap, List.length_set, Nat.reduceEqDiff, reduceIte]; omega)) only [bd_pr, pr_ap, jn_eq, lt_eq, bd_bd, bd_ite, ite_ap, bd_ld, bd_sv, bd_la, bd_sa, bd_ln, bd_rz0, bd_rz1, rz_n0, rz_n1, e_lit2, nI_z, nI_eq0, nI_0eq, nI_le0, nI_lt0, nI_0lt, nI_0le, e_001, e_n10, e_n1lt, bd_la0, bd_sa0, bd_rz00, rz_0, rz_1, b2i_0, Int32.add_zero, Int32.zero_add, nI_add, nI_pred2, pk_sub, pk_mul, pk_div, e_nz, nI_eq, nI_leI, nI_ltI, e_nm1, e_nm2, up_ap, gd_set_ne, gd_set_same, List.length_set, Nat.add_sub_cancel, Nat.reduceEqDiff, Nat.reduceAdd, Nat.reduceMul, Nat.reduceSub, Nat.reduceLT, Nat.reduceLeDiff, reduceIte, Nat.not_lt_zero, not_true_eq_false, not_false_eq_true, and_true, true_and, and_false, false_and, Nat_1_le_0, ev, ez, ew, np, np2, np3]
  · have ev : (nI 1 : Int32) ||| 0 = nI 1 := by decide
    have ez : (nI 1 : Int32) * 0 = nI 0 := by decide
    have ew : (nI 1 : Int32) + 0 = nI 1 := by decide
    have np : ¬ (1 : Nat) ≤ 0 := by decide
    have np2 : ¬ (2 : Nat) ≤ 0 := by decide
    have np3 : (0 : Int32) ≤ 0 := by decide
    simp (disch := first | omega | (simp only [up_ap, List.length_set, Nat.reduceEqDiff, reduceIte]; omega)) only [bd_pr, pr_ap, jn_eq, lt_eq, bd_bd, bd_ite, ite_ap, bd_ld, bd_sv, bd_la, bd_sa, bd_ln, bd_rz0, bd_rz1, rz_n0, rz_n1, e_lit2, nI_z, nI_eq0, nI_0eq, nI_le0, nI_lt0, nI_0lt, nI_0le, e_001, e_n10, e_n1lt, bd_la0, bd_sa0, bd_rz00, rz_0, rz_1, b2i_0, Int32.add_zero, Int32.zero_add, nI_add, nI_pred2, pk_sub, pk_mul, pk_div, e_nz, nI_eq, nI_leI, nI_ltI, e_nm1, e_nm2, up_ap, gd_set_ne, gd_set_same, List.length_set, Nat.add_sub_cancel, Nat.reduceEqDiff, Nat.reduceAdd, Nat.reduceMul, Nat.reduceSub, Nat.reduceLT, Nat.reduceLeDiff, reduceIte, Nat.not_lt_zero, not_true_eq_false, not_false_eq_true, and_true, true_and, and_false, false_and, Nat_1_le_0, ev, ez, ew, np, np2, np3]
  · have ev : (nI 1 : Int32) ||| nI 1 = nI 1 := by decide
    have ez : (nI 1 : Int32) * nI 1 = nI 1 := by decide
    have ew : (nI 1 : Int32) + nI 1 = nI 2 := by decide
    have np : ¬ (1 : Nat) ≤ 0 := by decide
    have np2 : ¬ (2 : Nat) ≤ 0 := by decide
    have np3 : (0 : Int32) ≤ 0 := by decide
    simp (disch := first | omega | (simp only [up_ap, List.length_set, Nat.reduceEqDiff, reduceIte]; omega)) only [bd_pr, pr_ap, jn_eq, lt_eq, bd_bd, bd_ite, ite_ap, bd_ld, bd_sv, bd_la, bd_sa, bd_ln, bd_rz0, bd_rz1, rz_n0, rz_n1, e_lit2, nI_z, nI_eq0, nI_0eq, nI_le0, nI_lt0, nI_0lt, nI_0le, e_001, e_n10, e_n1lt, bd_la0, bd_sa0, bd_rz00, rz_0, rz_1, b2i_0, Int32.add_zero, Int32.zero_add, nI_add, nI_pred2, pk_sub, pk_mul, pk_div, e_nz, nI_eq, nI_leI, nI_ltI, e_nm1, e_nm2, up_ap, gd_set_ne, gd_set_same, List.length_set, Nat.add_sub_cancel, Nat.reduceEqDiff, Nat.reduceAdd, Nat.reduceMul, Nat.reduceSub, Nat.reduceLT, Nat.reduceLeDiff, reduceIte, Nat.not_lt_zero, not_true_eq_false, not_false_eq_true, and_true, true_and, and_false, false_and, Nat_1_le_0, ev, ez, ew, np, np2, np3]
theorem rB_op0 {A : Bk} {b i k : Nat} (m14 : (A 14).length = 1200) (m15 : (A 15).length = 1200) (m20 : (A 20).length = 9) (m21 : (A 21).length = 420) (hib : i < b) (hi4 : i < 400) (f : Int32 × Int32 → MM Int32) (hk : k < 419) {x y : Int32} (hx : (A 21).getD k 0 = x) (hy : (A 21).getD (k + 1) 0 = y) (hop : (A 14).getD i 0 = nI 2) (hb : b < 2 ^ 31) : rB 0 (nI b) f (nI (k + 1 + 1), nI i) A = f (nI (k + 1), nI (i + 1)) (up A 21 ((A 21).set k (x + y))) := by
  have nb : ¬ b ≤ i := by omega
  unfold rB
  simp (disch := first | omega | (simp only [up_ap, List.length_set, Nat.reduceEqDiff, reduceIte]; omega)) only [bd_pr, pr_ap, jn_eq, lt_eq, bd_bd, bd_ite, ite_ap, bd_ld, bd_sv, bd_la, bd_sa, bd_ln, bd_rz0, bd_rz1, rz_n0, rz_n1, e_lit2, nI_z, nI_eq0, nI_0eq, nI_le0, nI_lt0, nI_0lt, nI_0le, e_001, e_n10, e_n1lt, bd_la0, bd_sa0, bd_rz00, rz_0, rz_1, b2i_0, Int32.add_zero, Int32.zero_add, nI_add, nI_pred2, pk_sub, pk_mul, pk_div, e_nz, nI_eq, nI_leI, nI_ltI, e_nm1, e_nm2, up_ap, gd_set_ne, gd_set_same, List.length_set, Nat.add_sub_cancel, Nat.reduceEqDiff, Nat.reduceAdd, Nat.reduceMul, Nat.reduceSub, Nat.reduceLT, Nat.reduceLeDiff, reduceIte, Nat.not_lt_zero, not_true_eq_false, not_false_eq_true, and_true, true_and, and_false, false_and, hop, nb, hx, hy, Int32.mul_zero, bd_some (tw_0 _)]
theorem rB_op1 {A : Bk} {b i k : Nat} (m14 : (A 14).length = 1200) (m15 : (A 15).length = 1200) (m20 : (A 20).length = 9) (m21 : (A 21).length = 420) (hib : i < b) (hi4 : i < 400) (f : Int32 × Int32 → MM Int32) (hk : k < 419) {x y : Int32} (hx : (A 21).getD k 0 = x) (hy : (A 21).getD (k + 1) 0 = y) (hop : (A 14).getD i 0 = nI 3) (hb : b < 2 ^ 31) : rB 0 (nI b) f (nI (k + 1 + 1), nI i) A = f (nI (k + 1), nI (i + 1)) (up A 21 ((A 21).set k (x - y))) := by
  have nb : ¬ b ≤ i := by omega
  unfold rB
  simp (disch := first | omega | (simp only [up_ap, List.length_set, Nat.reduceEqDiff, reduceIte]; omega)) only [bd_pr, pr_ap, jn_eq, lt_eq, bd_bd, bd_ite, ite_ap, bd_ld, bd_sv, bd_la, bd_sa, bd_ln, bd_rz0, bd_rz1, rz_n0, rz_n1, e_lit2, nI_z, nI_eq0, nI_0eq, nI_le0, nI_lt0, nI_0lt, nI_0le, e_001, e_n10, e_n1lt, bd_la0, bd_sa0, bd_rz00, rz_0, rz_1, b2i_0, Int32.add_zero, Int32.zero_add, nI_add, nI_pred2, pk_sub, pk_mul, pk_div, e_nz, nI_eq, nI_leI, nI_ltI, e_nm1, e_nm2, up_ap, gd_set_ne, gd_set_same, List.length_set, Nat.add_sub_cancel, Nat.reduceEqDiff, Nat.reduceAdd, Nat.reduceMul, Nat.reduceSub, Nat.reduceLT, Nat.reduceLeDiff, reduceIte, Nat.not_lt_zero, not_true_eq_false, not_false_eq_true, and_true, true_and, and_false, false_and, hop, nb, hx, hy, Int32.mul_zero, bd_some (tw_1 _)]
theorem rB_op2 {A : Bk} {b i k : Nat} (m14 : (A 14).length = 1200) (m15 : (A 15).length = 1200) (m20 : (A 20).length = 9) (m21 : (A 21).length = 420) (hib : i < b) (hi4 : i < 400) (f : Int32 × Int32 → MM Int32) (hk : k < 419) {x y : Int32} (hx : (A 21).getD k 0 = x) (hy : (A 21).getD (k + 1) 0 = y) (hop : (A 14).getD i 0 = nI 4) (hb : b < 2 ^ 31) : rB 0 (nI b) f (nI (k + 1 + 1), nI i) A = f (nI (k + 1), nI (i + 1)) (up A 21 ((A 21).set k (x * y))) := by
  have nb : ¬ b ≤ i := by omega
  unfold rB
  simp (disch := first | omega | (simp only [up_ap, List.length_set, Nat.reduceEqDiff, reduceIte]; omega)) only [bd_pr, pr_ap, jn_eq, lt_eq, bd_bd, bd_ite, ite_ap, bd_ld, bd_sv, bd_la, bd_sa, bd_ln, bd_rz0, bd_rz1, rz_n0, rz_n1, e_lit2, nI_z, nI_eq0, nI_0eq, nI_le0, nI_lt0, nI_0lt, nI_0le, e_001, e_n10, e_n1lt, bd_la0, bd_sa0, bd_rz00, rz_0, rz_1, b2i_0, Int32.add_zero, Int32.zero_add, nI_add, nI_pred2, pk_sub, pk_mul, pk_div, e_nz, nI_eq, nI_leI, nI_ltI, e_nm1, e_nm2, up_ap, gd_set_ne, gd_set_same, List.length_set, Nat.add_sub_cancel, Nat.reduceEqDiff, Nat.reduceAdd, Nat.reduceMul, Nat.reduceSub, Nat.reduceLT, Nat.reduceLeDiff, reduceIte, Nat.not_lt_zero, not_true_eq_false, not_false_eq_true, and_true, true_and, and_false, false_and, hop, nb, hx, hy, Int32.mul_zero, bd_some (tw_2 _)]
theorem rB_op3 {A : Bk} {b i k : Nat} (m14 : (A 14).length = 1200) (m15 : (A 15).length = 1200) (m20 : (A 20).length = 9) (m21 : (A 21).length = 420) (hib : i < b) (hi4 : i < 400) (f : Int32 × Int32 → MM Int32) (hk : k < 419) {x y : Int32} (hx : (A 21).getD k 0 = x) (hy : (A 21).getD (k + 1) 0 = y) (hy0 : ¬ y = 0) (hop : (A 14).getD i 0 = nI 5) (hb : b < 2 ^ 31) : rB 0 (nI b) f (nI (k + 1 + 1), nI i) A = f (nI (k + 1), nI (i + 1)) (up A 21 ((A 21).set k (x / y))) := by
  have nb : ¬ b ≤ i := by omega
  unfold rB
  simp (disch := first | omega | (simp only [up_ap, List.length_set, Nat.reduceEqDiff, reduceIte]; omega)) only [bd_pr, pr_ap, jn_eq, lt_eq, bd_bd, bd_ite, ite_ap, bd_ld, bd_sv, bd_la, bd_sa, bd_ln, bd_rz0, bd_rz1, rz_n0, rz_n1, e_lit2, nI_z, nI_eq0, nI_0eq, nI_le0, nI_lt0, nI_0lt, nI_0le, e_001, e_n10, e_n1lt, bd_la0, bd_sa0, bd_rz00, rz_0, rz_1, b2i_0, Int32.add_zero, Int32.zero_add, nI_add, nI_pred2, pk_sub, pk_mul, pk_div, e_nz, nI_eq, nI_leI, nI_ltI, e_nm1, e_nm2, up_ap, gd_set_ne, gd_set_same, List.length_set, Nat.add_sub_cancel, Nat.reduceEqDiff, Nat.reduceAdd, Nat.reduceMul, Nat.reduceSub, Nat.reduceLT, Nat.reduceLeDiff, reduceIte, Nat.not_lt_zero, not_true_eq_false, not_false_eq_true, and_true, true_and, and_false, false_and, hop, nb, hx, hy, Int32.mul_zero, bd_some (tw_3 hy0 _)]
theorem rB_op4 {A : Bk} {b i k : Nat} (m14 : (A 14).length = 1200) (m15 : (A 15).length = 1200) (m20 : (A 20).length = 9) (m21 : (A 21).length = 420) (hib : i < b) (hi4 : i < 400) (f : Int32 × Int32 → MM Int32) (hk : k < 419) {x y : Int32} (hx : (A 21).getD k 0 = x) (hy : (A 21).getD (k + 1) 0 = y) (hop : (A 14).getD i 0 = nI 6) (hb : b < 2 ^ 31) : rB 0 (nI b) f (nI (k + 1 + 1), nI i) A = f (nI (k + 1), nI (i + 1)) (up A 21 ((A 21).set k (if y ≤ x then 0 else nI 1))) := by
  have nb : ¬ b ≤ i := by omega
  unfold rB
  simp (disch := first | omega | (simp only [up_ap, List.length_set, Nat.reduceEqDiff, reduceIte]; omega)) only [bd_pr, pr_ap, jn_eq, lt_eq, bd_bd, bd_ite, ite_ap, bd_ld, bd_sv, bd_la, bd_sa, bd_ln, bd_rz0, bd_rz1, rz_n0, rz_n1, e_lit2, nI_z, nI_eq0, nI_0eq, nI_le0, nI_lt0, nI_0lt, nI_0le, e_001, e_n10, e_n1lt, bd_la0, bd_sa0, bd_rz00, rz_0, rz_1, b2i_0, Int32.add_zero, Int32.zero_add, nI_add, nI_pred2, pk_sub, pk_mul, pk_div, e_nz, nI_eq, nI_leI, nI_ltI, e_nm1, e_nm2, up_ap, gd_set_ne, gd_set_same, List.length_set, Nat.add_sub_cancel, Nat.reduceEqDiff, Nat.reduceAdd, Nat.reduceMul, Nat.reduceSub, Nat.reduceLT, Nat.reduceLeDiff, reduceIte, Nat.not_lt_zero, not_true_eq_false, not_false_eq_true, and_true, true_and, and_false, false_and, hop, nb, hx, hy, Int32.mul_zero, bd_some (tw_4 _)]
theorem rB_op5 {A : Bk} {b i k : Nat} (m14 : (A 14).length = 1200) (m15 : (A 15).length = 1200) (m20 : (A 20).length = 9) (m21 : (A 21).length = 420) (hib : i < b) (hi4 : i < 400) (f : Int32 × Int32 → MM Int32) (hk : k < 419) {x y : Int32} (hx : (A 21).getD k 0 = x) (hy : (A 21).getD (k + 1) 0 = y) (hop : (A 14).getD i 0 = nI 7) (hb : b < 2 ^ 31) : rB 0 (nI b) f (nI (k + 1 + 1), nI i) A = f (nI (k + 1), nI (i + 1)) (up A 21 ((A 21).set k (if x = y then nI 1 else 0))) := by
  have nb : ¬ b ≤ i := by omega
  unfold rB
  simp (disch := first | omega | (simp only [up_ap, List.length_set, Nat.reduceEqDiff, reduceIte]; omega)) only [bd_pr, pr_ap, jn_eq, lt_eq, bd_bd, bd_ite, ite_ap, bd_ld, bd_sv, bd_la, bd_sa, bd_ln, bd_rz0, bd_rz1, rz_n0, rz_n1, e_lit2, nI_z, nI_eq0, nI_0eq, nI_le0, nI_lt0, nI_0lt, nI_0le, e_001, e_n10, e_n1lt, bd_la0, bd_sa0, bd_rz00, rz_0, rz_1, b2i_0, Int32.add_zero, Int32.zero_add, nI_add, nI_pred2, pk_sub, pk_mul, pk_div, e_nz, nI_eq, nI_leI, nI_ltI, e_nm1, e_nm2, up_ap, gd_set_ne, gd_set_same, List.length_set, Nat.add_sub_cancel, Nat.reduceEqDiff, Nat.reduceAdd, Nat.reduceMul, Nat.reduceSub, Nat.reduceLT, Nat.reduceLeDiff, reduceIte, Nat.not_lt_zero, not_true_eq_false, not_false_eq_true, and_true, true_and, and_false, false_and, hop, nb, hx, hy, Int32.mul_zero, bd_some (tw_5 _)]
theorem rB_op6 {A : Bk} {b i k : Nat} (m14 : (A 14).length = 1200) (m15 : (A 15).length = 1200) (m20 : (A 20).length = 9) (m21 : (A 21).length = 420) (hib : i < b) (hi4 : i < 400) (f : Int32 × Int32 → MM Int32) (hk : k < 419) {x y : Int32} (hx : (A 21).getD k 0 = x) (hy : (A 21).getD (k + 1) 0 = y) (hop : (A 14).getD i 0 = nI 8) (hb : b < 2 ^ 31) : rB 0 (nI b) f (nI (k + 1 + 1), nI i) A = f (nI (k + 1), nI (i + 1)) (up A 21 ((A 21).set k (if x ≤ y then 0 else nI 1))) := by
  have nb : ¬ b ≤ i := by omega
  unfold rB
  simp (disch := first | omega | (simp only [up_ap, List.length_set, Nat.reduceEqDiff, reduceIte]; omega)) only [bd_pr, pr_ap, jn_eq, lt_eq, bd_bd, bd_ite, ite_ap, bd_ld, bd_sv, bd_la, bd_sa, bd_ln, bd_rz0, bd_rz1, rz_n0, rz_n1, e_lit2, nI_z, nI_eq0, nI_0eq, nI_le0, nI_lt0, nI_0lt, nI_0le, e_001, e_n10, e_n1lt, bd_la0, bd_sa0, bd_rz00, rz_0, rz_1, b2i_0, Int32.add_zero, Int32.zero_add, nI_add, nI_pred2, pk_sub, pk_mul, pk_div, e_nz, nI_eq, nI_leI, nI_ltI, e_nm1, e_nm2, up_ap, gd_set_ne, gd_set_same, List.length_set, Nat.add_sub_cancel, Nat.reduceEqDiff, Nat.reduceAdd, Nat.reduceMul, Nat.reduceSub, Nat.reduceLT, Nat.reduceLeDiff, reduceIte, Nat.not_lt_zero, not_true_eq_false, not_false_eq_true, and_true, true_and, and_false, false_and, hop, nb, hx, hy, Int32.mul_zero, bd_some (tw_6 _)]
theorem rB_op7 {A : Bk} {b i k : Nat} (m14 : (A 14).length = 1200) (m15 : (A 15).length = 1200) (m20 : (A 20).length = 9) (m21 : (A 21).length = 420) (hib : i < b) (hi4 : i < 400) (f : Int32 × Int32 → MM Int32) (hk : k < 419) {x y : Int32} (hx : (A 21).getD k 0 = x) (hy : (A 21).getD (k + 1) 0 = y) (hx1 : x = 0 ∨ x = nI 1) (hy1 : y = 0 ∨ y = nI 1) (hop : (A 14).getD i 0 = nI 10) (hb : b < 2 ^ 31) : rB 0 (nI b) f (nI (k + 1 + 1), nI i) A = f (nI (k + 1), nI (i + 1)) (up A 21 ((A 21).set k (x &&& y))) := by
  have nb : ¬ b ≤ i := by omega
  unfold rB
  simp (disch := first | omega | (simp only [up_ap, List.length_set, Nat.reduceEqDiff, reduceIte]; omega)) only [bd_pr, pr_ap, jn_eq, lt_eq, bd_bd, bd_ite, ite_ap, bd_ld, bd_sv, bd_la, bd_sa, bd_ln, bd_rz0, bd_rz1, rz_n0, rz_n1, e_lit2, nI_z, nI_eq0, nI_0eq, nI_le0, nI_lt0, nI_0lt, nI_0le, e_001, e_n10, e_n1lt, bd_la0, bd_sa0, bd_rz00, rz_0, rz_1, b2i_0, Int32.add_zero, Int32.zero_add, nI_add, nI_pred2, pk_sub, pk_mul, pk_div, e_nz, nI_eq, nI_leI, nI_ltI, e_nm1, e_nm2, up_ap, gd_set_ne, gd_set_same, List.length_set, Nat.add_sub_cancel, Nat.reduceEqDiff, Nat.reduceAdd, Nat.reduceMul, Nat.reduceSub, Nat.reduceLT, Nat.reduceLeDiff, reduceIte, Nat.not_lt_zero, not_true_eq_false, not_false_eq_true, and_true, true_and, and_false, false_and, hop, nb, hx, hy, Int32.mul_zero, bd_some (tw_7 hx1 hy1 _)]
theorem rB_op8 {A : Bk} {b i k : Nat} (m14 : (A 14).length = 1200) (m15 : (A 15).length = 1200) (m20 : (A 20).length = 9) (m21 : (A 21).length = 420) (hib : i < b) (hi4 : i < 400) (f : Int32 × Int32 → MM Int32) (hk : k < 419) {x y : Int32} (hx : (A 21).getD k 0 = x) (hy : (A 21).getD (k + 1) 0 = y) (hx1 : x = 0 ∨ x = nI 1) (hy1 : y = 0 ∨ y = nI 1) (hop : (A 14).getD i 0 = nI 11) (hb : b < 2 ^ 31) : rB 0 (nI b) f (nI (k + 1 + 1), nI i) A = f (nI (k + 1), nI (i + 1)) (up A 21 ((A 21).set k (x ||| y))) := by
  have nb : ¬ b ≤ i := by omega
  unfold rB
  simp (disch := first | omega | (simp only [up_ap, List.length_set, Nat.reduceEqDiff, reduceIte]; omega)) only [bd_pr, pr_ap, jn_eq, lt_eq, bd_bd, bd_ite, ite_ap, bd_ld, bd_sv, bd_la, bd_sa, bd_ln, bd_rz0, bd_rz1, rz_n0, rz_n1, e_lit2, nI_z, nI_eq0, nI_0eq, nI_le0, nI_lt0, nI_0lt, nI_0le, e_001, e_n10, e_n1lt, bd_la0, bd_sa0, bd_rz00, rz_0, rz_1, b2i_0, Int32.add_zero, Int32.zero_add, nI_add, nI_pred2, pk_sub, pk_mul, pk_div, e_nz, nI_eq, nI_leI, nI_ltI, e_nm1, e_nm2, up_ap, gd_set_ne, gd_set_same, List.length_set, Nat.add_sub_cancel, Nat.reduceEqDiff, Nat.reduceAdd, Nat.reduceMul, Nat.reduceSub, Nat.reduceLT, Nat.reduceLeDiff, reduceIte, Nat.not_lt_zero, not_true_eq_false, not_false_eq_true, and_true, true_and, and_false, false_and, hop, nb, hx, hy, Int32.mul_zero, bd_some (tw_8 hx1 hy1 _)]
def WI (V B : Bk) (a b y : Nat) (j : Nat) (s : Int32 × Int32) (A : Bk) (t : Int32 × Int32) (B' : Bk) : Prop := ∃ st s6 s21, s = (nI st.length, nI (a + j)) ∧ t = (nI st.length, nI (a + j)) ∧ A = up V 6 s6 ∧ B' = up B 21 s21 ∧ s6.length = 400 ∧ s21.length = 420 ∧ st.length ≤ j ∧ (∀ i, i < st.length → s6.getD i 0 = s21.getD i 0) ∧ TS st s6 ∧ tcl (seg (V 5) (a + j) b) st = some [y]
theorem WI_put {V B : Bk} {a b y j k z : Nat} {r st : List Nat} {s6 s21 : List Int32} {v : Int32} (k6 : s6.length = 400) (k21 : s21.length = 420) (hk : r.length = k) (hj : k + 1 ≤ j + 1) (hk4 : k < 400) (hag : ∀ i, i < st.length → s6.getD i 0 = s21.getD i 0) (hst : k ≤ st.length) (hr : TS r s6) (hz : ty z v) (ht : tcl (seg (V 5) (a + j + 1) b) (z :: r) = some [y]) :
    WI V B a b y (j + 1) (nI (k + 1), nI (a + j + 1)) (up (up V 6 s6) 6 (((up V 6 s6) 6).set k v)) (nI (k + 1), nI (a + j + 1)) (up (up B 21 s21) 21 (((up B 21 s21) 21).set k v)) := by
  refine ⟨z :: r, s6.set k v, s21.set k v, by rw [List.length_cons, hk]; rfl, by rw [List.length_cons, hk]; rfl, by rw [up_up, up_same], by rw [up_up, up_same], by rw [List.length_set, k6], by rw [List.length_set, k21], by rw [List.length_cons, hk]; exact hj, ?_, ⟨?_, TS_set hr (by omega)⟩, ht⟩
  · rw [List.length_cons, hk]
    exact ag_set hag (by omega) (by omega) hst
  · rw [hk, gd_set_same (by omega)]; exact hz
theorem tcs_bin {c : Int32} {st s2 : List Nat} {P : Nat → Nat → Prop} [∀ a b, Decidable (P a b)] {z : Nat} (h0 : tcs c [] = none) (h1 : ∀ x, tcs c [x] = none) (h2 : ∀ b a r, tcs c (b :: a :: r) = if P b a then some (z :: r) else none) (h : tcs c st = some s2) : ∃ b a r, st = b :: a :: r ∧ s2 = z :: r ∧ P b a := by
  match st, h with
  | [], h => rw [h0] at h; cases h
  | [x], h => rw [h1] at h; cases h
  | b :: a :: r, h =>
    rw [h2] at h
    by_cases hq : P b a
    · rw [if_pos hq] at h; cases h; exact ⟨b, a, r, rfl, rfl, hq⟩
    · rw [if_neg hq] at h; cases h
theorem cmp_t {c : Prop} [Decidable c] : ty 1 (if c then 0 else nI 1) := ⟨fun _ => by by_cases h : c <;> simp [h], fun h => (by cases h)⟩
theorem cmp_e {c : Prop} [Decidable c] : ty 1 (if c then nI 1 else 0) := ⟨fun _ => by by_cases h : c <;> simp [h], fun h => (by cases h)⟩
theorem and_t {x y : Int32} (hx : x = 0 ∨ x = nI 1) (hy : y = 0 ∨ y = nI 1) : ty 1 (x &&& y) := ⟨fun _ => by rcases hx with rfl | rfl <;> rcases hy with rfl | rfl <;> decide, fun h => (by cases h)⟩
theorem or_t {x y : Int32} (hx : x = 0 ∨ x = nI 1) (hy : y = 0 ∨ y = nI 1) : ty 1 (x ||| y) := ⟨fun _ => by rcases hx with rfl | rfl <;> rcases hy with rfl | rfl <;> decide, fun h => (by cases h)⟩
theorem not_t {x : Int32} (hx : x = 0 ∨ x = nI 1) : ty 1 (nI 1 - x) := ⟨fun _ => by rcases hx with rfl | rfl <;> decide, fun h => (by cases h)⟩
theorem worth_runs {V B : Bk} {a b cd : Nat} {y : Nat} (l5 : (V 5).length = 400) (l6 : (V 6).length = 400) (l7 : (V 7).length = 9) (hs : V 7 = B 20) (m14 : (B 14).length = 1200) (m15 : (B 15).length = 1200) (m20 : (B 20).length = 9) (m21 : (B 21).length = 420)
    (hcd : cd ≤ 400) (hc : ∀ i, i < cd → RCode ((V 5).getD i 0) ((B 14).getD i 0) ((B 15).getD i 0)) (hab : a ≤ b) (hbc : b ≤ cd) (ht : tcl (seg (V 5) a b) [] = some [y]) :
    ∃ r s6 s21, gX2_worth (nI a) (nI b) V = some (r, up V 6 s6) ∧ gX11_runs 0 (nI a) (nI b) B = some (r, up B 21 s21) ∧ s6.length = 400 ∧ s21.length = 420 := by
  have key : J2 (gX2_worth (nI a) (nI b) V) (gX11_runs 0 (nI a) (nI b) B) (fun r A' r' B' => r = r' ∧ ∃ s6 s21, A' = up V 6 s6 ∧ B' = up B 21 s21 ∧ s6.length = 400 ∧ s21.length = 420) := by
    rw [worth_eq, runs_eq, bd_lf0 _ (p_max0 (by omega) _)]
    have e0 : (400 : Int32) * 0 + nI a = nI a := by rw [Int32.mul_zero, Int32.zero_add]
    simp only [lt_eq, e0]
    have hb31 : b < 2 ^ 31 := by omega
    refine loopJ (b - a) (WI V B a b y) _ (fun j s A t B' hj hI => ?_) (fun s A t B' hI f1 f2 => ?_) (by omega) (by omega) ⟨[], V 6, B 21, rfl, rfl, (up_self V 6).symm, (up_self B 21).symm, l6, m21, Nat.le_refl _, fun i hi => absurd hi (Nat.not_lt_zero i), trivial, ht⟩
    · obtain ⟨st, s6, s21, rfl, rfl, rfl, rfl, k6, k21, hst, hag, hts, htc⟩ := hI
      have hlt : a + j < b := by omega
      have h4 : a + j < 400 := by omega
      rw [seg_cons hlt (by omega), tcl_c] at htc
      have w5 : ((up V 6 s6) 5).length = 400 := l5
      have w6 : ((up V 6 s6) 6).length = 400 := k6
      have w7 : ((up V 6 s6) 7).length = 9 := l7
      have v14 : ((up B 21 s21) 14).length = 1200 := m14
      have v15 : ((up B 21 s21) 15).length = 1200 := m15
      have v20 : ((up B 21 s21) 20).length = 9 := m20
      have v21 : ((up B 21 s21) 21).length = 420 := k21
      obtain ⟨s2, hs2, htc2⟩ : ∃ s2, tcs ((V 5).getD (a + j) 0) st = some s2 ∧ tcl (seg (V 5) (a + j + 1) b) s2 = some [y] := by
        cases hq : tcs ((V 5).getD (a + j) 0) st with
        | none => rw [hq] at htc; cases htc
        | some s2 => rw [hq] at htc; exact ⟨s2, rfl, htc⟩
      rcases hc (a + j) (by omega) with ⟨n, hn, hcc, hop, har⟩ | ⟨q, hq, hcc, hop, har⟩ | ⟨hcc, hop⟩ | ⟨hcc, hop⟩ | ⟨hcc, hop⟩ | ⟨hcc, hop⟩ | ⟨hcc, hop⟩ | ⟨hcc, hop⟩ | ⟨hcc, hop⟩ | ⟨hcc, hop⟩ | ⟨hcc, hop⟩ | ⟨hcc, hop⟩
      · have e1 : tcs ((V 5).getD (a + j) 0) st = some ((if nI n = 0 then 0 else 2) :: st) := by
          rw [hcc]
          show (if nI n < 10000 then _ else _) = _
          rw [if_pos (show nI n < 10000 from nI_lt hn (by decide))]
        rw [e1] at hs2; cases hs2
        refine ⟨_, _, _, _, fun f => wB_num w5 w6 (by omega) hlt h4 f hn hcc hb31, fun f => rB_num v14 v15 v20 v21 hlt h4 f (by omega) hop har hb31, WI_put k6 k21 rfl (by omega) (by omega) hag (Nat.le_refl _) hts ?_ htc2⟩
        by_cases h0 : nI n = 0
        · rw [if_pos h0]; exact ty0 _
        · rw [if_neg h0]; exact ⟨fun h => (by cases h), fun _ => h0⟩
      · have e1 : tcs ((V 5).getD (a + j) 0) st = some (0 :: st) := by
          rw [hcc]
          show (if nI (10000 + q) < 10000 then _ else _) = _
          rw [if_neg (show ¬ nI (10000 + q) < 10000 from nI_nlt (a := 10000 + q) (b := 10000) (by omega) (by omega)), if_pos (show nI (10000 + q) < 10010 from nI_lt (a := 10000 + q) (b := 10010) (by omega) (by decide))]
        rw [e1] at hs2; cases hs2
        refine ⟨_, _, _, _, fun f => wB_q w5 w6 w7 (by omega) hlt h4 f hq hcc hb31, fun f => rB_q v14 v15 v20 v21 hlt h4 f (by omega) hq hop har hb31, ?_⟩
        have e7 : (up V 6 s6) 7 = (up B 21 s21) 20 := hs
        rw [e7]
        exact WI_put k6 k21 rfl (by omega) (by omega) hag (Nat.le_refl _) hts (ty0 _) htc2
      · obtain ⟨yb, ya, r, rfl, rfl, hty⟩ := tcs_bin (c := 10010) (P := fun yb ya => yb ≠ 1 ∧ ya ≠ 1) (z := 0) rfl (fun _ => rfl) (fun _ _ _ => rfl) (by rw [← hcc]; exact hs2)
        obtain ⟨⟨tb1, tb2⟩, ⟨ta1, ta2⟩, htr⟩ := hts
        simp only [List.length_cons] at hst hag
        have x2 : (up B 21 s21 21).getD r.length 0 = s6.getD r.length 0 := (hag r.length (by omega)).symm
        have y2 : (up B 21 s21 21).getD (r.length + 1) 0 = s6.getD (r.length + 1) 0 := (hag (r.length + 1) (by omega)).symm
        exact ⟨_, _, _, _, fun f => wB_op0 w5 w6 (by omega) hlt h4 f rfl rfl hcc hb31, fun f => rB_op0 v14 v15 v20 v21 hlt h4 f (by omega) x2 y2 hop hb31, WI_put (st := yb :: ya :: r) k6 k21 rfl (by omega) (by omega) (by simpa only [List.length_cons] using hag) (by simp only [List.length_cons]; omega) htr (ty0 _) htc2⟩
      · obtain ⟨yb, ya, r, rfl, rfl, hty⟩ := tcs_bin (c := 10011) (P := fun yb ya => yb ≠ 1 ∧ ya ≠ 1) (z := 0) rfl (fun _ => rfl) (fun _ _ _ => rfl) (by rw [← hcc]; exact hs2)
        obtain ⟨⟨tb1, tb2⟩, ⟨ta1, ta2⟩, htr⟩ := hts
        simp only [List.length_cons] at hst hag
        have x2 : (up B 21 s21 21).getD r.length 0 = s6.getD r.length 0 := (hag r.length (by omega)).symm
        have y2 : (up B 21 s21 21).getD (r.length + 1) 0 = s6.getD (r.length + 1) 0 := (hag (r.length + 1) (by omega)).symm
        exact ⟨_, _, _, _, fun f => wB_op1 w5 w6 (by omega) hlt h4 f rfl rfl hcc hb31, fun f => rB_op1 v14 v15 v20 v21 hlt h4 f (by omega) x2 y2 hop hb31, WI_put (st := yb :: ya :: r) k6 k21 rfl (by omega) (by omega) (by simpa only [List.length_cons] using hag) (by simp only [List.length_cons]; omega) htr (ty0 _) htc2⟩
      · obtain ⟨yb, ya, r, rfl, rfl, hty⟩ := tcs_bin (c := 10012) (P := fun yb ya => yb ≠ 1 ∧ ya ≠ 1) (z := 0) rfl (fun _ => rfl) (fun _ _ _ => rfl) (by rw [← hcc]; exact hs2)
        obtain ⟨⟨tb1, tb2⟩, ⟨ta1, ta2⟩, htr⟩ := hts
        simp only [List.length_cons] at hst hag
        have x2 : (up B 21 s21 21).getD r.length 0 = s6.getD r.length 0 := (hag r.length (by omega)).symm
        have y2 : (up B 21 s21 21).getD (r.length + 1) 0 = s6.getD (r.length + 1) 0 := (hag (r.length + 1) (by omega)).symm
        exact ⟨_, _, _, _, fun f => wB_op2 w5 w6 (by omega) hlt h4 f rfl rfl hcc hb31, fun f => rB_op2 v14 v15 v20 v21 hlt h4 f (by omega) x2 y2 hop hb31, WI_put (st := yb :: ya :: r) k6 k21 rfl (by omega) (by omega) (by simpa only [List.length_cons] using hag) (by simp only [List.length_cons]; omega) htr (ty0 _) htc2⟩
      · obtain ⟨yb, ya, r, rfl, rfl, hty⟩ := tcs_bin (c := 10013) (P := fun yb ya => yb = 2 ∧ ya ≠ 1) (z := 0) rfl (fun _ => rfl) (fun _ _ _ => rfl) (by rw [← hcc]; exact hs2)
        obtain ⟨⟨tb1, tb2⟩, ⟨ta1, ta2⟩, htr⟩ := hts
        simp only [List.length_cons] at hst hag
        have x2 : (up B 21 s21 21).getD r.length 0 = s6.getD r.length 0 := (hag r.length (by omega)).symm
        have y2 : (up B 21 s21 21).getD (r.length + 1) 0 = s6.getD (r.length + 1) 0 := (hag (r.length + 1) (by omega)).symm
        exact ⟨_, _, _, _, fun f => wB_op3 w5 w6 (by omega) hlt h4 f rfl rfl (tb2 hty.1) hcc hb31, fun f => rB_op3 v14 v15 v20 v21 hlt h4 f (by omega) x2 y2 (tb2 hty.1) hop hb31, WI_put (st := yb :: ya :: r) k6 k21 rfl (by omega) (by omega) (by simpa only [List.length_cons] using hag) (by simp only [List.length_cons]; omega) htr (ty0 _) htc2⟩
      · obtain ⟨yb, ya, r, rfl, rfl, hty⟩ := tcs_bin (c := 10014) (P := fun yb ya => yb ≠ 1 ∧ ya ≠ 1) (z := 1) rfl (fun _ => rfl) (fun _ _ _ => rfl) (by rw [← hcc]; exact hs2)
        obtain ⟨⟨tb1, tb2⟩, ⟨ta1, ta2⟩, htr⟩ := hts
        simp only [List.length_cons] at hst hag
        have x2 : (up B 21 s21 21).getD r.length 0 = s6.getD r.length 0 := (hag r.length (by omega)).symm
        have y2 : (up B 21 s21 21).getD (r.length + 1) 0 = s6.getD (r.length + 1) 0 := (hag (r.length + 1) (by omega)).symm
        exact ⟨_, _, _, _, fun f => wB_op4 w5 w6 (by omega) hlt h4 f rfl rfl hcc hb31, fun f => rB_op4 v14 v15 v20 v21 hlt h4 f (by omega) x2 y2 hop hb31, WI_put (st := yb :: ya :: r) k6 k21 rfl (by omega) (by omega) (by simpa only [List.length_cons] using hag) (by simp only [List.length_cons]; omega) htr cmp_t htc2⟩
      · obtain ⟨yb, ya, r, rfl, rfl, hty⟩ := tcs_bin (c := 10015) (P := fun yb ya => yb ≠ 1 ∧ ya ≠ 1) (z := 1) rfl (fun _ => rfl) (fun _ _ _ => rfl) (by rw [← hcc]; exact hs2)
        obtain ⟨⟨tb1, tb2⟩, ⟨ta1, ta2⟩, htr⟩ := hts
        simp only [List.length_cons] at hst hag
        have x2 : (up B 21 s21 21).getD r.length 0 = s6.getD r.length 0 := (hag r.length (by omega)).symm
        have y2 : (up B 21 s21 21).getD (r.length + 1) 0 = s6.getD (r.length + 1) 0 := (hag (r.length + 1) (by omega)).symm
        exact ⟨_, _, _, _, fun f => wB_op5 w5 w6 (by omega) hlt h4 f rfl rfl hcc hb31, fun f => rB_op5 v14 v15 v20 v21 hlt h4 f (by omega) x2 y2 hop hb31, WI_put (st := yb :: ya :: r) k6 k21 rfl (by omega) (by omega) (by simpa only [List.length_cons] using hag) (by simp only [List.length_cons]; omega) htr cmp_e htc2⟩
      · obtain ⟨yb, ya, r, rfl, rfl, hty⟩ := tcs_bin (c := 10016) (P := fun yb ya => yb ≠ 1 ∧ ya ≠ 1) (z := 1) rfl (fun _ => rfl) (fun _ _ _ => rfl) (by rw [← hcc]; exact hs2)
        obtain ⟨⟨tb1, tb2⟩, ⟨ta1, ta2⟩, htr⟩ := hts
        simp only [List.length_cons] at hst hag
        have x2 : (up B 21 s21 21).getD r.length 0 = s6.getD r.length 0 := (hag r.length (by omega)).symm
        have y2 : (up B 21 s21 21).getD (r.length + 1) 0 = s6.getD (r.length + 1) 0 := (hag (r.length + 1) (by omega)).symm
        exact ⟨_, _, _, _, fun f => wB_op6 w5 w6 (by omega) hlt h4 f rfl rfl hcc hb31, fun f => rB_op6 v14 v15 v20 v21 hlt h4 f (by omega) x2 y2 hop hb31, WI_put (st := yb :: ya :: r) k6 k21 rfl (by omega) (by omega) (by simpa only [List.length_cons] using hag) (by simp only [List.length_cons]; omega) htr cmp_t htc2⟩
      · obtain ⟨yb, ya, r, rfl, rfl, hty⟩ := tcs_bin (c := 10017) (P := fun yb ya => yb = 1 ∧ ya = 1) (z := 1) rfl (fun _ => rfl) (fun _ _ _ => rfl) (by rw [← hcc]; exact hs2)
        obtain ⟨⟨tb1, tb2⟩, ⟨ta1, ta2⟩, htr⟩ := hts
        simp only [List.length_cons] at hst hag
        have x2 : (up B 21 s21 21).getD r.length 0 = s6.getD r.length 0 := (hag r.length (by omega)).symm
        have y2 : (up B 21 s21 21).getD (r.length + 1) 0 = s6.getD (r.length + 1) 0 := (hag (r.length + 1) (by omega)).symm
        exact ⟨_, _, _, _, fun f => wB_op7 w5 w6 (by omega) hlt h4 f rfl rfl hcc hb31, fun f => rB_op7 v14 v15 v20 v21 hlt h4 f (by omega) x2 y2 (ta1 hty.2) (tb1 hty.1) hop hb31, WI_put (st := yb :: ya :: r) k6 k21 rfl (by omega) (by omega) (by simpa only [List.length_cons] using hag) (by simp only [List.length_cons]; omega) htr (and_t (ta1 hty.2) (tb1 hty.1)) htc2⟩
      · obtain ⟨yb, ya, r, rfl, rfl, hty⟩ := tcs_bin (c := 10018) (P := fun yb ya => yb = 1 ∧ ya = 1) (z := 1) rfl (fun _ => rfl) (fun _ _ _ => rfl) (by rw [← hcc]; exact hs2)
        obtain ⟨⟨tb1, tb2⟩, ⟨ta1, ta2⟩, htr⟩ := hts
        simp only [List.length_cons] at hst hag
        have x2 : (up B 21 s21 21).getD r.length 0 = s6.getD r.length 0 := (hag r.length (by omega)).symm
        have y2 : (up B 21 s21 21).getD (r.length + 1) 0 = s6.getD (r.length + 1) 0 := (hag (r.length + 1) (by omega)).symm
        exact ⟨_, _, _, _, fun f => wB_op8 w5 w6 (by omega) hlt h4 f rfl rfl hcc hb31, fun f => rB_op8 v14 v15 v20 v21 hlt h4 f (by omega) x2 y2 (ta1 hty.2) (tb1 hty.1) hop hb31, WI_put (st := yb :: ya :: r) k6 k21 rfl (by omega) (by omega) (by simpa only [List.length_cons] using hag) (by simp only [List.length_cons]; omega) htr (or_t (ta1 hty.2) (tb1 hty.1)) htc2⟩
      · obtain ⟨r, rfl, rfl⟩ : ∃ r, st = 1 :: r ∧ s2 = 1 :: r := by
          rw [hcc] at hs2
          match st, hs2 with
          | [], hs2 => cases hs2
          | 0 :: r, hs2 => cases hs2
          | 1 :: r, hs2 => cases hs2; exact ⟨r, rfl, rfl⟩
          | (n + 2) :: r, hs2 => cases hs2
        obtain ⟨⟨ta1, ta2⟩, htr⟩ := hts
        simp only [List.length_cons] at hst hag
        have x2 : (up B 21 s21 21).getD r.length 0 = s6.getD r.length 0 := (hag r.length (by omega)).symm
        have ww := fun f => wB_not w5 w6 (k := r.length) (by omega) hlt h4 f hcc hb31
        have rr := fun f => rB_not v14 v15 v20 v21 (k := r.length) hlt h4 f (by omega) hop hb31
        rw [x2] at rr
        exact ⟨_, _, _, _, ww, rr, WI_put (st := 1 :: r) k6 k21 rfl (by omega) (by omega) (by simpa only [List.length_cons] using hag) (by simp only [List.length_cons]; omega) htr (not_t (ta1 rfl)) htc2⟩
    · obtain ⟨st, s6, s21, rfl, rfl, rfl, rfl, k6, k21, hst, hag, hts, htc⟩ := hI
      have e1 : a + (b - a) = b := by omega
      rw [e1, seg_nil] at htc
      have hst1 : st = [y] := Option.some.inj htc
      subst hst1
      have h1 := hag 0 (by simp)
      refine ⟨s6.getD 0 0, up V 6 s6, s21.getD 0 0, up B 21 s21, ?_, ?_, h1, s6, s21, rfl, rfl, k6, k21⟩
      · unfold wB
        simp (disch := first | omega | (simp only [up_ap, List.length_set, Nat.reduceEqDiff, reduceIte, k6]; omega)) only [bd_pr, pr_ap, jn_eq, lt_eq, bd_bd, bd_ite, ite_ap, bd_ld, bd_sv, bd_la, bd_sa, bd_ln, bd_rz0, bd_rz1, rz_n0, rz_n1, e_lit2, nI_z, nI_eq0, nI_0eq, nI_le0, nI_lt0, nI_0lt, nI_0le, e_001, e_n10, e_n1lt, bd_la0, bd_sa0, bd_rz00, rz_0, rz_1, b2i_0, Int32.add_zero, Int32.zero_add, nI_add, nI_pred2, pk_sub, pk_mul, pk_div, e_nz, nI_eq, nI_leI, nI_ltI, e_nm1, e_nm2, up_ap, gd_set_ne, gd_set_same, List.length_set, Nat.add_sub_cancel, Nat.reduceEqDiff, Nat.reduceAdd, Nat.reduceMul, Nat.reduceSub, Nat.reduceLT, Nat.reduceLeDiff, reduceIte, Nat.not_lt_zero, not_true_eq_false, not_false_eq_true, and_true, true_and, and_false, false_and, e1, Nat.le_refl, List.length_cons, List.length_nil, Nat_1_le_0]
      · unfold rB
        simp (disch := first | omega | (simp only [up_ap, List.length_set, Nat.reduceEqDiff, reduceIte, k21]; omega)) only [bd_pr, pr_ap, jn_eq, lt_eq, bd_bd, bd_ite, ite_ap, bd_ld, bd_sv, bd_la, bd_sa, bd_ln, bd_rz0, bd_rz1, rz_n0, rz_n1, e_lit2, nI_z, nI_eq0, nI_0eq, nI_le0, nI_lt0, nI_0lt, nI_0le, e_001, e_n10, e_n1lt, bd_la0, bd_sa0, bd_rz00, rz_0, rz_1, b2i_0, Int32.add_zero, Int32.zero_add, nI_add, nI_pred2, pk_sub, pk_mul, pk_div, e_nz, nI_eq, nI_leI, nI_ltI, e_nm1, e_nm2, up_ap, gd_set_ne, gd_set_same, List.length_set, Nat.add_sub_cancel, Nat.reduceEqDiff, Nat.reduceAdd, Nat.reduceMul, Nat.reduceSub, Nat.reduceLT, Nat.reduceLeDiff, reduceIte, Nat.not_lt_zero, not_true_eq_false, not_false_eq_true, and_true, true_and, and_false, false_and, e1, Nat.le_refl, List.length_cons, List.length_nil, Int32.mul_zero]
  obtain ⟨r, A', r', B', h1, h2, rfl, s6, s21, rfl, rfl, h3, h4⟩ := key
  exact ⟨r, s6, s21, h1, h2, h3, h4⟩
