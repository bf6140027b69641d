/-! PURE: strip, the class told in natural numbers, the checks -/
def cf1B (x0 : Int32) (x1 : Int32) : (Int32 × Int32 × Int32 × Int32 × Int32 → MM Int32) → Int32 × Int32 × Int32 × Int32 × Int32 → MM Int32 := fun (self1 : Int32 × Int32 × Int32 × Int32 × Int32 → MM Int32) (s2 : Int32 × Int32 × Int32 × Int32 × Int32) =>
  (if x0 ≤ s2.2.2.2.2 then
  pr ((2 * s2.2.1) + s2.2.2.1)
  else
  lt (1 <<< (((x0 - s2.2.2.2.2) - 1) &&& 31)) fun y3 =>
  jn (fun (a5 : Int32) =>
  jn (fun (a7 : Int32) =>
  jn (fun (a9 : Int32 × Int32 × Int32) =>
  lt (s2.2.2.2.1 * 2) fun y10 =>
  lt (s2.2.2.2.2 + 1) fun y11 =>
  self1 (a9.1, a9.2.1, a9.2.2, y10, y11)) (fun j8 =>
  (if a5 = a7 then
  lt ((s2.2.2.2.1 - 1) - s2.2.1) fun y15 =>
  lt (1 - s2.2.2.1) fun y16 =>
  jn (fun (a18 : Int32) =>
  j8 (a18, y15, y16)) (fun j17 =>
  (if a5 = 0 then
  j17 (((2 * y3) - 1) - s2.1)
  else
  j17 ((y3 - 1) - s2.1)))
  else
  lt (s2.2.1 + s2.2.2.2.1) fun y12 =>
  jn (fun (a14 : Int32) =>
  j8 (a14, y12, s2.2.2.1)) (fun j13 =>
  (if a5 = 0 then
  j13 s2.1
  else
  j13 (s2.1 - y3)))))) (fun j6 =>
  (if y3 ≤ s2.1 then
  j6 0
  else
  j6 1))) (fun j4 =>
  (if ((ish x1 s2.2.2.2.2) &&& 1) = 1 then
  j4 1
  else
  j4 0)))
def cf1 (x0 : Int32) (x1 : Int32) (x2 : Int32) : MM Int32 := loopC 100000 (cf1B x0 x1) (x2, 0, 1, 1, 0)
theorem cf_eq (x0 x1 x2 : Int32) : gX6_folded x0 x1 x2 =
  (cf1 x0 x1 x2) := rfl
def bN (b : Bool) : Nat := if b then 1 else 0
theorem bN_lt (b : Bool) : bN b < 2 := by cases b <;> decide
def cS (k m i : Nat) (s : Nat × Nat × Bool) : Nat × Nat × Bool :=
  if m.testBit i then
    (if s.1 < 2 ^ (k - i - 1) then (2 ^ (k - i - 1) - 1 - s.1, 2 ^ i - 1 - s.2.1, !s.2.2) else (s.1 - 2 ^ (k - i - 1), s.2.1 + 2 ^ i, s.2.2))
  else (if s.1 < 2 ^ (k - i - 1) then (s.1, s.2.1 + 2 ^ i, s.2.2) else (2 * 2 ^ (k - i - 1) - 1 - s.1, 2 ^ i - 1 - s.2.1, !s.2.2))
def cF (k m a : Nat) : Nat → Nat × Nat × Bool := fo (fun i s => cS k m i s) (a, 0, true)
def cE (s : Nat × Nat × Bool) (i : Nat) : Int32 × Int32 × Int32 × Int32 × Int32 := (nI s.1, nI s.2.1, nI (bN s.2.2), nI (2 ^ i), nI i)
theorem shd : ∀ m, m < 64 → ∀ i, i < 6 → ((ish (nI m) (nI i)) &&& 1 : Int32) = if m.testBit i then 1 else 0 := by decide +kernel
set_option maxHeartbeats 400000 in
theorem cf_step {k m i : Nat} {s : Nat × Nat × Bool} (hk : k < 7) (hm : m < 64) (hi : i < k) (hx : s.1 < 2 * 2 ^ (k - i - 1)) (hp : s.2.1 < 2 ^ i) (f : Int32 × Int32 × Int32 × Int32 × Int32 → MM Int32) (A : Bk) : cf1B (nI k) (nI m) f (cE s i) A = f (cE (cS k m i s) (i + 1)) A := by
  obtain ⟨x, p, d⟩ := s
  obtain ⟨e1, e2, e3, e4, e5, e6⟩ := pws k hk i hi
  have hx : x < 2 * 2 ^ (k - i - 1) := hx
  have hp : p < 2 ^ i := hp
  have hy : (1 <<< ((nI k - nI i - 1) &&& 31) : Int32) = nI (2 ^ (k - i - 1)) := by
    rw [show (1 : Int32) = nI 1 from rfl, pk_sub (by omega), pk_sub (by omega)]
    exact pw (k - i - 1) (by omega)
  have ei : (2 : Nat) ^ (i + 1) = 2 ^ i * 2 := Nat.pow_succ 2 i
  have n1 : ¬ nI k ≤ nI i := fun z => by have := (nI_leI (by omega) (by omega)).mp z; omega
  have sb := shd m hm i (by omega)
  unfold cf1B cE
  rw [if_neg n1, hy, sb, ei]
  unfold cS
  obtain ⟨y, hyy⟩ : ∃ y, 2 ^ (k - i - 1) = y := ⟨_, rfl⟩
  obtain ⟨w, hw⟩ : ∃ w, 2 ^ i = w := ⟨_, rfl⟩
  rw [hyy] at hx e6 ⊢
  rw [hw] at hp e4 e5 ⊢
  have db : nI 1 - nI (bN d) = nI (bN (!d)) := by cases d <;> decide
  by_cases h1 : x < y
  · have h2 : ¬ y ≤ x := by omega
    cases m.testBit i
    · simp (disch := first | omega | (simp only [up_ap, List.length_set, Nat.reduceEqDiff, reduceIte] <;> omega)) only [Int32.le_refl, bd_pr, pr_ap, jn_eq, lt_eq, bd_bd, bd_ite, ite_ap, bd_ld, bd_sv, bd_la, bd_sa, bd_ln, bd_rz0, bd_rz1, rz_n0, rz_n1, e_lit2, nI_z, nI_eq0, nI_0eq, nI_le0, nI_lt0, nI_0lt, nI_0le, e_001, e_n10, e_n1lt, bd_la0, bd_sa0, bd_rz00, rz_0, rz_1, b2i_0, Int32.add_zero, Int32.zero_add, nI_add, nI_pred2, pk_sub, pk_mul, pk_div, e_nz, nI_eq, nI_leI, nI_ltI, e_nm1, e_nm2, up_ap, gd_set_ne, gd_set_same, List.length_set, Nat.add_sub_cancel, Nat.reduceEqDiff, Nat.reduceAdd, Nat.reduceMul, Nat.reduceSub, Nat.reduceLT, Nat.reduceLeDiff, reduceIte, Nat.not_lt_zero, not_true_eq_false, not_false_eq_true, and_true, true_and, and_false, false_and, h1, h2, Bool.false_eq_true]
    · simp (disch := first | omega | (simp only [up_ap, List.length_set, Nat.reduceEqDiff, reduceIte] <;> omega)) only [Int32.le_refl, bd_pr, pr_ap, jn_eq, lt_eq, bd_bd, bd_ite, ite_ap, bd_ld, bd_sv, bd_la, bd_sa, bd_ln, bd_rz0, bd_rz1, rz_n0, rz_n1, e_lit2, nI_z, nI_eq0, nI_0eq, nI_le0, nI_lt0, nI_0lt, nI_0le, e_001, e_n10, e_n1lt, bd_la0, bd_sa0, bd_rz00, rz_0, rz_1, b2i_0, Int32.add_zero, Int32.zero_add, nI_add, nI_pred2, pk_sub, pk_mul, pk_div, e_nz, nI_eq, nI_leI, nI_ltI, e_nm1, e_nm2, up_ap, gd_set_ne, gd_set_same, List.length_set, Nat.add_sub_cancel, Nat.reduceEqDiff, Nat.reduceAdd, Nat.reduceMul, Nat.reduceSub, Nat.reduceLT, Nat.reduceLeDiff, reduceIte, Nat.not_lt_zero, not_true_eq_false, not_false_eq_true, and_true, true_and, and_false, false_and, h1, h2, db]
  · have h2 : y ≤ x := by omega
    cases m.testBit i
    · simp (disch := first | omega | (simp only [up_ap, List.length_set, Nat.reduceEqDiff, reduceIte] <;> omega)) only [Int32.le_refl, bd_pr, pr_ap, jn_eq, lt_eq, bd_bd, bd_ite, ite_ap, bd_ld, bd_sv, bd_la, bd_sa, bd_ln, bd_rz0, bd_rz1, rz_n0, rz_n1, e_lit2, nI_z, nI_eq0, nI_0eq, nI_le0, nI_lt0, nI_0lt, nI_0le, e_001, e_n10, e_n1lt, bd_la0, bd_sa0, bd_rz00, rz_0, rz_1, b2i_0, Int32.add_zero, Int32.zero_add, nI_add, nI_pred2, pk_sub, pk_mul, pk_div, e_nz, nI_eq, nI_leI, nI_ltI, e_nm1, e_nm2, up_ap, gd_set_ne, gd_set_same, List.length_set, Nat.add_sub_cancel, Nat.reduceEqDiff, Nat.reduceAdd, Nat.reduceMul, Nat.reduceSub, Nat.reduceLT, Nat.reduceLeDiff, reduceIte, Nat.not_lt_zero, not_true_eq_false, not_false_eq_true, and_true, true_and, and_false, false_and, h1, h2, db, Bool.false_eq_true]
    · simp (disch := first | omega | (simp only [up_ap, List.length_set, Nat.reduceEqDiff, reduceIte] <;> omega)) only [Int32.le_refl, bd_pr, pr_ap, jn_eq, lt_eq, bd_bd, bd_ite, ite_ap, bd_ld, bd_sv, bd_la, bd_sa, bd_ln, bd_rz0, bd_rz1, rz_n0, rz_n1, e_lit2, nI_z, nI_eq0, nI_0eq, nI_le0, nI_lt0, nI_0lt, nI_0le, e_001, e_n10, e_n1lt, bd_la0, bd_sa0, bd_rz00, rz_0, rz_1, b2i_0, Int32.add_zero, Int32.zero_add, nI_add, nI_pred2, pk_sub, pk_mul, pk_div, e_nz, nI_eq, nI_leI, nI_ltI, e_nm1, e_nm2, up_ap, gd_set_ne, gd_set_same, List.length_set, Nat.add_sub_cancel, Nat.reduceEqDiff, Nat.reduceAdd, Nat.reduceMul, Nat.reduceSub, Nat.reduceLT, Nat.reduceLeDiff, reduceIte, Nat.not_lt_zero, not_true_eq_false, not_false_eq_true, and_true, true_and, and_false, false_and, h1, h2]
theorem cF_in {k m a : Nat} (hk : k < 7) (ha : a < 2 ^ k) : ∀ i, i ≤ k → (cF k m a i).1 < 2 ^ (k - i) ∧ (cF k m a i).2.1 < 2 ^ i
  | 0, _ => ⟨ha, show (0 : Nat) < 1 by decide⟩
  | i + 1, hi => by
    obtain ⟨h1, h2⟩ := cF_in hk ha i (by omega)
    have e : cF k m a (i + 1) = cS k m i (cF k m a i) := rfl
    obtain ⟨z, hz⟩ : ∃ z, cF k m a i = z := ⟨_, rfl⟩
    rw [e, hz]
    rw [hz] at h1 h2
    have e1 : (2 : Nat) ^ (k - i) = 2 ^ (k - (i + 1)) * 2 := by rw [← Nat.pow_succ]; congr 1; omega
    have e2 : (2 : Nat) ^ (i + 1) = 2 ^ i * 2 := Nat.pow_succ 2 i
    rw [e1] at h1
    rw [e2]
    unfold cS
    rw [show k - i - 1 = k - (i + 1) by omega]
    obtain ⟨y, hyy⟩ : ∃ y, 2 ^ (k - (i + 1)) = y := ⟨_, rfl⟩
    obtain ⟨w, hw⟩ : ∃ w, 2 ^ i = w := ⟨_, rfl⟩
    rw [hyy] at h1 ⊢
    rw [hw] at h2 ⊢
    by_cases q : z.1 < y
    · cases m.testBit i
      · simp only [Bool.false_eq_true, if_false, if_pos q]; exact ⟨by omega, by omega⟩
      · simp only [if_true, if_pos q]; exact ⟨by omega, by omega⟩
    · cases m.testBit i
      · simp only [Bool.false_eq_true, if_false, if_neg q]; exact ⟨by omega, by omega⟩
      · simp only [if_true, if_neg q]; exact ⟨by omega, by omega⟩
set_option maxHeartbeats 400000 in
theorem p_cf {k m a : Nat} (hk : k < 7) (hm : m < 64) (ha : a < 2 ^ k) (A : Bk) : gX6_folded (nI k) (nI m) (nI a) A = some (nI (2 * (cF k m a k).2.1 + bN (cF k m a k).2.2), A) := by
  have h64 : 2 ^ k ≤ 64 := by
    have : ∀ k, k < 7 → 2 ^ k ≤ 64 := by decide
    exact this k hk
  rw [cf_eq]
  unfold cf1
  refine loopF k (fun i => cE (cF k m a i) i) (fun _ => A) rfl rfl (fun i hi f => ?_) (fun f => ?_) (by omega)
  · obtain ⟨h1, h2⟩ := cF_in (m := m) hk ha i (by omega)
    refine cf_step hk hm hi ?_ h2 f A
    have e1 : (2 : Nat) ^ (k - i) = 2 * 2 ^ (k - i - 1) := by rw [Nat.mul_comm, ← Nat.pow_succ]; congr 1; omega
    rw [← e1]; exact h1
  · obtain ⟨h1, h2⟩ := cF_in (m := m) hk ha k (Nat.le_refl _)
    have hb := bN_lt (cF k m a k).2.2
    unfold cf1B cE
    simp (disch := first | omega | (simp only [up_ap, List.length_set, Nat.reduceEqDiff, reduceIte] <;> omega)) only [Int32.le_refl, bd_pr, pr_ap, jn_eq, lt_eq, bd_bd, bd_ite, ite_ap, bd_ld, bd_sv, bd_la, bd_sa, bd_ln, bd_rz0, bd_rz1, rz_n0, rz_n1, e_lit2, nI_z, nI_eq0, nI_0eq, nI_le0, nI_lt0, nI_0lt, nI_0le, e_001, e_n10, e_n1lt, bd_la0, bd_sa0, bd_rz00, rz_0, rz_1, b2i_0, Int32.add_zero, Int32.zero_add, nI_add, nI_pred2, pk_sub, pk_mul, pk_div, e_nz, nI_eq, nI_leI, nI_ltI, e_nm1, e_nm2, up_ap, gd_set_ne, gd_set_same, List.length_set, Nat.add_sub_cancel, Nat.reduceEqDiff, Nat.reduceAdd, Nat.reduceMul, Nat.reduceSub, Nat.reduceLT, Nat.reduceLeDiff, reduceIte, Nat.not_lt_zero, not_true_eq_false, not_false_eq_true, and_true, true_and, and_false, false_and, pr_ap]
def chk (k m : Nat) : Bool := (List.range (2 ^ k)).all fun a => let s := cF k m a k; decide (s.2.1 < 2 ^ k) && decide (fN k m k s.2.1 = (a, s.2.2))
def chi (k m : Nat) : Bool := (List.range (2 ^ k)).all fun q => let x := fN k m k q; decide (x.1 < 2 ^ k) && decide ((cF k m x.1 k).2 = (q, x.2))
theorem chk_all : ∀ k, k < 7 → ∀ m, m < 64 → (chk k m && chi k m) = true := by decide +kernel
