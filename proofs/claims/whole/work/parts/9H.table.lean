/-! PURE: table, the looks -/
def lk1B (x1 : Int32) (x2 : Int32) : (Int32 → MM Int32) → Int32 → MM Int32 := fun (self1 : Int32 → MM Int32) (s2 : Int32) =>
  (if x1 ≤ s2 then
  pr x1
  else
  bd (lf rh0 0 (gX6_placeBehind x1 x2 s2)) fun r3 =>
  bd (gX6_isPlace r3) fun r4 =>
  jn (fun (a6 : Unit) =>
  lt (s2 + 1) fun y7 =>
  self1 y7) (fun j5 =>
  (if r4 = 0 then
  j5 ()
  else
  bd (la 3 r3) fun v8 =>
  jn (fun (a10 : Unit) =>
  pr (s2 + 1)) (fun j9 =>
  (if v8 = ((-1)) then
  j9 ()
  else
  bd (la 3 r3) fun v11 =>
  (if v11 = x2 then
  j9 ()
  else
  j5 ()))))))
def lk1 (x1 : Int32) (x2 : Int32) : MM Int32 := loopC 100000 (lk1B x1 x2) 0
theorem lk_eq (x1 x2 : Int32) : gX6_looksFor x1 x2 =
  (lk1 x1 x2) := rfl
def lm1B (x1 : Int32) (x2 : Int32) : (Int32 × Int32 → MM Int32) → Int32 × Int32 → MM Int32 := fun (self2 : Int32 × Int32 → MM Int32) (s3 : Int32 × Int32) =>
  jn (fun (a5 : Unit) =>
  pr s3.1) (fun j4 =>
  (if x1 ≤ s3.1 then
  j4 ()
  else
  bd (la 31 s3.2) fun v6 =>
  (if v6 = 0 then
  j4 ()
  else
  bd (la 31 s3.2) fun v7 =>
  (if v7 = (x2 + 1) then
  j4 ()
  else
  nz x1 (
  lt (irm (s3.2 + 1) x1) fun y8 =>
  lt (s3.1 + 1) fun y9 =>
  self2 (y9, y8))))))
def lm1 (x1 : Int32) (x2 : Int32) (y1 : Int32) : MM Int32 := loopC 100000 (lm1B x1 x2) (1, y1)
theorem lm_eq (x1 x2 : Int32) : gX11_looksFor x1 x2 =
  nz x1 (
  lt (irm x2 x1) fun y1 =>
  (lm1 x1 x2 y1)) := rfl
/-- the table: 0 where nothing lies, else the key and one; both sides' cells -/
def TBL (a b : List Int32) (n : Nat) (tab : Nat → Nat) : Prop := a.length = 16 ∧ b.length = 16 ∧ ∀ p, p < n → tab p ≤ 100 ∧ a.getD p 0 = nI (tab p) - nI 1 ∧ b.getD p 0 = nI (tab p)
def hit (tab : Nat → Nat) (n x i : Nat) : Prop := tab ((x + i) % n) = 0 ∨ tab ((x + i) % n) = x + 1
/-- the first place that ends the looking, or n -/
theorem hit_ex (tab : Nat → Nat) (n x : Nat) : ∀ k, ∃ m, m ≤ k ∧ (∀ i, i < m → ¬ hit tab n x i) ∧ (m = k ∨ hit tab n x m)
  | 0 => ⟨0, Nat.le_refl _, fun i h => absurd h (Nat.not_lt_zero i), Or.inl rfl⟩
  | k + 1 => by
    obtain ⟨m, h1, h2, h3⟩ := hit_ex tab n x k
    by_cases hm : m = k
    · subst hm
      by_cases hh : hit tab n x m
      · exact ⟨m, by omega, h2, Or.inr hh⟩
      · refine ⟨m + 1, Nat.le_refl _, fun i hi => ?_, Or.inl rfl⟩
        by_cases e : i = m
        · subst e; exact hh
        · exact h2 i (by omega)
    · exact ⟨m, by omega, h2, Or.inr (h3.resolve_left hm)⟩
theorem t_m1 : ∀ v, v < 101 → (nI v - nI 1 = -nI 1 ↔ v = 0) := by decide +kernel
theorem t_mx {v x : Nat} (hv : v ≤ 100) (hx : x ≤ 99) : (nI v - nI 1 = nI x ↔ v = x + 1) := by
  by_cases h : v = 0
  · subst h
    constructor
    · intro z
      rw [show nI 0 - nI 1 = -nI 1 by decide] at z
      exact absurd z.symm (by rw [e_nm1 (by omega)]; exact id)
    · intro z; omega
  · rw [pk_sub (by omega), nI_eq (by omega) (by omega)]
    omega
set_option maxHeartbeats 400000 in
theorem p_place {n x i : Nat} (hn : 0 < n) (hn6 : n ≤ 16) (hx : x ≤ 99) (hi : i ≤ 16) (A : Bk) : gX6_placeBehind (nI n) (nI x) (nI i) A = some (nI ((x + i) % n), A) := by
  unfold gX6_placeBehind
  have e : irm (nI (x + i)) (nI n) = nI ((x + i) % n) := rem_e (by omega) hn (by omega)
  simp (disch := first | omega | (simp only [up_ap, List.length_set, Nat.reduceEqDiff, reduceIte] <;> omega)) only [Int32.le_refl, bd_pr, pr_ap, jn_eq, lt_eq, bd_bd, bd_ite, ite_ap, bd_ld, bd_sv, bd_la, bd_sa, bd_ln, bd_rz0, bd_rz1, rz_n0, rz_n1, e_lit2, nI_z, nI_eq0, nI_0eq, nI_le0, nI_lt0, nI_0lt, nI_0le, e_001, e_n10, e_n1lt, bd_la0, bd_sa0, bd_rz00, rz_0, rz_1, b2i_0, Int32.add_zero, Int32.zero_add, nI_add, nI_pred2, pk_sub, pk_mul, pk_div, e_nz, nI_eq, nI_leI, nI_ltI, e_nm1, e_nm2, up_ap, gd_set_ne, gd_set_same, List.length_set, Nat.add_sub_cancel, Nat.reduceEqDiff, Nat.reduceAdd, Nat.reduceMul, Nat.reduceSub, Nat.reduceLT, Nat.reduceLeDiff, reduceIte, Nat.not_lt_zero, not_true_eq_false, not_false_eq_true, and_true, true_and, and_false, false_and, hn, e]
set_option maxHeartbeats 400000 in
theorem p_isPlace {A : Bk} {p : Nat} (hl : (A 3).length = 16) (hp : p < 16) : gX6_isPlace (nI p) A = some (nI 1, A) := by
  have n1 : ¬ 16 ≤ p := by omega
  unfold gX6_isPlace
  simp (disch := first | omega | (simp only [up_ap, List.length_set, Nat.reduceEqDiff, reduceIte] <;> omega)) only [Int32.le_refl, bd_pr, pr_ap, jn_eq, lt_eq, bd_bd, bd_ite, ite_ap, bd_ld, bd_sv, bd_la, bd_sa, bd_ln, bd_rz0, bd_rz1, rz_n0, rz_n1, e_lit2, nI_z, nI_eq0, nI_0eq, nI_le0, nI_lt0, nI_0lt, nI_0le, e_001, e_n10, e_n1lt, bd_la0, bd_sa0, bd_rz00, rz_0, rz_1, b2i_0, Int32.add_zero, Int32.zero_add, nI_add, nI_pred2, pk_sub, pk_mul, pk_div, e_nz, nI_eq, nI_leI, nI_ltI, e_nm1, e_nm2, up_ap, gd_set_ne, gd_set_same, List.length_set, Nat.add_sub_cancel, Nat.reduceEqDiff, Nat.reduceAdd, Nat.reduceMul, Nat.reduceSub, Nat.reduceLT, Nat.reduceLeDiff, reduceIte, Nat.not_lt_zero, not_true_eq_false, not_false_eq_true, and_true, true_and, and_false, false_and, hl, n1]
set_option maxHeartbeats 400000 in
theorem p_lk {A : Bk} {b : List Int32} {n x m : Nat} {tab : Nat → Nat} (hT : TBL (A 3) b n tab) (hn : 0 < n) (hn6 : n ≤ 16) (hx : x ≤ 99) (hm : m ≤ n) (h1 : ∀ i, i < m → ¬ hit tab n x i) (h2 : m = n ∨ hit tab n x m) :
    gX6_looksFor (nI n) (nI x) A = some (nI (if m = n then n else m + 1), A) := by
  obtain ⟨ha, hb, ht⟩ := hT
  have lt : ∀ i, (x + i) % n < n := fun i => Nat.mod_lt _ hn
  rw [lk_eq]
  unfold lk1
  refine loopF m nI (fun _ => A) rfl rfl (fun j hj f => ?_) (fun f => ?_) (by omega)
  · obtain ⟨t1, t2, -⟩ := ht _ (lt j)
    have hl := lt j
    have nh := h1 j hj
    unfold lk1B
    rw [if_neg (show ¬ nI n ≤ nI j from fun z => by have := (nI_leI (by omega) (by omega)).mp z; omega), bd_lf0 _ (p_place hn hn6 hx (by omega) _), bd_some (p_isPlace ha (by omega))]
    simp only [jn_eq]
    rw [if_neg (show ¬ nI 1 = (0 : Int32) by decide), bd_la _ (by omega) (by omega), t2, if_neg (show ¬ nI (tab ((x + j) % n)) - nI 1 = (-1 : Int32) from fun z => nh (Or.inl ((t_m1 _ (by omega)).mp z))), bd_la _ (by omega) (by omega), t2, if_neg (fun z => nh (Or.inr ((t_mx t1 hx).mp z)))]
    show f (nI j + nI 1) A = _
    rw [nI_add]
  · unfold lk1B
    by_cases e : m = n
    · rw [if_pos e, e, if_pos (Int32.le_refl _)]; rfl
    · rw [if_neg e]
      obtain ⟨t1, t2, -⟩ := ht _ (lt m)
      have hl := lt m
      have hh := h2.resolve_left e
      rw [if_neg (show ¬ nI n ≤ nI m from fun z => by have := (nI_leI (by omega) (by omega)).mp z; omega), bd_lf0 _ (p_place hn hn6 hx (by omega) _), bd_some (p_isPlace ha (by omega))]
      simp only [jn_eq]
      rw [if_neg (show ¬ nI 1 = (0 : Int32) by decide), bd_la _ (by omega) (by omega), t2]
      by_cases z0 : tab ((x + m) % n) = 0
      · rw [if_pos (show nI (tab ((x + m) % n)) - nI 1 = (-1 : Int32) from (t_m1 _ (by omega)).mpr z0)]
        show some (nI m + nI 1, A) = _
        rw [nI_add]
      · rw [if_neg (show ¬ nI (tab ((x + m) % n)) - nI 1 = (-1 : Int32) from fun z => z0 ((t_m1 _ (by omega)).mp z)), bd_la _ (by omega) (by omega), t2, if_pos ((t_mx t1 hx).mpr (hh.resolve_left z0))]
        show some (nI m + nI 1, A) = _
        rw [nI_add]
