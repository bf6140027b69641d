/-! PURE: meets -/
def mA1B (y6 : Int32) (x2 : Int32) (x3 : Int32) : (Int32 → MM Int32) → Int32 → MM Int32 := fun (self7 : Int32 → MM Int32) (s8 : Int32) =>
  (if y6 ≤ s8 then
  pr ((-1))
  else
  bd (lf rh0 0 (gX6_meetsInRound y6 s8 x2)) fun r9 =>
  (if r9 = x3 then
  pr s8
  else
  lt (s8 + 1) fun y10 =>
  self7 y10))
def mA1 (y6 : Int32) (x2 : Int32) (x3 : Int32) : MM Int32 := loopC 100000 (mA1B y6 x2 x3) 0
theorem mA_eq (x1 x2 x3 : Int32) : gX10_meets x1 x2 x3 =
  bd (lf rh0 0 (gX10_isWithin x1 2 13)) fun r1 =>
  jn (fun (a3 : Unit) =>
  pr ((-1))) (fun j2 =>
  (if r1 = 0 then
  j2 ()
  else
  bd (lf rh0 0 (gX10_isWithin x2 0 (x1 - 1))) fun r4 =>
  (if r4 = 0 then
  j2 ()
  else
  bd (lf rh0 0 (gX10_isWithin x3 0 (x1 - 1))) fun r5 =>
  (if r5 = 0 then
  j2 ()
  else
  (if x2 = x3 then
  j2 ()
  else
  nz 2 (
  lt ((x1 + (irm x1 2)) - 1) fun y6 =>
  (mA1 y6 x2 x3))))))) := rfl
def mB1B (y1 : Int32) (x2 : Int32) (x3 : Int32) : (Int32 → MM Int32) → Int32 → MM Int32 := fun (self7 : Int32 → MM Int32) (s8 : Int32) =>
  bd (gX11_meetsOf y1 s8 x2) fun r9 =>
  (if r9 = x3 then
  pr s8
  else
  lt (s8 + 1) fun y10 =>
  self7 y10)
def mB1 (y1 : Int32) (x2 : Int32) (x3 : Int32) : MM Int32 := loopC 100000 (mB1B y1 x2 x3) 0
theorem mB_eq (x1 x2 x3 : Int32) : gX11_meets x1 x2 x3 =
  bd (sv 0 0 0) fun _ =>
  nz 2 (
  lt (x1 + (irm x1 2)) fun y1 =>
  bd (gX11_isIn x1 2 13) fun r2 =>
  jn (fun (a4 : Unit) =>
  pr ((-1))) (fun j3 =>
  (if r2 = 0 then
  j3 ()
  else
  bd (gX11_isIn x2 0 (x1 - 1)) fun r5 =>
  (if r5 = 0 then
  j3 ()
  else
  bd (gX11_isIn x3 0 (x1 - 1)) fun r6 =>
  (if r6 = 0 then
  j3 ()
  else
  (if x2 = x3 then
  j3 ()
  else
  (mB1 y1 x2 x3))))))) := rfl
theorem St_told {g f : MM Int32} (hf : St f) (hg : ∀ B : Bk, (B 0).length = 68 → g B = f (up B 0 ((B 0).set 0 0))) {r : Int32} (he : (g (fun _ => List.replicate 68 0)).map (fun q => q.1) = some r) (B : Bk) (h : (B 0).length = 68) : g B = some (r, up B 0 ((B 0).set 0 0)) := by
  rw [hg B h]
  rw [hg _ (by simp)] at he
  obtain ⟨x, hx⟩ := hf
  cases x with
  | none => rw [hx] at he; cases he
  | some a => rw [hx] at he; cases he; rw [hx]; rfl
theorem St_isIn (v lo hi : Int32) : St (gX11_isIn v lo hi) := ⟨some (b2i (lo ≤ v ∧ v ≤ hi)), fun A => p_isIn v lo hi A⟩
theorem St_X10_meets (x1 x2 x3 : Int32) : St (gX10_meets x1 x2 x3) := by
  unfold gX10_meets
  repeat' (first | with_reducible exact St_pr _ | with_reducible exact St_isWithin _ _ _ | with_reducible exact St_X6_meetsInRound _ _ _ | with_reducible apply St_ite | with_reducible apply St_nz | with_reducible apply St_lt | with_reducible apply St_jn | with_reducible apply St_loop | with_reducible apply St_bd | with_reducible apply St_lf | intro _ | with_reducible apply_assumption)
def meets_c (n i j : Nat) : Option Int32 := (gX10_meets (nI (2 + n)) (nI i) (nI j) (fun _ => [])).map (fun q => q.1)
def meets_m (n i j : Nat) : Option Int32 := (gX11_meets (nI (2 + n)) (nI i) (nI j) (fun _ => List.replicate 68 0)).map (fun q => q.1)
theorem meets_b : ∀ n : Nat, n < 12 → ∀ i : Nat, i < 13 → ∀ j : Nat, j < 13 → (decide (meets_c n i j = meets_m n i j) && (meets_m n i j).isSome) = true := by decide +kernel
theorem meets_t (n i j : Int32) : ∃ f : MM Int32, St f ∧ ∀ B : Bk, (B 0).length = 68 → gX11_meets n i j B = f (up B 0 ((B 0).set 0 0)) := by
  unfold gX11_meets
  refine ⟨_, ?_, fun B h => told0 _ h⟩
  repeat' (first | with_reducible exact St_pr _ | with_reducible exact St_isIn _ _ _ | with_reducible exact St_meetsOf _ _ _ | with_reducible apply St_ite | with_reducible apply St_nz | with_reducible apply St_lt | with_reducible apply St_jn | with_reducible apply St_loop | with_reducible apply St_bd | intro _ | with_reducible apply_assumption)

set_option maxHeartbeats 400000 in
theorem meets_no {n i j : Int32} {A B : Bk} (h : (B 0).length = 68) (hc : ¬ ((2 ≤ n ∧ n ≤ 13) ∧ (0 ≤ i ∧ i ≤ n - 1) ∧ (0 ≤ j ∧ j ≤ n - 1))) : gX10_meets n i j A = some (-1, A) ∧ gX11_meets n i j B = some (-1, up B 0 ((B 0).set 0 0)) := by
  have n2 : ¬ (2 : Int32) = 0 := by decide
  have k1 : ¬ nI 1 = (0 : Int32) := by decide
  rw [mA_eq, mB_eq, bd_iw, told0 _ h]
  simp only [nz_fn n2, lt_eq, jn_eq]
  rw [bd_in]
  by_cases hn : 2 ≤ n ∧ n ≤ 13
  · rw [b2i_t hn, if_neg k1, if_neg k1, bd_iw, bd_in]
    by_cases hi : 0 ≤ i ∧ i ≤ n - 1
    · have hj : ¬ (0 ≤ j ∧ j ≤ n - 1) := fun hj => hc ⟨hn, hi, hj⟩
      rw [b2i_t hi, if_neg k1, if_neg k1, bd_iw, bd_in, b2i_f hj]
      exact ⟨rfl, rfl⟩
    · rw [b2i_f hi]
      exact ⟨rfl, rfl⟩
  · rw [b2i_f hn]
    exact ⟨rfl, rfl⟩
set_option maxHeartbeats 400000 in
theorem meets_v {n i j : Int32} {A B : Bk} (h : (B 0).length = 68) (hc : (2 ≤ n ∧ n ≤ 13) ∧ (0 ≤ i ∧ i ≤ n - 1) ∧ (0 ≤ j ∧ j ≤ n - 1)) : ∃ v, gX10_meets n i j A = some (v, A) ∧ gX11_meets n i j B = some (v, up B 0 ((B 0).set 0 0)) := by
  obtain ⟨hn, hi, hj⟩ := hc
  obtain ⟨q, q1, q2, rfl⟩ := nI_rng (lo := 2) (hi := 13) (by decide) (by decide) hn.1 hn.2
  obtain ⟨k, rfl⟩ : ∃ k, q = 2 + k := ⟨q - 2, by omega⟩
  have hk : k < 12 := by omega
  obtain ⟨-, -, e3⟩ := rounds_n k hk
  rw [e3] at hi hj
  obtain ⟨a, -, a2, rfl⟩ := nI_rng (lo := 0) (hi := 1 + k) (by omega) (by omega) hi.1 hi.2
  obtain ⟨c, -, c2, rfl⟩ := nI_rng (lo := 0) (hi := 1 + k) (by omega) (by omega) hj.1 hj.2
  have hb := meets_b k hk a (by omega) c (by omega)
  simp only [Bool.and_eq_true, decide_eq_true_eq] at hb
  obtain ⟨v1, v2⟩ := hb
  cases hv : meets_m k a c with
  | none => rw [hv] at v2; cases v2
  | some v =>
    rw [hv] at v1
    obtain ⟨f, hf, hg⟩ := meets_t (nI (2 + k)) (nI a) (nI c)
    exact ⟨v, St_val (St_X10_meets _ _ _) v1 A, St_told hf hg hv B h⟩
set_option maxHeartbeats 400000 in
theorem op_meets {A B : Bk} (h : R A B) (n i j : Int32) : ∃ r A' B', gX10_meets n i j A = some (r, A') ∧ gX11_meets n i j B = some (r, B') ∧ R A' B' := by
  have hb0 := R_B0 h
  have hRt := R_told h
  by_cases hc : (2 ≤ n ∧ n ≤ 13) ∧ (0 ≤ i ∧ i ≤ n - 1) ∧ (0 ≤ j ∧ j ≤ n - 1)
  · obtain ⟨v, g1, g2⟩ := meets_v (A := A) hb0 hc
    exact ⟨v, A, _, g1, g2, hRt⟩
  · obtain ⟨g1, g2⟩ := meets_no (A := A) hb0 hc
    exact ⟨-1, A, _, g1, g2, hRt⟩
