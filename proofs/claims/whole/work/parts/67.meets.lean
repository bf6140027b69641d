/-! PURE: meets -/
theorem St_told {g f : MM Int32} (hf : St f) (hg : ∀ B : Bk, (B 0).length = 68 → g B = f (up B 0 ((B 0).set 0 0))) {r : Int32} (he : (g (fun _ => List.replicate 68 0)).map (fun q => q.1) = some r) (B : Bk) (h : (B 0).length = 68) : g B = some (r, up B 0 ((B 0).set 0 0)) := by
  rw [hg B h]
  rw [hg _ (by simp)] at he
  obtain ⟨x, hx⟩ := hf
  cases x with
  | none => rw [hx] at he; cases he
  | some a => rw [hx] at he; cases he; rw [hx]; rfl
theorem St_isIn (v lo hi : Int32) : St (gX11_isIn v lo hi) := ⟨some (b2i (lo ≤ v ∧ v ≤ hi)), fun A => p_isIn v lo hi A⟩
theorem St_X10_meets (x1 x2 x3 : Int32) : St (gX10_meets x1 x2 x3) := by
  unfold gX10_meets
  repeat' (first | with_reducible exact St_pr _ | with_reducible exact St_isWithin _ _ _ | with_reducible exact St_X6_meetsInRound _ _ _ | with_reducible apply St_ite | with_reducible apply St_nz | with_reducible apply St_lt | with_reducible apply St_jn | with_reducible apply St_loop | with_reducible apply St_bd | with_reducible apply St_lf | intro _ | with_reducible apply_assumption)
def meets_c (n i j : Nat) : Option Int32 := (gX10_meets (nI (2 + n)) (nI i) (nI j) (fun _ => [])).map (fun q => q.1)
def meets_m (n i j : Nat) : Option Int32 := (gX11_meets (nI (2 + n)) (nI i) (nI j) (fun _ => List.replicate 68 0)).map (fun q => q.1)
theorem meets_b : ∀ n : Nat, n < 12 → ∀ i : Nat, i < 13 → ∀ j : Nat, j < 13 → (decide (meets_c n i j = meets_m n i j) && (meets_m n i j).isSome) = true := by decide +kernel
theorem meets_t (n i j : Int32) : ∃ f : MM Int32, St f ∧ ∀ B : Bk, (B 0).length = 68 → gX11_meets n i j B = f (up B 0 ((B 0).set 0 0)) := by
  unfold gX11_meets
  refine ⟨_, ?_, fun B h => told0 _ h⟩
  repeat' (first | with_reducible exact St_pr _ | with_reducible exact St_isIn _ _ _ | with_reducible exact St_meetsOf _ _ _ | with_reducible apply St_ite | with_reducible apply St_nz | with_reducible apply St_lt | with_reducible apply St_jn | with_reducible apply St_loop | with_reducible apply St_bd | intro _ | with_reducible apply_assumption)
theorem op_meets (n i j : Int32) (A B : Bk) (h : (B 0).length = 68) : ∃ v, gX10_meets n i j A = some (v, A) ∧ gX11_meets n i j B = some (v, up B 0 ((B 0).set 0 0)) := by
  by_cases hc : (2 ≤ n ∧ n ≤ 13) ∧ (0 ≤ i ∧ i ≤ n - 1) ∧ (0 ≤ j ∧ j ≤ n - 1)
  · obtain ⟨hn, hi, hj⟩ := hc
    obtain ⟨q, q1, q2, rfl⟩ := nI_rng (lo := 2) (hi := 13) (by decide) (by decide) hn.1 hn.2
    obtain ⟨k, rfl⟩ : ∃ k, q = 2 + k := ⟨q - 2, by omega⟩
    have hk : k < 12 := by omega
    obtain ⟨-, -, e3⟩ := rounds_n k hk
    rw [e3] at hi hj
    obtain ⟨a, -, a2, rfl⟩ := nI_rng (lo := 0) (hi := 1 + k) (by omega) (by omega) hi.1 hi.2
    obtain ⟨c, -, c2, rfl⟩ := nI_rng (lo := 0) (hi := 1 + k) (by omega) (by omega) hj.1 hj.2
    have hb := meets_b k hk a (by omega) c (by omega)
    simp only [Bool.and_eq_true, decide_eq_true_eq] at hb
    obtain ⟨v1, v2⟩ := hb
    cases hv : meets_m k a c with
    | none => rw [hv] at v2; cases v2
    | some v =>
      rw [hv] at v1
      obtain ⟨f, hf, hg⟩ := meets_t (nI (2 + k)) (nI a) (nI c)
      exact ⟨v, St_val (St_X10_meets _ _ _) v1 A, St_told hf hg hv B h⟩
  · have n2 : ¬ (2 : Int32) = 0 := by decide
    unfold gX10_meets gX11_meets
    rw [bd_iw, told0 _ h]
    simp only [nz_fn n2, lt_eq, jn_eq, b2i_0]
    rw [bd_in]
    simp only [b2i_0]
    by_cases hn : 2 ≤ n ∧ n ≤ 13
    · simp only [hn, and_self, not_true_eq_false, if_false]
      rw [bd_iw, bd_in]
      simp only [b2i_0]
      by_cases hi : 0 ≤ i ∧ i ≤ n - 1
      · simp only [hi, and_self, not_true_eq_false, if_false]
        rw [bd_iw, bd_in]
        have hj : ¬ (0 ≤ j ∧ j ≤ n - 1) := fun hj => hc ⟨hn, hi, hj⟩
        simp only [b2i_0, hj, not_false_eq_true, if_true]
        exact ⟨_, rfl, rfl⟩
      · simp only [hi, not_false_eq_true, if_true]
        exact ⟨_, rfl, rfl⟩
    · simp only [hn, not_false_eq_true, if_true]
      exact ⟨_, rfl, rfl⟩
