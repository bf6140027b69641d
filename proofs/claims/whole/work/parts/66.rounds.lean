/-! PURE: rounds -/
theorem St_meetsOf (x1 x2 x3 : Int32) : St (gX11_meetsOf x1 x2 x3) := by
  unfold gX11_meetsOf
  repeat' (first | with_reducible exact St_pr _ | with_reducible apply St_ite | with_reducible apply St_nz | with_reducible apply St_lt | with_reducible apply St_jn | intro _ | with_reducible apply_assumption)
theorem rounds_n : ∀ n : Nat, n < 12 → ((nI (2 + n) + irm (nI (2 + n)) 2) - 1) - 1 = (nI (2 + n) + irm (nI (2 + n)) 2) - 2 ∧ (nI (2 + n) + irm (nI (2 + n)) 2) - 2 ≤ nI 12 ∧ nI (2 + n) - 1 = nI (1 + n) := by decide +kernel
def rounds_c (n r i : Nat) : Option Int32 := (gX6_meetsInRound ((nI (2 + n) + irm (nI (2 + n)) 2) - 1) (nI r) (nI i) (fun _ => [])).map (fun q => q.1)
def rounds_m (n r i : Nat) : Option Int32 := (gX11_meetsOf (nI (2 + n) + irm (nI (2 + n)) 2) (nI r) (nI i) (fun _ => [])).map (fun q => q.1)
def rounds_k (n r i : Nat) : Bool := !(decide (nI r ≤ (nI (2 + n) + irm (nI (2 + n)) 2) - 2) && decide (nI i ≤ nI (1 + n))) || (decide (rounds_c n r i = rounds_m n r i) && (rounds_m n r i).isSome)
theorem rounds_b : ∀ n : Nat, n < 12 → ∀ r : Nat, r < 13 → ∀ i : Nat, i < 13 → rounds_k n r i = true := by decide +kernel
theorem rounds_v {n r i : Nat} (hn : n < 12) (hr : r < 13) (hi : i < 13) (h1 : nI r ≤ (nI (2 + n) + irm (nI (2 + n)) 2) - 2) (h2 : nI i ≤ nI (1 + n)) : rounds_c n r i = rounds_m n r i ∧ (rounds_m n r i).isSome = true := by
  have h := rounds_b n hn r hr i hi
  simpa [rounds_k, h1, h2] using h
theorem op_rounds (n r i : Int32) (A B : Bk) (h : (B 0).length = 68) : ∃ v, gX10_rounds n r i A = some (v, A) ∧ gX11_rounds n r i B = some (v, up B 0 ((B 0).set 0 0)) := by
  have n2 : ¬ (2 : Int32) = 0 := by decide
  unfold gX10_rounds gX11_rounds
  rw [bd_iw, told0 _ h]
  simp only [nz_fn n2, lt_eq, jn_eq, b2i_0]
  rw [bd_in]
  simp only [b2i_0]
  by_cases hn : 2 ≤ n ∧ n ≤ 13
  · simp only [hn, and_self, not_true_eq_false, if_false]
    obtain ⟨j, j1, j2, rfl⟩ := nI_rng (lo := 2) (hi := 13) (by decide) (by decide) hn.1 hn.2
    obtain ⟨k, rfl⟩ : ∃ k, j = 2 + k := ⟨j - 2, by omega⟩
    have hk : k < 12 := by omega
    obtain ⟨e1, e2, e3⟩ := rounds_n k hk
    rw [bd_iw, bd_in]
    simp only [b2i_0]
    by_cases hi : 0 ≤ i ∧ i ≤ nI (2 + k) - 1
    · simp only [hi, and_self, not_true_eq_false, if_false]
      rw [bd_iw]
      simp only [b2i_0, e1]
      by_cases hr : 0 ≤ r ∧ r ≤ (nI (2 + k) + irm (nI (2 + k)) 2) - 2
      · simp only [hr, and_self, not_true_eq_false, if_false]
        rw [bd_in]
        simp only [b2i_0, hi, and_self, not_true_eq_false, if_false]
        obtain ⟨a, -, a2, rfl⟩ := nI_rng (lo := 0) (hi := 12) (by decide) (by decide) hr.1 (Int32.le_trans hr.2 e2)
        rw [e3] at hi
        obtain ⟨c, -, c2, rfl⟩ := nI_rng (lo := 0) (hi := 1 + k) (by omega) (by omega) hi.1 hi.2
        obtain ⟨v1, v2⟩ := rounds_v (n := k) (r := a) (i := c) hk (by omega) (by omega) hr.2 hi.2
        cases hv : rounds_m k a c with
        | none => rw [hv] at v2; cases v2
        | some v =>
          rw [hv] at v1
          rw [bd_lf0 _ (St_val (St_X6_meetsInRound _ _ _) v1 _), bd_some (St_val (St_meetsOf _ _ _) hv _)]
          by_cases hq : nI (2 + k) ≤ v
          · simp only [hq, if_true]; exact ⟨_, rfl, rfl⟩
          · simp only [hq, if_false]; exact ⟨_, rfl, rfl⟩
      · simp only [hr, not_false_eq_true, if_true]
        exact ⟨_, rfl, rfl⟩
    · simp only [hi, not_false_eq_true, if_true]
      by_cases hr : 0 ≤ r ∧ r ≤ (nI (2 + k) + irm (nI (2 + k)) 2) - 2
      · simp only [hr, and_self, not_true_eq_false, if_false]
        rw [bd_in]
        simp only [b2i_0, hi, not_false_eq_true, if_true]
        exact ⟨_, rfl, rfl⟩
      · simp only [hr, not_false_eq_true, if_true]
        exact ⟨_, rfl, rfl⟩
  · simp only [hn, not_false_eq_true, if_true]
    exact ⟨_, rfl, rfl⟩
