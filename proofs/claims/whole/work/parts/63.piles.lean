/-! PURE: dealt, piles -/
theorem loopC_s {σ β : Type} (n : Nat) (F : (σ → MM β) → σ → MM β) (s : σ) : loopC (n + 1) F s = F (loopC n F) s := rfl
theorem b2i_0 {c : Prop} [Decidable c] : (b2i c = 0) = ¬ c := by
  unfold b2i
  by_cases h : c
  · simp [h]
  · simp [h]
theorem nz_fn {α : Type} {b : Int32} (h : ¬ b = 0) (k : MM α) : nz b k = k := by funext A; simp [nz, h]
/-- the first thing each method of the reference does -/
theorem told0 {β : Type} {B : Bk} (K : Unit → MM β) (h : (B 0).length = 68) : bd (sv 0 0 0) K B = K () (up B 0 ((B 0).set 0 0)) := bd_sv K (by rw [h]; decide)
theorem bd_iw {β : Type} {A : Bk} (ρ : Nat → Nat) (n : Nat) (v lo hi : Int32) (K : Int32 → MM β) : bd (lf ρ n (gX10_isWithin v lo hi)) K A = K (b2i (lo ≤ v ∧ v ≤ hi)) A := bd_lf0 K (p_isWithin v lo hi _)
theorem bd_iw' {β : Type} {A : Bk} (v lo hi : Int32) (K : Int32 → MM β) : bd (gX10_isWithin v lo hi) K A = K (b2i (lo ≤ v ∧ v ≤ hi)) A := bd_some (p_isWithin v lo hi A)
theorem bd_in {β : Type} {A : Bk} (v lo hi : Int32) (K : Int32 → MM β) : bd (gX11_isIn v lo hi) K A = K (b2i (lo ≤ v ∧ v ≤ hi)) A := bd_some (p_isIn v lo hi A)
theorem op_dealt (t : Int32) (A B : Bk) (h : (B 0).length = 68) : ∃ r, gX10_dealt t A = some (r, A) ∧ gX11_dealt t B = some (r, up B 0 ((B 0).set 0 0)) := by
  unfold gX10_dealt gX11_dealt
  rw [bd_iw, told0 _ h, bd_in]
  simp only [jn_eq, b2i_0]
  by_cases hc : 0 ≤ t ∧ t ≤ 26
  · simp only [hc, and_self, not_true_eq_false, if_false]
    simp only [nz_ne _ _ (show ¬ (3 : Int32) = 0 by decide), nz_ne _ _ (show ¬ (9 : Int32) = 0 by decide)]
    exact ⟨_, rfl, rfl⟩
  · simp only [hc, not_false_eq_true, if_true]
    exact ⟨_, rfl, rfl⟩
theorem nI_rng {x : Int32} {lo hi : Nat} (hl : lo ≤ hi) (hh : hi < 2 ^ 31) (h1 : nI lo ≤ x) (h2 : x ≤ nI hi) : ∃ j : Nat, lo ≤ j ∧ j ≤ hi ∧ x = nI j := by
  have hl2 : lo < 2 ^ 31 := by omega
  have h0 : ¬ x < 0 := by
    intro h
    rw [Int32.le_iff_toInt_le, nI_toInt hl2] at h1
    rw [Int32.lt_iff_toInt_lt] at h
    simp at h
    omega
  obtain ⟨j, hj, rfl⟩ := nI_of h0
  exact ⟨j, (nI_leI hl2 hj).mp h1, (nI_leI hj hh).mp h2, rfl⟩
theorem piles_d : ∀ n : Nat, n < 223 → irm (nI (1000 + n) / 100) 10 ≤ 2 ∧ irm (nI (1000 + n) / 1) 10 = irm (nI (1000 + n)) 10 := by decide +kernel
theorem op_piles (c x : Int32) (A B : Bk) (h : (B 0).length = 68) : ∃ r, gX10_piles c x A = some (r, A) ∧ gX11_piles c x B = some (r, up B 0 ((B 0).set 0 0)) := by
  unfold gX10_piles gX11_piles
  rw [bd_iw, told0 _ h, bd_in]
  simp only [jn_eq, b2i_0]
  by_cases hc : 0 ≤ c ∧ c ≤ 26
  · simp only [hc, and_self, not_true_eq_false, if_false]
    have n3 : ¬ (3 : Int32) = 0 := by decide
    have n10 : ¬ (10 : Int32) = 0 := by decide
    have n100 : ¬ (100 : Int32) = 0 := by decide
    have n1 : ¬ (1 : Int32) = 0 := by decide
    simp only [nz_fn n3, nz_fn n10, nz_fn n100, nz_fn n1, lt_eq]
    have hdt : ∀ T : Bk, ∃ r, gX6_dealtTo c x T = some (r, T) ∧ ∀ B : Bk, bd (gX11_isIn x 1000 1222) (fun r4 => if r4 = 0 then pr (-1) else (if 2 < irm x 10 then pr (-1) else (if irm (x / 10) 10 ≤ 2 then pr (9 * irm x 10 + (9 * irm (x / 10) 10 + (9 * irm (x / 100) 10 + c / 3) / 3) / 3) else pr (-1)))) B = some (r, B) := by
      intro T
      unfold gX6_dealtTo
      rw [bd_iw']
      simp only [b2i_0]
      by_cases hp : 1000 ≤ x ∧ x ≤ 1222
      · simp only [hp, and_self, not_true_eq_false, if_false]
        obtain ⟨j, j1, j2, rfl⟩ := nI_rng (lo := 1000) (hi := 1222) (by decide) (by decide) hp.1 hp.2
        obtain ⟨n, rfl⟩ : ∃ n, j = 1000 + n := ⟨j - 1000, by omega⟩
        obtain ⟨d1, d2⟩ := piles_d n (by omega)
        have q1 : (100 : Int32) / 10 = 10 := by decide
        have q2 : (10 : Int32) / 10 = 1 := by decide
        have c0 : ¬ (3 : Int32) ≤ 0 := by decide
        have c1 : ¬ (3 : Int32) ≤ 0 + 1 := by decide
        have c2 : ¬ (3 : Int32) ≤ 0 + 1 + 1 := by decide
        have c3 : (3 : Int32) ≤ 0 + 1 + 1 + 1 := by decide
        obtain ⟨N, hN⟩ : ∃ N : Nat, (100000 : Nat) = N + 1 + 1 + 1 + 1 := ⟨99996, rfl⟩
        rw [hN]
        simp only [loopC_s, jn_eq, lt_eq, c0, c1, c2, c3, if_false, if_true, n100, n10, n1, q1, q2, nz_fn n3, nz_fn n10, nz_fn n100, nz_fn n1, d1, d2]
        have hp' : (1000 : Int32) ≤ nI (1000 + n) ∧ nI (1000 + n) ≤ 1222 := hp
        by_cases e2 : irm (nI (1000 + n) / 10) 10 ≤ 2
        · by_cases e3 : irm (nI (1000 + n)) 10 ≤ 2
          · have e4 : ¬ 2 < irm (nI (1000 + n)) 10 := Int32.not_lt.mpr e3
            simp only [e2, e3, if_true]
            refine ⟨_, rfl, fun B => ?_⟩
            rw [bd_in]
            simp only [b2i_0, hp', and_self, not_true_eq_false, if_false, e4, if_true]
            rfl
          · have e4 : 2 < irm (nI (1000 + n)) 10 := Int32.not_le.mp e3
            simp only [e2, e3, if_true, if_false]
            refine ⟨_, rfl, fun B => ?_⟩
            rw [bd_in]
            simp only [b2i_0, hp', and_self, not_true_eq_false, if_false, e4, if_true]
            rfl
        · simp only [e2, if_false]
          refine ⟨_, rfl, fun B => ?_⟩
          rw [bd_in]
          simp only [b2i_0, hp', and_self, not_true_eq_false, if_false]
          by_cases e4 : 2 < irm (nI (1000 + n)) 10
          · simp only [e4, if_true]; rfl
          · simp only [e4, if_false]; rfl
      · simp only [hp, not_false_eq_true, if_true]
        refine ⟨-1, rfl, fun B => ?_⟩
        rw [bd_in]
        simp only [b2i_0, hp, not_false_eq_true, if_true]
        rfl
    obtain ⟨r, h1, h2⟩ := hdt (fun i => A (rh0 i))
    rw [bd_lf0 _ h1]
    exact ⟨r, rfl, h2 _⟩
  · simp only [hc, not_false_eq_true, if_true]
    exact ⟨_, rfl, rfl⟩
