/-! PURE: table, the reference's looks -/
set_option maxHeartbeats 400000 in
theorem p_lm {B : Bk} {a : List Int32} {n x m : Nat} {tab : Nat → Nat} (hT : TBL a (B 31) n tab) (hn : 0 < n) (hn6 : n ≤ 16) (hx : x ≤ 99) (hm : m ≤ n) (h1 : ∀ i, i < m → ¬ hit tab n x i) (h2 : m = n ∨ hit tab n x m) :
    gX11_looksFor (nI n) (nI x) B = some (nI (if m = n then n else m + 1), B) := by
  obtain ⟨ha, hb, ht⟩ := hT
  have lt : ∀ i, (x + i) % n < n := fun i => Nat.mod_lt _ hn
  have n0 : ¬ nI n = (0 : Int32) := nI_ne0 hn (by omega)
  obtain ⟨k, hk⟩ : ∃ k, (if m = n then n - 1 else m) = k := ⟨_, rfl⟩
  have hkn : k + 1 ≤ n := by rw [← hk]; by_cases e : m = n <;> simp only [e, if_true, if_false] <;> omega
  have hkm : k ≤ m := by rw [← hk]; by_cases e : m = n <;> simp only [e, if_true, if_false] <;> omega
  have x1e : (nI x + 1 : Int32) = nI (x + 1) := by rw [show (1 : Int32) = nI 1 from rfl, nI_add]
  rw [lm_eq, nz_fn n0]
  simp only [lt_eq]
  rw [rem_e (by omega) hn (by omega)]
  unfold lm1
  refine loopF k (fun j => (nI (j + 1), nI ((x + j) % n))) (fun _ => B) rfl rfl (fun j hj f => ?_) (fun f => ?_) (by omega)
  · obtain ⟨t1, -, t3⟩ := ht _ (lt j)
    have hl := lt j
    have nh := h1 j (by omega)
    unfold lm1B
    simp only [jn_eq]
    rw [if_neg (show ¬ nI n ≤ nI (j + 1) from fun z => by have := (nI_leI (by omega) (by omega)).mp z; omega), bd_la _ (by omega) (by omega), t3, if_neg (show ¬ nI (tab ((x + j) % n)) = (0 : Int32) from fun z => nh (Or.inl ((nI_eq (b := 0) (by omega) (by omega)).mp z))), bd_la _ (by omega) (by omega), t3, x1e, if_neg (fun z => nh (Or.inr ((nI_eq (by omega) (by omega)).mp z))), nz_fn n0]
    simp only [lt_eq]
    rw [show (1 : Int32) = nI 1 from rfl, nI_add, nI_add, rem_e (by omega) hn (by omega), Nat.mod_add_mod, Nat.add_assoc x j 1]
  · obtain ⟨t1, -, t3⟩ := ht _ (lt k)
    have hl := lt k
    unfold lm1B
    simp only [jn_eq]
    by_cases e1 : n ≤ k + 1
    · have e2 : (if m = n then n else m + 1) = k + 1 := by rw [← hk] at e1 ⊢; by_cases e : m = n <;> simp only [e, if_true, if_false] at e1 ⊢ <;> omega
      rw [if_pos (show nI n ≤ nI (k + 1) from (nI_leI (by omega) (by omega)).mpr e1), e2]; rfl
    · have e3 : ¬ m = n := fun e => by rw [if_pos e] at hk; omega
      rw [if_neg e3] at hk ⊢
      subst hk
      have hh := h2.resolve_left e3
      rw [if_neg (show ¬ nI n ≤ nI (m + 1) from fun z => by have := (nI_leI (by omega) (by omega)).mp z; omega), bd_la _ (by omega) (by omega), t3]
      by_cases z0 : tab ((x + m) % n) = 0
      · rw [if_pos (show nI (tab ((x + m) % n)) = (0 : Int32) by rw [z0]; rfl)]; rfl
      · rw [if_neg (show ¬ nI (tab ((x + m) % n)) = (0 : Int32) from fun z => z0 ((nI_eq (b := 0) (by omega) (by omega)).mp z)), bd_la _ (by omega) (by omega), t3, x1e, if_pos (by rw [hh.resolve_left z0])]; rfl
