/-! PURE: the start -/
theorem RT_0 {c row arr : List Int32} {n : Int32} {cap : Nat} {ok : Int32 → Prop} (h : c.length = 2 ∧ row.length = cap ∧ arr.length = cap ∧ c.getD 0 0 = 0 ∧ n = 0) : RT c row n arr cap ok := ⟨h.1, h.2.1, h.2.2.1, 0, Nat.zero_le _, h.2.2.2.1, h.2.2.2.2, fun i hi => absurd hi (Nat.not_lt_zero i)⟩
theorem R_start : R sb_X10_init sb_X11_init := by
  refine ⟨⟨0, 0, 0, fun _ => [], fun _ => 0, ⟨⟨?_, ⟨by decide, by decide +kernel⟩, ⟨by decide +kernel, by decide +kernel⟩, ?_⟩, ?_⟩, ?_⟩, ?_, ?_, ?_, ?_⟩
  · refine ⟨by unfold WL; decide +kernel, by decide +kernel, by decide +kernel, ⟨0, by decide, by decide +kernel⟩, by unfold Sw; decide +kernel, by decide +kernel, fun t h => absurd h (Nat.not_lt_zero t), fun t h => absurd h (Nat.not_lt_zero t), fun t h => absurd h (Nat.not_lt_zero t), ⟨fun t h => absurd h (Nat.not_lt_zero t), fun t h => absurd h (Nat.not_lt_zero t), fun c t h => absurd h (Nat.not_lt_zero c)⟩⟩
  · refine ⟨by decide +kernel, ?_, ?_, ?_, ?_, by decide +kernel⟩
    · exact ⟨by decide +kernel, by decide +kernel, 0, 0, by decide, by decide, by decide +kernel, by decide +kernel, fun i h => absurd h (Nat.not_lt_zero i), fun i h => absurd h (Nat.not_lt_zero i)⟩
    · exact ⟨by decide +kernel, 0, by decide, by decide +kernel, by decide +kernel, fun i h => absurd h (Nat.not_lt_zero i)⟩
    · exact ⟨by decide +kernel, 0, by decide, by decide +kernel, by decide +kernel, fun i h => absurd h (Nat.not_lt_zero i)⟩
    · exact ⟨by decide +kernel, 0, by decide, by decide +kernel, by decide +kernel, fun i h => absurd h (Nat.not_lt_zero i), by decide +kernel⟩
  · exact ⟨RT_0 (by decide +kernel), RT_0 (by decide +kernel), RT_0 (by decide +kernel), RT_0 (by decide +kernel), RT_0 (by decide +kernel)⟩
  · refine ⟨by decide +kernel, by decide +kernel, by decide +kernel, 0, by decide, by decide +kernel, by decide +kernel, fun i => wls.getD i 0, by decide +kernel, by unfold WL; decide +kernel, ?_, fun i h => absurd h (Nat.not_lt_zero i)⟩
    have : ∀ i, i < 6 → ∀ j, j < 6 → wls.getD i 0 = wls.getD j 0 → i = j := by decide
    exact fun i j hi hj => this i hi j hj
  · exact ⟨by decide +kernel, by decide +kernel, by decide +kernel, by decide +kernel, by decide +kernel, 0, by decide, by decide +kernel, by decide +kernel, fun i h => absurd h (Nat.not_lt_zero i)⟩
  · exact ⟨by decide +kernel, by unfold HL WL; decide +kernel, Or.inl (by decide +kernel)⟩
  · unfold SCA WL; decide +kernel
  · unfold SCB; decide +kernel
