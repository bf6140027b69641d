/-! PURE: pages, how many lie there -/
theorem St_ones (x : Int32) : St (gX11_onesOf x) := by
  unfold gX11_onesOf
  repeat' (first | with_reducible exact St_pr _ | with_reducible apply St_ite | with_reducible apply St_nz | (with_reducible apply St_lt; intro _) | (with_reducible apply St_jn) | (with_reducible apply St_loop) | intro _ | with_reducible apply_assumption)
theorem St_bits (x : Int32) : St (gJ6_bitCount_0f7a4 x) := by
  unfold gJ6_bitCount_0f7a4
  repeat' (first | with_reducible exact St_pr _ | (with_reducible apply St_lt; intro _) | intro _)
def pop (s : Nat) : Nat := ((List.range 10).filter fun i => s.testBit i).length
theorem pop_d : ∀ s, s < 1024 → (gX11_onesOf (nI s) (fun _ => [])).map (fun q => q.1) = some (nI (pop s)) ∧ (gJ6_bitCount_0f7a4 (nI s) (fun _ => [])).map (fun q => q.1) = some (nI (pop s)) := by decide +kernel
theorem p_ones {s : Nat} (h : s < 1024) (B : Bk) : gX11_onesOf (nI s) B = some (nI (pop s), B) := St_val (St_ones _) (pop_d s h).1 B
theorem p_bits {s : Nat} (h : s < 1024) (A : Bk) : gJ6_bitCount_0f7a4 (nI s) A = some (nI (pop s), A) := St_val (St_bits _) (pop_d s h).2 A
