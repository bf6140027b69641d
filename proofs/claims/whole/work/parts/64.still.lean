/-! PURE: functions that neither read nor write cells: they answer the same in every bank, so a bank of nothing tells it -/
def St {α : Type} (f : MM α) : Prop := ∃ x : Option α, ∀ A : Bk, f A = x.map (fun r => (r, A))
theorem St_pr {α : Type} (a : α) : St (pr a) := ⟨some a, fun _ => rfl⟩
theorem St_fl {α : Type} : St (fl : MM α) := ⟨none, fun _ => rfl⟩
theorem St_rz (v : Int32) : St (rz v) := by
  by_cases h : v = 0 ∨ v = 1
  · exact ⟨some v, fun A => by simp [rz, h]⟩
  · exact ⟨none, fun A => by simp [rz, h]⟩
theorem St_ite {α : Type} {c : Prop} [Decidable c] {f g : MM α} (hf : St f) (hg : St g) : St (if c then f else g) := by
  by_cases h : c
  · rw [if_pos h]; exact hf
  · rw [if_neg h]; exact hg
theorem St_nz {α : Type} {b : Int32} {f : MM α} (hf : St f) : St (nz b f) := by
  by_cases h : b = 0
  · exact ⟨none, fun A => by simp [nz, h]⟩
  · rw [nz_fn h]; exact hf
theorem St_bd {α β : Type} {f : MM α} {k : α → MM β} (hf : St f) (hk : ∀ a, St (k a)) : St (bd f k) := by
  obtain ⟨x, hx⟩ := hf
  cases x with
  | none => exact ⟨none, fun A => by simp [bd, hx]⟩
  | some a =>
    obtain ⟨y, hy⟩ := hk a
    exact ⟨y, fun A => by simp [bd, hx, hy]⟩
theorem St_lt {α : Type} {e : Int32} {k : Int32 → MM α} (h : ∀ a, St (k a)) : St (lt e k) := h e
theorem St_jn {α β : Type} {J : α → MM β} {B : (α → MM β) → MM β} (hJ : ∀ a, St (J a)) (hB : ∀ j : α → MM β, (∀ a, St (j a)) → St (B j)) : St (jn J B) := hB J hJ
theorem St_loop {σ β : Type} {F : (σ → MM β) → σ → MM β} (h : ∀ f : σ → MM β, (∀ s, St (f s)) → ∀ s, St (F f s)) : ∀ (n : Nat) (s : σ), St (loopC n F s)
  | 0, _ => St_fl
  | n + 1, s => h _ (St_loop h n) s
theorem St_lc (L : List Int32) (j : Int32) : St (lc L j) := by
  by_cases h : j < 0 ∨ L.length ≤ j.toNatClampNeg
  · exact ⟨none, fun A => by simp only [lc, if_pos h]; rfl⟩
  · exact ⟨some (L.getD j.toNatClampNeg 0), fun A => by simp only [lc, if_neg h]; rfl⟩
theorem St_lf {α : Type} {g : MM α} (ρ : Nat → Nat) (n : Nat) (h : St g) : St (lf ρ n g) := by
  obtain ⟨x, hx⟩ := h
  cases x with
  | none => exact ⟨none, fun A => by simp [lf, hx]⟩
  | some a => exact ⟨some a, fun A => by simp [lf, hx, pu_self]⟩
/-- what it answers in the bank of nothing it answers everywhere -/
theorem St_val {α : Type} {f : MM α} (h : St f) {r : α} (he : (f (fun _ => [])).map (fun q => q.1) = some r) (A : Bk) : f A = some (r, A) := by
  obtain ⟨x, hx⟩ := h
  cases x with
  | none => rw [hx] at he; cases he
  | some a => rw [hx] at he; cases he; rw [hx]; rfl
theorem St_isWithin (v lo hi : Int32) : St (gX10_isWithin v lo hi) := ⟨some (b2i (lo ≤ v ∧ v ≤ hi)), fun A => p_isWithin v lo hi A⟩
theorem St_ways (a b : Int32) : St (gX6_waysInRows a b) := by
  unfold gX6_waysInRows
  repeat' (first | with_reducible exact St_pr _ | with_reducible apply St_ite | with_reducible apply St_nz | (with_reducible apply St_lt; intro _) | (with_reducible apply St_jn) | (with_reducible apply St_loop) | intro _ | with_reducible apply_assumption)
