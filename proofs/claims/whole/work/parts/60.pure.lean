/-! PURE: how functions on banks are counted out -/
theorem bd_pr {α β : Type} (a : α) (k : α → MM β) (A : Bk) : bd (pr a) k A = k a A := rfl
theorem jn_eq {α β : Type} (J : α → MM β) (B : (α → MM β) → MM β) : jn J B = B J := rfl
theorem lt_eq {α : Type} (e : Int32) (k : Int32 → MM α) : lt e k = k e := rfl
theorem bd_ld {β : Type} {i k : Nat} {A : Bk} (K : Int32 → MM β) (h : k < (A i).length) : bd (ld i k) K A = K ((A i).getD k 0) A := by simp [bd, ld, h]
theorem bd_sv {β : Type} {i k : Nat} {v : Int32} {A : Bk} (K : Unit → MM β) (h : k < (A i).length) : bd (sv i k v) K A = K () (up A i ((A i).set k v)) := by simp [bd, sv, h]
theorem bd_svz {β : Type} {i k : Nat} {v : Int32} {A : Bk} (K : Unit → MM β) (hv : v = 0 ∨ v = 1) (h : k < (A i).length) : bd (svz i k v) K A = K () (up A i ((A i).set k v)) := by simp [bd, svz, sv, h, hv]
theorem la_nI {i j : Nat} {A : Bk} (h : j < (A i).length) (hs : (A i).length < 2 ^ 31) : la i (nI j) A = some ((A i).getD j 0, A) := by
  have h1 : j < 2 ^ 31 := Nat.lt_trans h hs
  have h2 := nI_in h hs
  unfold la
  rw [if_neg h2, nI_clamp h1]
theorem sa_nI {i j : Nat} {v : Int32} {A : Bk} (h : j < (A i).length) (hs : (A i).length < 2 ^ 31) : sa i (nI j) v A = some ((), up A i ((A i).set j v)) := by
  have h1 : j < 2 ^ 31 := Nat.lt_trans h hs
  have h2 := nI_in h hs
  unfold sa
  rw [if_neg h2, nI_clamp h1]
theorem bd_la {β : Type} {i j : Nat} {A : Bk} (K : Int32 → MM β) (h : j < (A i).length) (hs : (A i).length < 2 ^ 31) : bd (la i (nI j)) K A = K ((A i).getD j 0) A := by rw [bd_some (la_nI h hs)]
theorem bd_sa {β : Type} {i j : Nat} {v : Int32} {A : Bk} (K : Unit → MM β) (h : j < (A i).length) (hs : (A i).length < 2 ^ 31) : bd (sa i (nI j) v) K A = K () (up A i ((A i).set j v)) := by rw [bd_some (sa_nI h hs)]
theorem bd_ln {β : Type} {i : Nat} {A : Bk} (K : Int32 → MM β) : bd (ln i) K A = K (nI (A i).length) A := rfl
theorem rz_0 (A : Bk) : rz 0 A = some (0, A) := rfl
theorem rz_1 (A : Bk) : rz 1 A = some (1, A) := rfl
theorem nz_ne {α : Type} {b : Int32} (k : MM α) (A : Bk) (h : ¬ b = 0) : nz b k A = k A := by simp [nz, h]
/-- a truth as an int -/
def b2i (c : Prop) [Decidable c] : Int32 := if c then 1 else 0
/-- two answers that go together -/
def J2 {β γ : Type} (x : Option (β × Bk)) (y : Option (γ × Bk)) (P : β → Bk → γ → Bk → Prop) : Prop := ∃ b A c B, x = some (b, A) ∧ y = some (c, B) ∧ P b A c B
theorem loop2 {σ τ β γ : Type} {F1 : (σ → MM β) → σ → MM β} {F2 : (τ → MM γ) → τ → MM γ} (I : Nat → σ → Bk → τ → Bk → Prop) (P : β → Bk → γ → Bk → Prop)
    (hstep : ∀ k s A t B, I k s A t B → ∀ (f1 : σ → MM β) (f2 : τ → MM γ), (∀ k', k' < k → ∀ s' A' t' B', I k' s' A' t' B' → J2 (f1 s' A') (f2 t' B') P) → J2 (F1 f1 s A) (F2 f2 t B) P) :
    ∀ k n m s A t B, k < n → k < m → I k s A t B → J2 (loopC n F1 s A) (loopC m F2 t B) P := by
  intro k
  induction k using Nat.strongRecOn with
  | ind k ih =>
    intro n m s A t B hn hm hI
    obtain ⟨n, rfl⟩ : ∃ q, n = q + 1 := ⟨n - 1, by omega⟩
    obtain ⟨m, rfl⟩ : ∃ q, m = q + 1 := ⟨m - 1, by omega⟩
    exact hstep k s A t B hI _ _ (fun k' hk s' A' t' B' hI' => ih k' hk n m s' A' t' B' (by omega) (by omega) hI')
/-- an answer, and what holds behind it -/
def Ht {β : Type} (x : Option (β × Bk)) (P : β → Bk → Prop) : Prop := ∃ b A, x = some (b, A) ∧ P b A
theorem loop1 {σ β : Type} {F : (σ → MM β) → σ → MM β} (I : Nat → σ → Bk → Prop) (P : β → Bk → Prop)
    (hstep : ∀ k s A, I k s A → ∀ (f : σ → MM β), (∀ k', k' < k → ∀ s' A', I k' s' A' → Ht (f s' A') P) → Ht (F f s A) P) :
    ∀ k n s A, k < n → I k s A → Ht (loopC n F s A) P := by
  intro k
  induction k using Nat.strongRecOn with
  | ind k ih =>
    intro n s A hn hI
    obtain ⟨n, rfl⟩ : ∃ q, n = q + 1 := ⟨n - 1, by omega⟩
    exact hstep k s A hI _ (fun k' hk s' A' hI' => ih k' hk n s' A' (by omega) hI')
/-- isWithin, isIn -/
theorem p_isWithin (v lo hi : Int32) (A : Bk) : gX10_isWithin v lo hi A = some (b2i (lo ≤ v ∧ v ≤ hi), A) := by
  unfold gX10_isWithin b2i
  by_cases h1 : v < lo
  · have : ¬ lo ≤ v := Int32.not_le.mpr h1
    simp [jn_eq, h1, this, rz_0]
  · have h1' : lo ≤ v := Int32.not_lt.mp h1
    by_cases h2 : hi < v
    · have : ¬ v ≤ hi := Int32.not_le.mpr h2
      simp [jn_eq, h1, h2, this, rz_0]
    · have h2' : v ≤ hi := Int32.not_lt.mp h2
      simp [jn_eq, h1, h2, h1', h2', rz_1]
theorem p_isIn (v lo hi : Int32) (A : Bk) : gX11_isIn v lo hi A = some (b2i (lo ≤ v ∧ v ≤ hi), A) := by
  unfold gX11_isIn b2i
  by_cases h1 : v < lo
  · have : ¬ lo ≤ v := Int32.not_le.mpr h1
    simp [jn_eq, h1, this, rz_0]
  · have h1' : lo ≤ v := Int32.not_lt.mp h1
    by_cases h2 : hi < v
    · have : ¬ v ≤ hi := Int32.not_le.mpr h2
      simp [jn_eq, h1, h2, this, rz_0]
    · have h2' : v ≤ hi := Int32.not_lt.mp h2
      simp [jn_eq, h1, h2, h1', h2', rz_1]
