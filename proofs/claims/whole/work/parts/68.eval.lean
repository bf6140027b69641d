/-! PURE: evaluation -/
theorem e_lit (n : Nat) : (OfNat.ofNat n : Int32) = nI (OfNat.ofNat n) := rfl
theorem e_nm1 {j : Nat} (h : j < 2 ^ 31) : (nI j = -nI 1) = False := by
  refine eq_false (fun q => ?_)
  have h2 : (nI j).toInt = (-nI 1).toInt := by rw [q]
  rw [nI_toInt h, show (-nI 1).toInt = -1 by decide] at h2
  omega
theorem e_nm2 {j : Nat} (h : j < 2 ^ 31) : (nI j = -nI 2) = False := by
  refine eq_false (fun q => ?_)
  have h2 : (nI j).toInt = (-nI 2).toInt := by rw [q]
  rw [nI_toInt h, show (-nI 2).toInt = -2 by decide] at h2
  omega
theorem e_01 : nI 0 - nI 1 = -nI 1 := by decide
theorem b2i_n0 {c : Prop} [Decidable c] : (b2i c = nI 0) = ¬ c := b2i_0
theorem up_ap (S : Bk) (i j : Nat) (l : List Int32) : up S i l j = if j = i then l else S j := rfl
theorem rz_n0 (A : Bk) : rz (nI 0) A = some (nI 0, A) := rfl
theorem rz_n1 (A : Bk) : rz (nI 1) A = some (nI 1, A) := rfl
theorem pr_ap {α : Type} (a : α) (A : Bk) : pr a A = some (a, A) := rfl
theorem bd_rz0 {β : Type} (k : Int32 → MM β) (A : Bk) : bd (rz (nI 0)) k A = k (nI 0) A := rfl
theorem bd_rz1 {β : Type} (k : Int32 → MM β) (A : Bk) : bd (rz (nI 1)) k A = k (nI 1) A := rfl
theorem ite_ap {α : Type} {c : Prop} [Decidable c] (f g : MM α) (A : Bk) : (if c then f else g) A = if c then f A else g A := by
  by_cases h : c <;> simp [h]
theorem e_lit2 (n : Nat) : (OfNat.ofNat (n + 1) : Int32) = nI (n + 1) := rfl
theorem nI_z : nI 0 = 0 := rfl
theorem nI_eq0 {a : Nat} (h : a < 2 ^ 31) : (nI a = 0) = (a = 0) := propext (nI_eq (b := 0) h (by decide))
theorem nI_0eq {a : Nat} (h : a < 2 ^ 31) : (0 = nI a) = (a = 0) := propext ⟨fun q => (nI_eq (b := 0) h (by decide)).mp q.symm, fun q => ((nI_eq (b := 0) h (by decide)).mpr q).symm⟩
theorem nI_le0 {a : Nat} (h : a < 2 ^ 31) : (nI a ≤ 0) = (a = 0) := propext ((nI_leI (b := 0) h (by decide)).trans Nat.le_zero)
theorem nI_lt0 {a : Nat} (h : a < 2 ^ 31) : (nI a < 0) = False := eq_false (nI_pos h)
theorem nI_0lt {a : Nat} (h : a < 2 ^ 31) : (0 < nI a) = (0 < a) := propext (nI_ltI (a := 0) (by decide) h)
theorem nI_0le {a : Nat} (h : a < 2 ^ 31) : (0 ≤ nI a) = True := eq_true (nI_pos' h)
theorem e_001 : (0 : Int32) - nI 1 = -nI 1 := by decide
theorem e_n10 : (-nI 1 = 0) = False := by decide
theorem e_n1lt : (-nI 1 < 0) = True := by decide
theorem bd_la0 {β : Type} {i : Nat} {A : Bk} (K : Int32 → MM β) (h : 0 < (A i).length) (hs : (A i).length < 2 ^ 31) : bd (la i 0) K A = K ((A i).getD 0 0) A := bd_la (j := 0) K h hs
theorem bd_sa0 {β : Type} {i : Nat} {v : Int32} {A : Bk} (K : Unit → MM β) (h : 0 < (A i).length) (hs : (A i).length < 2 ^ 31) : bd (sa i 0 v) K A = K () (up A i ((A i).set 0 v)) := bd_sa (j := 0) K h hs
theorem bd_rz00 {β : Type} (k : Int32 → MM β) (A : Bk) : bd (rz 0) k A = k 0 A := rfl
theorem Nat_1_le_0 : (1 = 0) = False := by decide
/-- what is gathered step by step -/
def fo {α : Type} (g : Nat → α → α) (a : α) : Nat → α
  | 0 => a
  | n + 1 => g n (fo g a n)
theorem fo_congr {α : Type} {g h : Nat → α → α} {a : α} : ∀ {n : Nat}, (∀ i, i < n → ∀ x, g i x = h i x) → fo g a n = fo h a n
  | 0, _ => rfl
  | n + 1, hh => by
    show g n (fo g a n) = h n (fo h a n)
    rw [fo_congr (fun i hi => hh i (Nat.lt_succ_of_lt hi)), hh n (Nat.lt_succ_self n)]
/-- a loop that goes through told states, n times, and then ends -/
theorem loopF {σ β : Type} {F : (σ → MM β) → σ → MM β} (n : Nat) (f : Nat → σ) (S : Nat → Bk) {res : Option (β × Bk)} {s : σ} {A : Bk} {N : Nat} (h0 : f 0 = s) (hA : S 0 = A)
    (hs : ∀ j, j < n → ∀ self : σ → MM β, F self (f j) (S j) = self (f (j + 1)) (S (j + 1))) (he : ∀ self : σ → MM β, F self (f n) (S n) = res) (hN : n < N) : loopC N F s A = res := by
  subst h0; subst hA
  have key : ∀ m, m ≤ n → ∀ N, m < N → loopC N F (f (n - m)) (S (n - m)) = res := by
    intro m
    induction m with
    | zero =>
      intro _ N hN
      obtain ⟨N, rfl⟩ : ∃ q, N = q + 1 := ⟨N - 1, by omega⟩
      exact he _
    | succ m ih =>
      intro hm N hN
      obtain ⟨N, rfl⟩ : ∃ q, N = q + 1 := ⟨N - 1, by omega⟩
      rw [loopC_s, hs (n - (m + 1)) (by omega), show n - (m + 1) + 1 = n - m by omega]
      exact ih (by omega) N (by omega)
  have h := key n (Nat.le_refl _) N hN
  rwa [Nat.sub_self] at h
/-- two loops side by side, counted: at each step what is known holds again -/
theorem loopJ {σ τ β γ : Type} {F1 : (σ → MM β) → σ → MM β} {F2 : (τ → MM γ) → τ → MM γ} (n : Nat) (I : Nat → σ → Bk → τ → Bk → Prop) (P : β → Bk → γ → Bk → Prop)
    (hstep : ∀ j s A t B, j < n → I j s A t B → ∃ s' A' t' B', (∀ f, F1 f s A = f s' A') ∧ (∀ f, F2 f t B = f t' B') ∧ I (j + 1) s' A' t' B')
    (hend : ∀ s A t B, I n s A t B → ∀ f1 f2, J2 (F1 f1 s A) (F2 f2 t B) P) :
    ∀ {N M : Nat} {s A t B}, n < N → n < M → I 0 s A t B → J2 (loopC N F1 s A) (loopC M F2 t B) P := by
  have key : ∀ m, m ≤ n → ∀ N M s A t B, m < N → m < M → I (n - m) s A t B → J2 (loopC N F1 s A) (loopC M F2 t B) P := by
    intro m
    induction m with
    | zero =>
      intro _ N M s A t B hN hM hI
      obtain ⟨N, rfl⟩ : ∃ q, N = q + 1 := ⟨N - 1, by omega⟩
      obtain ⟨M, rfl⟩ : ∃ q, M = q + 1 := ⟨M - 1, by omega⟩
      exact hend _ _ _ _ hI _ _
    | succ m ih =>
      intro hm N M s A t B hN hM hI
      obtain ⟨N, rfl⟩ : ∃ q, N = q + 1 := ⟨N - 1, by omega⟩
      obtain ⟨M, rfl⟩ : ∃ q, M = q + 1 := ⟨M - 1, by omega⟩
      obtain ⟨s', A', t', B', h1, h2, h3⟩ := hstep _ s A t B (by omega) hI
      rw [loopC_s, loopC_s, h1, h2]
      refine ih (by omega) N M s' A' t' B' (by omega) (by omega) ?_
      rwa [show n - (m + 1) + 1 = n - m by omega] at h3
  intro N M s A t B hN hM hI
  exact key n (Nat.le_refl _) N M s A t B hN hM (by rwa [Nat.sub_self])
/-- one loop, counted -/
theorem loopI {σ β : Type} {F : (σ → MM β) → σ → MM β} (n : Nat) (I : Nat → σ → Bk → Prop) (P : β → Bk → Prop)
    (hstep : ∀ j s A, j < n → I j s A → ∃ s' A', (∀ f, F f s A = f s' A') ∧ I (j + 1) s' A')
    (hend : ∀ s A, I n s A → ∀ f, Ht (F f s A) P) :
    ∀ {N : Nat} {s A}, n < N → I 0 s A → Ht (loopC N F s A) P := by
  have key : ∀ m, m ≤ n → ∀ N s A, m < N → I (n - m) s A → Ht (loopC N F s A) P := by
    intro m
    induction m with
    | zero =>
      intro _ N s A hN hI
      obtain ⟨N, rfl⟩ : ∃ q, N = q + 1 := ⟨N - 1, by omega⟩
      exact hend _ _ hI _
    | succ m ih =>
      intro hm N s A hN hI
      obtain ⟨N, rfl⟩ : ∃ q, N = q + 1 := ⟨N - 1, by omega⟩
      obtain ⟨s', A', h1, h3⟩ := hstep _ s A (by omega) hI
      rw [loopC_s, h1]
      refine ih (by omega) N s' A' (by omega) ?_
      rwa [show n - (m + 1) + 1 = n - m by omega] at h3
  intro N s A hN hI
  exact key n (Nat.le_refl _) N s A hN (by rwa [Nat.sub_self])
/-- a row of the class beside a part of the reference's row -/
def Sw (c nw : List Int32) (o n : Nat) : Prop := ∀ i, i < n → c.getD i 0 = nw.getD (o + i) 0
theorem Sw_out {c nw : List Int32} {o n k : Nat} {v : Int32} (h : Sw c nw o n) (hk : k < o ∨ o + n ≤ k) : Sw c (nw.set k v) o n := fun i hi => by rw [h i hi, gd_set_ne (by omega)]
theorem Sw_in {c nw : List Int32} {o n p : Nat} {v : Int32} (h : Sw c nw o n) (hp : p < n) (hc : c.length = n) (hn : o + n ≤ nw.length) : Sw (c.set p v) (nw.set (o + p) v) o n := fun i hi => by
  rw [gd_set (by omega), gd_set (by omega)]
  by_cases hq : i = p
  · rw [if_pos hq, if_pos (by omega)]
  · rw [if_neg hq, if_neg (by omega), h i hi]
/-- the knots: in the class how many, which, in which cloth; in the reference's row -/
def RK (k6 k7 k10 nw : List Int32) (nc nt : Nat) (ks : Nat → List Nat) (wh : Nat → Nat) : Prop :=
  (∀ c, c < nc → (ks c).length ≤ 4 ∧ (ks c).Nodup ∧ k6.getD c 0 = nI (ks c).length ∧ (∀ i, i < (ks c).length → k7.getD (4 * c + i) 0 = nI ((ks c).getD i 0)) ∧ ∀ i, i < 4 → nw.getD (67 + 4 * c + i) 0 = if i < (ks c).length then nI ((ks c).getD i 0 + 1) else nI 0) ∧
  (∀ t, t < nt → wh t ≤ nc ∧ nw.getD (123 + t) 0 = nI (wh t) ∧ k10.getD t 0 = nI (wh t) - nI 1 ∧ (wh t = 0 → nw.getD (143 + t) 0 = nI 0)) ∧
  (∀ c t, c < nc → (t ∈ ks c ↔ t < nt ∧ wh t = c + 1))
theorem RK_out {k6 k7 k10 nw : List Int32} {nc nt k : Nat} {v : Int32} {ks : Nat → List Nat} {wh : Nat → Nat} (h : RK k6 k7 k10 nw nc nt ks wh) (hc : nc ≤ 14) (ht : nt ≤ 20) (hk : k < 67 ∨ 163 ≤ k) : RK k6 k7 k10 (nw.set k v) nc nt ks wh := by
  obtain ⟨h1, h2, h3⟩ := h
  refine ⟨fun c hcc => ?_, fun t htt => ?_, h3⟩
  · obtain ⟨a1, a2, a3, a4, a5⟩ := h1 c hcc
    exact ⟨a1, a2, a3, a4, fun i hi => by rw [gd_set_ne (by omega)]; exact a5 i hi⟩
  · obtain ⟨a1, a2, a3, a4⟩ := h2 t htt
    exact ⟨a1, by rw [gd_set_ne (by omega)]; exact a2, a3, fun q => by rw [gd_set_ne (by omega)]; exact a4 q⟩
def WL (W : Bk) : Prop := (W 0).length = 19 ∧ (W 1).length = 12 ∧ (W 2).length = 12 ∧ (W 3).length = 12 ∧ (W 4).length = 14 ∧ (W 5).length = 14 ∧ (W 6).length = 14 ∧ (W 7).length = 56 ∧ (W 8).length = 20 ∧ (W 9).length = 20 ∧ (W 10).length = 20 ∧ (W 11).length = 20 ∧ (W 12).length = 20
/-- a world and the reference's row of it -/
def WR (W : Bk) (nw ow du : List Int32) (np nc nt : Nat) (ks : Nat → List Nat) (wh : Nat → Nat) : Prop :=
  WL W ∧ (nw.length = 183 ∧ np ≤ 12 ∧ nc ≤ 14 ∧ nt ≤ 20) ∧
  ((W 0).getD 1 0 = nw.getD 1 0 ∧ (W 0).getD 2 0 = nw.getD 0 0 ∧ (W 0).getD 3 0 = nw.getD 2 0 ∧ (W 0).getD 4 0 = nI np ∧ (W 0).getD 5 0 = nI nc ∧ (W 0).getD 6 0 = nI nt) ∧
  (∃ ln : Nat, ln ≤ 150 ∧ nw.getD 2 0 = nI ln) ∧
  (Sw (W 1) nw 3 12 ∧ Sw (W 2) nw 15 12 ∧ Sw (W 3) nw 27 12 ∧ Sw (W 4) nw 39 14 ∧ Sw (W 5) nw 53 14 ∧ Sw (W 11) nw 143 20 ∧ Sw (W 12) nw 163 20) ∧
  (W 8 = ow ∧ W 9 = du) ∧
  (∀ t, t < nt → ∃ o : Nat, o < np ∧ ow.getD t 0 = nI o) ∧
  (∀ t, t < nt → ∃ d : Nat, d ≤ 999 ∧ du.getD t 0 = nI d) ∧
  (∀ c, c < nc → ∃ w : Nat, w < np ∧ nw.getD (39 + c) 0 = nI w) ∧
  RK (W 6) (W 7) (W 10) nw nc nt ks wh
theorem WR_congr {W V : Bk} {nw ow du : List Int32} {np nc nt : Nat} {ks : Nat → List Nat} {wh : Nat → Nat} (h : WR W nw ow du np nc nt ks wh) (e : ∀ i, i < 13 → V i = W i) : WR V nw ow du np nc nt ks wh := by
  unfold WR WL at *
  rw [e 0 (by decide), e 1 (by decide), e 2 (by decide), e 3 (by decide), e 4 (by decide), e 5 (by decide), e 6 (by decide), e 7 (by decide), e 8 (by decide), e 9 (by decide), e 10 (by decide), e 11 (by decide), e 12 (by decide)]
  exact h
