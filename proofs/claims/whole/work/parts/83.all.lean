/-! PURE: the whole relation -/
def rp : Nat → Nat := fun i => if i = 0 then 50 else if i < 36 then 63 + i else 15 + i
def okB (v : Int32) : Prop := ∃ n : Nat, 1 ≤ n ∧ n ≤ 4 ∧ (v = nI n ∨ v = -nI n)
def okN (m : Nat) (v : Int32) : Prop := ∃ n : Nat, n ≤ m ∧ v = nI n
def TT (H B : Bk) : Prop := RT (H 25) (H 26) ((B 0).getD 43 0) (B 22) 12 okB ∧ RT (H 27) (H 28) ((B 0).getD 52 0) (B 29) 16 (okN 1) ∧ RT (H 29) (H 30) ((B 0).getD 54 0) (B 30) 12 (okN 99) ∧ RT (H 31) (H 32) ((B 0).getD 57 0) (B 32) 16 (okN 9) ∧ RT (H 33) (H 34) ((B 0).getD 61 0) (B 35) 10 (okN 9)
def HH (H B : Bk) (np nc nt : Nat) (ks : Nat → List Nat) (wh : Nat → Nat) : Prop := HR H B 0 np nc nt ks wh ∧ TT H B
def cBl : List Nat := [1, 4, 5, 6, 9, 10, 11, 12, 13, 14, 15, 17, 18, 19, 22, 29, 30, 32, 35]
def sBl : List Nat := [5, 6, 7, 8, 35, 37, 39, 43, 52, 54, 57, 61]
/-- all that a house stands beside is as it was -/
def HE (H H' B B' : Bk) : Prop := (∀ i, i < 49 → i ≠ 9 → i ≠ 35 → H' i = H i) ∧ (H' 9).length = (H 9).length ∧ (H' 35).length = (H 35).length ∧ (∀ i, i ∈ cBl → B' i = B i) ∧ (B' 20).length = (B 20).length ∧ (B' 21).length = (B 21).length ∧ (B' 0).length = (B 0).length ∧ (∀ k, k ∈ sBl → (B' 0).getD k 0 = (B 0).getD k 0)
def cRl : List Nat := [1, 4, 5, 6, 9, 10, 11, 12, 13, 14, 15, 17, 18, 19]
def sRl : List Nat := [5, 6, 7, 8, 35, 37, 39]
def HEr (H H' B B' : Bk) : Prop := (∀ i, i < 49 → i ≠ 9 → i ≠ 35 → ¬ (25 ≤ i ∧ i < 35) → H' i = H i) ∧ (H' 9).length = (H 9).length ∧ (H' 35).length = (H 35).length ∧ (∀ i, i ∈ cRl → B' i = B i) ∧ (B' 20).length = (B 20).length ∧ (B' 21).length = (B 21).length ∧ (B' 0).length = (B 0).length ∧ (∀ k, k ∈ sRl → (B' 0).getD k 0 = (B 0).getD k 0)
theorem HE_r {H H' B B' : Bk} (e : HE H H' B B') : HEr H H' B B' := ⟨fun i a b c _ => e.1 i a b c, e.2.1, e.2.2.1, fun i hi => e.2.2.2.1 i ((by decide : ∀ i, i ∈ cRl → i ∈ cBl) i hi), e.2.2.2.2.1, e.2.2.2.2.2.1, e.2.2.2.2.2.2.1, fun k hk => e.2.2.2.2.2.2.2 k ((by decide : ∀ i, i ∈ sRl → i ∈ sBl) k hk)⟩
theorem TT_HE {H H' B B' : Bk} (h : TT H B) (e : HE H H' B B') : TT H' B' := by
  obtain ⟨e1, -, -, e4, -, -, -, e8⟩ := e
  unfold TT at *
  rw [e1 25 (by decide) (by decide) (by decide), e1 26 (by decide) (by decide) (by decide), e1 27 (by decide) (by decide) (by decide), e1 28 (by decide) (by decide) (by decide), e1 29 (by decide) (by decide) (by decide), e1 30 (by decide) (by decide) (by decide), e1 31 (by decide) (by decide) (by decide), e1 32 (by decide) (by decide) (by decide), e1 33 (by decide) (by decide) (by decide), e1 34 (by decide) (by decide) (by decide), e8 43 (by decide), e8 52 (by decide), e8 54 (by decide), e8 57 (by decide), e8 61 (by decide), e4 22 (by decide), e4 29 (by decide), e4 30 (by decide), e4 32 (by decide), e4 35 (by decide)]
  exact h
theorem HR_HE {H H' B B' : Bk} {th np nc nt : Nat} {ks : Nat → List Nat} {wh : Nat → Nat} (h : HR H B th np nc nt ks wh) (e : HEr H H' B B') : HR H' B' th np nc nt ks wh := by
  obtain ⟨e1, e2, e3, e4, e5, e6, e7, e8⟩ := e
  obtain ⟨h1, ⟨h2, h3⟩, ⟨h4, h5⟩, a, b, c, d, f, g1, g2, g3⟩ := h
  have w : WR (fun i => H' (rh12 i)) (B' 1) (B' 4) (B' 5) np nc nt ks wh := by
    rw [e4 1 (by decide), e4 4 (by decide), e4 5 (by decide)]
    exact WR_congr h1 (fun i hi => by
      show H' (rh12 i) = H (rh12 i)
      rw [rh12_v i hi]
      exact e1 _ (by omega) (by omega) (by omega) (by omega))
  refine ⟨w, ⟨h2, by rw [e1 36 (by decide) (by decide) (by decide) (by decide)]; exact h3⟩, ⟨by rw [e1 2 (by decide) (by decide) (by decide) (by decide), e4 6 (by decide)]; exact h4, by rw [e4 6 (by decide)]; exact h5⟩, ?_⟩
  unfold HS RLaw RDeeds RMinds RFr at *
  rw [e7, e8 5 (by decide), e8 6 (by decide), e8 7 (by decide), e8 8 (by decide), e8 35 (by decide), e8 37 (by decide), e8 39 (by decide), e4 9 (by decide), e4 10 (by decide), e4 11 (by decide), e4 12 (by decide), e4 13 (by decide), e4 14 (by decide), e4 15 (by decide), e4 17 (by decide), e4 18 (by decide), e4 19 (by decide), e5, e6, e3]
  simp only [Nat.reduceAdd] at *
  rw [e2]
  rw [e1 3 (by decide) (by decide) (by decide) (by decide)]
  rw [e1 4 (by decide) (by decide) (by decide) (by decide)]
  rw [e1 5 (by decide) (by decide) (by decide) (by decide)]
  rw [e1 6 (by decide) (by decide) (by decide) (by decide)]
  rw [e1 7 (by decide) (by decide) (by decide) (by decide)]
  rw [e1 8 (by decide) (by decide) (by decide) (by decide)]
  rw [e1 10 (by decide) (by decide) (by decide) (by decide)]
  rw [e1 11 (by decide) (by decide) (by decide) (by decide)]
  rw [e1 12 (by decide) (by decide) (by decide) (by decide)]
  rw [e1 13 (by decide) (by decide) (by decide) (by decide)]
  rw [e1 14 (by decide) (by decide) (by decide) (by decide)]
  rw [e1 15 (by decide) (by decide) (by decide) (by decide)]
  rw [e1 16 (by decide) (by decide) (by decide) (by decide)]
  rw [e1 17 (by decide) (by decide) (by decide) (by decide)]
  rw [e1 18 (by decide) (by decide) (by decide) (by decide)]
  rw [e1 19 (by decide) (by decide) (by decide) (by decide)]
  rw [e1 20 (by decide) (by decide) (by decide) (by decide)]
  rw [e1 21 (by decide) (by decide) (by decide) (by decide)]
  rw [e1 22 (by decide) (by decide) (by decide) (by decide)]
  rw [e1 23 (by decide) (by decide) (by decide) (by decide)]
  rw [e1 24 (by decide) (by decide) (by decide) (by decide)]
  exact ⟨a, b, c, d, f, g1, g2, g3⟩
theorem HH_HE {H H' B B' : Bk} {np nc nt : Nat} {ks : Nat → List Nat} {wh : Nat → Nat} (h : HH H B np nc nt ks wh) (e : HE H H' B B') : HH H' B' np nc nt ks wh := ⟨HR_HE h.1 (HE_r e), TT_HE h.2 e⟩
def TP (A B : Bk) : Prop := (A 113).length = 8 ∧ (A 114).length = 400 ∧ (B 7).length = 400 ∧ (A 113).getD 6 0 = (B 0).getD 33 0 ∧ (A 113).getD 7 0 = (B 0).getD 34 0 ∧ ∃ n : Nat, n ≤ 400 ∧ (A 113).getD 0 0 = nI n ∧ (B 0).getD 13 0 = nI n ∧ ∀ i, i < n → (A 114).getD i 0 = (B 7).getD i 0 ∧ ∃ b : Nat, b < 256 ∧ (B 7).getD i 0 = nI b
theorem TP_congr {A A' B B' : Bk} (h : TP A B) (e1 : A' 113 = A 113) (e2 : A' 114 = A 114) (e3 : B' 7 = B 7) (e4 : (B' 0).getD 13 0 = (B 0).getD 13 0) (e5 : (B' 0).getD 33 0 = (B 0).getD 33 0) (e6 : (B' 0).getD 34 0 = (B 0).getD 34 0) : TP A' B' := by
  unfold TP at *
  rw [e1, e2, e3, e4, e5, e6]; exact h
/-- a kept row of the reference -/
def rowN (l : List Int32) (i : Nat) : List Int32 := (l.drop (183 * i)).take 183
def wls : List Nat := [133, 146, 159, 172, 185, 198]
def UD (A B : Bk) (np nc nt : Nat) : Prop := (A 0).length = 10 ∧ (A 112).length = 6 ∧ (B 2).length = 1098 ∧ ∃ u : Nat, u ≤ 6 ∧ (A 0).getD 5 0 = nI u ∧ (B 0).getD 3 0 = nI u ∧ ∃ pm : Nat → Nat, (∀ i, i < 6 → pm i ∈ wls ∧ (A 112).getD i 0 = nI (pm i)) ∧ (∀ w, w ∈ wls → WL (fun j => A (w + j))) ∧ (∀ i j, i < 6 → j < 6 → pm i = pm j → i = j) ∧ ∀ i, i < u → ∃ ks wh, WR (fun j => A (pm i + j)) (rowN (B 2) i) (B 4) (B 5) np nc nt ks wh
theorem wls_r : ∀ w, w ∈ wls → 133 ≤ w ∧ w + 12 < 211 := by decide
theorem UD_congr {A A' B B' : Bk} {np nc nt : Nat} (h : UD A B np nc nt) (e0 : (A' 0).length = (A 0).length) (e1 : (A' 0).getD 5 0 = (A 0).getD 5 0) (e2 : A' 112 = A 112) (e3 : ∀ j, 133 ≤ j → j < 211 → A' j = A j) (f2 : B' 2 = B 2) (f4 : B' 4 = B 4) (f5 : B' 5 = B 5) (f0 : (B' 0).getD 3 0 = (B 0).getD 3 0) : UD A' B' np nc nt := by
  obtain ⟨h1, h2, h3, u, hu, h4, h5, pm, h6, h7, h8, h9⟩ := h
  refine ⟨by rw [e0]; exact h1, by rw [e2]; exact h2, by rw [f2]; exact h3, u, hu, by rw [e1]; exact h4, by rw [f0]; exact h5, pm, fun i hi => by rw [e2]; exact h6 i hi, fun w hw => ?_, h8, fun i hi => ?_⟩
  · have := h7 w hw
    have hr := wls_r w hw
    unfold WL at *
    simp only [e3 (w + 0) (by omega) (by omega), e3 (w + 1) (by omega) (by omega), e3 (w + 2) (by omega) (by omega), e3 (w + 3) (by omega) (by omega), e3 (w + 4) (by omega) (by omega), e3 (w + 5) (by omega) (by omega), e3 (w + 6) (by omega) (by omega), e3 (w + 7) (by omega) (by omega), e3 (w + 8) (by omega) (by omega), e3 (w + 9) (by omega) (by omega), e3 (w + 10) (by omega) (by omega), e3 (w + 11) (by omega) (by omega), e3 (w + 12) (by omega) (by omega)]
    exact this
  · obtain ⟨ks, wh, hW⟩ := h9 i hi
    have hr := wls_r _ (h6 i (by omega)).1
    rw [f2, f4, f5]
    exact ⟨ks, wh, WR_congr hW (fun j hj => e3 _ (by omega) (by omega))⟩
/-- with nothing to undo, the kept rows may be anything -/
theorem UD_zero {A A' B B' : Bk} {np nc nt np' nc' nt' : Nat} (h : UD A B np nc nt) (e0 : (A' 0).length = (A 0).length) (e1 : (A' 0).getD 5 0 = 0) (e2 : A' 112 = A 112) (e3 : ∀ j, 133 ≤ j → j < 211 → A' j = A j) (f2 : (B' 2).length = (B 2).length) (f0 : (B' 0).getD 3 0 = 0) : UD A' B' np' nc' nt' := by
  obtain ⟨h1, h2, h3, u, hu, h4, h5, pm, h6, h7, h8, h9⟩ := h
  refine ⟨by rw [e0]; exact h1, by rw [e2]; exact h2, by rw [f2]; exact h3, 0, by omega, e1, f0, pm, fun i hi => by rw [e2]; exact h6 i hi, fun w hw => ?_, h8, fun i hi => absurd hi (Nat.not_lt_zero i)⟩
  have := h7 w hw
  have hr := wls_r w hw
  unfold WL at *
  simp only [e3 (w + 0) (by omega) (by omega), e3 (w + 1) (by omega) (by omega), e3 (w + 2) (by omega) (by omega), e3 (w + 3) (by omega) (by omega), e3 (w + 4) (by omega) (by omega), e3 (w + 5) (by omega) (by omega), e3 (w + 6) (by omega) (by omega), e3 (w + 7) (by omega) (by omega), e3 (w + 8) (by omega) (by omega), e3 (w + 9) (by omega) (by omega), e3 (w + 10) (by omega) (by omega), e3 (w + 11) (by omega) (by omega), e3 (w + 12) (by omega) (by omega)]
  exact this
/-- the image, number by number -/
def flat (C : Bk) (im : List Int32) : Prop :=
  (∀ k, k < 183 → im.getD k 0 = (C 1).getD k 0) ∧
  (im.getD 183 0 = (C 0).getD 6 0 ∧ im.getD 184 0 = (C 0).getD 7 0 ∧ im.getD 185 0 = (C 0).getD 8 0 ∧ im.getD 186 0 = (C 0).getD 35 0 ∧ im.getD 187 0 = (C 0).getD 37 0 ∧ im.getD 188 0 = (C 0).getD 39 0 ∧ im.getD 189 0 = (C 0).getD 43 0 ∧ im.getD 190 0 = (C 0).getD 52 0 ∧ im.getD 191 0 = (C 0).getD 54 0 ∧ im.getD 192 0 = (C 0).getD 57 0 ∧ im.getD 193 0 = (C 0).getD 61 0) ∧
  (∀ k, k < 20 → im.getD (194 + 2 * k) 0 = (C 4).getD k 0 ∧ im.getD (195 + 2 * k) 0 = (C 5).getD k 0) ∧
  (∀ k, k < 64 → im.getD (234 + k) 0 = (C 17).getD k 0) ∧ (∀ k, k < 48 → im.getD (298 + k) 0 = (C 18).getD k 0) ∧
  (∀ k, k < 12 → im.getD (346 + 3 * k) 0 = (C 19).getD k 0 ∧ im.getD (347 + 3 * k) 0 = (C 22).getD k 0 ∧ im.getD (348 + 3 * k) 0 = (C 30).getD k 0) ∧
  (∀ k, k < 16 → im.getD (382 + 2 * k) 0 = (C 29).getD k 0 ∧ im.getD (383 + 2 * k) 0 = (C 32).getD k 0) ∧
  (∀ k, k < 10 → im.getD (414 + k) 0 = (C 35).getD k 0) ∧ (∀ k, k < 600 → im.getD (424 + k) 0 = (C 6).getD k 0) ∧ im.getD 1024 0 = (C 9).getD 0 0 ∧
  (∀ k, k < 16 → im.getD (1025 + 4 * k) 0 = (C 10).getD k 0 ∧ im.getD (1026 + 4 * k) 0 = (C 11).getD k 0 ∧ im.getD (1027 + 4 * k) 0 = (C 12).getD k 0 ∧ im.getD (1028 + 4 * k) 0 = (C 13).getD k 0) ∧
  (∀ k, k < 400 → im.getD (1089 + 2 * k) 0 = (C 14).getD k 0 ∧ im.getD (1090 + 2 * k) 0 = (C 15).getD k 0)
/-- the pictured house: its cells have their lengths; where there is an image, it stands beside some reference whose numbers the images are -/
def HL (H : Bk) : Prop := WL (fun i => H (rh12 i)) ∧ (H 2).length = 600 ∧ ((H 3).length = 8 ∧ (H 4).length = 16 ∧ (H 5).length = 16 ∧ (H 6).length = 16 ∧ (H 7).length = 16 ∧ (H 8).length = 400 ∧ (H 9).length = 400) ∧
  ((H 10).length = 5 ∧ (H 11).length = 16 ∧ (H 12).length = 16 ∧ (H 13).length = 16 ∧ (H 14).length = 16) ∧ ((H 15).length = 5 ∧ (H 16).length = 16 ∧ (H 17).length = 16 ∧ (H 18).length = 16 ∧ (H 19).length = 16) ∧ ((H 20).length = 5 ∧ (H 21).length = 16 ∧ (H 22).length = 16 ∧ (H 23).length = 16 ∧ (H 24).length = 16) ∧
  ((H 25).length = 2 ∧ (H 26).length = 12 ∧ (H 27).length = 2 ∧ (H 28).length = 16 ∧ (H 29).length = 2 ∧ (H 30).length = 12 ∧ (H 31).length = 2 ∧ (H 32).length = 16 ∧ (H 33).length = 2 ∧ (H 34).length = 10) ∧ (H 35).length = 9 ∧ (H 36).getD 0 0 = 0
def IM (A B : Bk) : Prop := (B 37).length = 2400 ∧ HL (fun i => A (rp i)) ∧ (((A 0).getD 2 0 = 0 ∧ (B 0).getD 65 0 = 0) ∨ ((A 0).getD 2 0 = nI 1 ∧ (B 0).getD 65 0 = nI 1 ∧ ∃ (C : Bk) (np nc nt : Nat) (ks : Nat → List Nat) (wh : Nat → Nat), HH (fun i => A (rp i)) C np nc nt ks wh ∧ flat C (B 37)))
theorem rp_r : ∀ i, i < 49 → 50 ≤ rp i ∧ rp i < 99 := by decide
theorem HL_congr {H H' : Bk} (h : HL H) (e : ∀ i, i < 49 → H' i = H i) : HL H' := by
  obtain ⟨w, r⟩ := h
  refine ⟨?_, ?_⟩
  · unfold WL at *
    have hv : ∀ i, i < 13 → H' (rh12 i) = H (rh12 i) := fun i hi => e _ (by rw [rh12_v i hi]; omega)
    simp only [hv 0 (by decide), hv 1 (by decide), hv 2 (by decide), hv 3 (by decide), hv 4 (by decide), hv 5 (by decide), hv 6 (by decide), hv 7 (by decide), hv 8 (by decide), hv 9 (by decide), hv 10 (by decide), hv 11 (by decide), hv 12 (by decide)]
    exact w
  · simp only [e 2 (by decide), e 3 (by decide), e 4 (by decide), e 5 (by decide), e 6 (by decide), e 7 (by decide), e 8 (by decide), e 9 (by decide), e 10 (by decide), e 11 (by decide), e 12 (by decide), e 13 (by decide), e 14 (by decide), e 15 (by decide), e 16 (by decide), e 17 (by decide), e 18 (by decide), e 19 (by decide), e 20 (by decide), e 21 (by decide), e 22 (by decide), e 23 (by decide), e 24 (by decide), e 25 (by decide), e 26 (by decide), e 27 (by decide), e 28 (by decide), e 29 (by decide), e 30 (by decide), e 31 (by decide), e 32 (by decide), e 33 (by decide), e 34 (by decide), e 35 (by decide), e 36 (by decide)]
    exact r
theorem HE_rfl_B {H H' B : Bk} (e : ∀ i, i < 49 → H' i = H i) : HE H H' B B := ⟨fun i hi _ _ => e i hi, by rw [e 9 (by decide)], by rw [e 35 (by decide)], fun _ _ => rfl, rfl, rfl, rfl, fun _ _ => rfl⟩
theorem IM_congr {A A' B B' : Bk} (h : IM A B) (e1 : (A' 0).getD 2 0 = (A 0).getD 2 0) (e2 : ∀ j, 50 ≤ j → j < 99 → A' j = A j) (f1 : B' 37 = B 37) (f2 : (B' 0).getD 65 0 = (B 0).getD 65 0) : IM A' B' := by
  obtain ⟨h1, h2, h3⟩ := h
  have e3 : ∀ i, i < 49 → (fun i => A' (rp i)) i = (fun i => A (rp i)) i := fun i hi => e2 _ (rp_r i hi).1 (rp_r i hi).2
  refine ⟨by rw [f1]; exact h1, HL_congr h2 e3, ?_⟩
  rw [e1, f2, f1]
  rcases h3 with h3 | ⟨g1, g2, C, np, nc, nt, ks, wh, g3, g4⟩
  · exact Or.inl h3
  · exact Or.inr ⟨g1, g2, C, np, nc, nt, ks, wh, HH_HE g3 (HE_rfl_B e3), g4⟩
/-- scratch: how long its cells are -/
def SCA (A : Bk) : Prop := WL (fun i => A (99 + i)) ∧ (A 99).getD 0 0 = nI 1 ∧ ((A 116).length = 8 ∧ (A 117).length = 16 ∧ (A 118).length = 16 ∧ (A 119).length = 16 ∧ (A 120).length = 16 ∧ (A 121).length = 400 ∧ (A 122).length = 400) ∧ ((A 123).length = 2 ∧ (A 124).length = 5 ∧ (A 125).length = 16 ∧ (A 126).length = 16 ∧ (A 127).length = 16 ∧ (A 128).length = 16) ∧ ((A 129).length = 4 ∧ (A 130).length = 12 ∧ (A 131).length = 7 ∧ (A 132).length = 16)
theorem SCA_congr {A A' : Bk} (h : SCA A) (e : ∀ j, 99 ≤ j → j < 133 → (A' j).length = (A j).length) (e0 : (A' 99).getD 0 0 = (A 99).getD 0 0) : SCA A' := by
  unfold SCA WL at *
  simp only [Nat.reduceAdd] at *
  rw [e0, e 99 (by decide) (by decide), e 100 (by decide) (by decide), e 101 (by decide) (by decide), e 102 (by decide) (by decide), e 103 (by decide) (by decide), e 104 (by decide) (by decide), e 105 (by decide) (by decide), e 106 (by decide) (by decide), e 107 (by decide) (by decide), e 108 (by decide) (by decide), e 109 (by decide) (by decide), e 110 (by decide) (by decide), e 111 (by decide) (by decide), e 116 (by decide) (by decide), e 117 (by decide) (by decide), e 118 (by decide) (by decide), e 119 (by decide) (by decide), e 120 (by decide) (by decide), e 121 (by decide) (by decide), e 122 (by decide) (by decide), e 123 (by decide) (by decide), e 124 (by decide) (by decide), e 125 (by decide) (by decide), e 126 (by decide) (by decide), e 127 (by decide) (by decide), e 128 (by decide) (by decide), e 129 (by decide) (by decide), e 130 (by decide) (by decide), e 131 (by decide) (by decide), e 132 (by decide) (by decide)]
  exact h
def SCB (B : Bk) : Prop := (B 3).length = 183 ∧ B 8 = sb_X11_init 8 ∧ (B 16).length = 40 ∧ (B 23).length = 12 ∧ (B 24).length = 7 ∧ (B 25).length = 5040 ∧ (B 26).length = 5040 ∧ (B 27).length = 64 ∧ (B 28).length = 64 ∧ (B 31).length = 16 ∧ B 33 = [1, 3, 9, 27] ∧ (B 34).length = 121 ∧ (B 36).length = 2048
theorem SCB_congr {B B' : Bk} (h : SCB B) (e : ∀ j, j ∈ [3, 16, 23, 24, 25, 26, 27, 28, 31, 34, 36] → (B' j).length = (B j).length) (e8 : B' 8 = B 8) (e33 : B' 33 = B 33) : SCB B' := by
  unfold SCB at *
  rw [e8, e33, e 3 (by decide), e 16 (by decide), e 23 (by decide), e 24 (by decide), e 25 (by decide), e 26 (by decide), e 27 (by decide), e 28 (by decide), e 31 (by decide), e 34 (by decide), e 36 (by decide)]
  exact h
def R (A B : Bk) : Prop := (∃ (np nc nt : Nat) (ks : Nat → List Nat) (wh : Nat → Nat), HH (fun i => A (rh24 i)) B np nc nt ks wh ∧ UD A B np nc nt) ∧ TP A B ∧ IM A B ∧ SCA A ∧ SCB B
theorem rh24_v : ∀ i, i < 49 → rh24 i = if i = 0 then 1 else if i < 36 then 14 + i else i - 34 := by decide +kernel
/-- only scratch has changed -/
def XF (A A' B B' : Bk) : Prop := (∀ j, j < 211 → j ≠ 129 → j ≠ 130 → j ≠ 131 → j ≠ 132 → A' j = A j) ∧ (∀ j, j < 211 → (A' j).length = (A j).length) ∧ (∀ i, i < 38 → i ≠ 0 → i ∉ [3, 16, 20, 21, 23, 24, 25, 26, 27, 28, 31, 34, 36] → B' i = B i) ∧ (∀ i, i < 38 → (B' i).length = (B i).length) ∧ ∀ k, k ∈ [3, 5, 6, 7, 8, 13, 33, 34, 35, 37, 39, 43, 52, 54, 57, 61, 65] → (B' 0).getD k 0 = (B 0).getD k 0
theorem R_XF {A A' B B' : Bk} (h : R A B) (x : XF A A' B B') : R A' B' := by
  obtain ⟨x1, x2, x3, x4, x5⟩ := x
  obtain ⟨⟨np, nc, nt, ks, wh, hH, hU⟩, hT, hI, hA, hB⟩ := h
  have hc : ∀ i, i ∈ cBl → i < 38 ∧ i ≠ 0 ∧ i ∉ [3, 16, 20, 21, 23, 24, 25, 26, 27, 28, 31, 34, 36] := by decide
  have hs : ∀ k, k ∈ sBl → k ∈ [3, 5, 6, 7, 8, 13, 33, 34, 35, 37, 39, 43, 52, 54, 57, 61, 65] := by decide
  have hv : ∀ i, i < 49 → rh24 i < 129 := by decide +kernel
  have hE : HE (fun i => A (rh24 i)) (fun i => A' (rh24 i)) B B' := by
    have e : ∀ i, i < 49 → A' (rh24 i) = A (rh24 i) := fun i hi => x1 _ (by have := hv i hi; omega) (by have := hv i hi; omega) (by have := hv i hi; omega) (by have := hv i hi; omega) (by have := hv i hi; omega)
    exact ⟨fun i hi _ _ => e i hi, by show (A' (rh24 9)).length = _; rw [e 9 (by decide)], by show (A' (rh24 35)).length = _; rw [e 35 (by decide)], fun i hi => x3 i (hc i hi).1 (hc i hi).2.1 (hc i hi).2.2, x4 20 (by decide), x4 21 (by decide), x4 0 (by decide), fun k hk => x5 k (hs k hk)⟩
  refine ⟨⟨np, nc, nt, ks, wh, HH_HE hH hE, UD_congr hU (x2 0 (by decide)) (by rw [x1 0 (by decide) (by decide) (by decide) (by decide) (by decide)]) (x1 112 (by decide) (by decide) (by decide) (by decide) (by decide)) (fun j h1 h2 => x1 j h2 (by omega) (by omega) (by omega) (by omega)) (x3 2 (by decide) (by decide) (by decide)) (x3 4 (by decide) (by decide) (by decide)) (x3 5 (by decide) (by decide) (by decide)) (x5 3 (by decide))⟩, ?_, ?_, ?_, ?_⟩
  · exact TP_congr hT (x1 113 (by decide) (by decide) (by decide) (by decide) (by decide)) (x1 114 (by decide) (by decide) (by decide) (by decide) (by decide)) (x3 7 (by decide) (by decide) (by decide)) (x5 13 (by decide)) (x5 33 (by decide)) (x5 34 (by decide))
  · exact IM_congr hI (by rw [x1 0 (by decide) (by decide) (by decide) (by decide) (by decide)]) (fun j h1 h2 => x1 j (by omega) (by omega) (by omega) (by omega) (by omega)) (x3 37 (by decide) (by decide) (by decide)) (x5 65 (by decide))
  · exact SCA_congr hA (fun j h1 h2 => x2 j (by omega)) (by rw [x1 99 (by decide) (by decide) (by decide) (by decide) (by decide)])
  · exact SCB_congr hB (fun j hj => x4 j (by revert hj; revert j; decide)) (x3 8 (by decide) (by decide) (by decide)) (x3 33 (by decide) (by decide) (by decide))
theorem XF_rfl (A B : Bk) : XF A A B B := ⟨fun _ _ _ _ _ _ => rfl, fun _ _ => rfl, fun _ _ _ _ => rfl, fun _ _ => rfl, fun _ _ => rfl⟩
theorem XF_trans {A A1 A2 B B1 B2 : Bk} (h : XF A A1 B B1) (g : XF A1 A2 B1 B2) : XF A A2 B B2 := by
  obtain ⟨h1, h2, h3, h4, h5⟩ := h
  obtain ⟨g1, g2, g3, g4, g5⟩ := g
  exact ⟨fun j a b c d e => (g1 j a b c d e).trans (h1 j a b c d e), fun j a => (g2 j a).trans (h2 j a), fun i a b c => (g3 i a b c).trans (h3 i a b c), fun i a => (g4 i a).trans (h4 i a), fun k a => (g5 k a).trans (h5 k a)⟩
theorem XF_A {A B : Bk} {k : Nat} {l : List Int32} (hk : k = 129 ∨ k = 130 ∨ k = 131 ∨ k = 132) (hl : l.length = (A k).length) : XF A (up A k l) B B := ⟨fun j a b c d e => up_ne _ _ (by omega), fun j _ => up_len hl j, fun _ _ _ _ => rfl, fun _ _ => rfl, fun _ _ => rfl⟩
theorem XF_B {A B : Bk} {k : Nat} {l : List Int32} (hk : k ∈ [3, 16, 20, 21, 23, 24, 25, 26, 27, 28, 31, 34, 36]) (hl : l.length = (B k).length) : XF A A B (up B k l) := by
  have h0 : k ≠ 0 := fun q => by subst q; exact absurd hk (by decide)
  exact ⟨fun _ _ _ _ _ _ => rfl, fun _ _ => rfl, fun i a b c => up_ne _ _ (fun q => c (by rw [q]; exact hk)), fun i _ => up_len hl i, fun s _ => by rw [up_ne _ _ (fun q => h0 q.symm)]⟩
theorem XF_s {A B : Bk} {k : Nat} {v : Int32} (hk : k ∉ [3, 5, 6, 7, 8, 13, 33, 34, 35, 37, 39, 43, 52, 54, 57, 61, 65]) : XF A A B (up B 0 ((B 0).set k v)) :=
  ⟨fun _ _ _ _ _ _ => rfl, fun _ _ => rfl, fun i a b c => up_ne _ _ b, fun i _ => up_len List.length_set i, fun s hs => by rw [up_same, gd_set_ne (fun q => hk (by rw [q]; exact hs))]⟩
/-- the first thing that every method of the reference does -/
theorem R_told {A B : Bk} (h : R A B) : R A (up B 0 ((B 0).set 0 0)) := R_XF h (XF_s (by decide))
theorem R_B0 {A B : Bk} (h : R A B) : (B 0).length = 68 := by
  obtain ⟨⟨np, nc, nt, ks, wh, hH, hU⟩, -⟩ := h
  exact hH.1.2.2.2.1.1
