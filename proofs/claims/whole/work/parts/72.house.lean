/-! PURE: the house (its law, its lines) and a world, beside the reference -/
/-- whom one knows, gathered line by line -/
def frF (l3 l4 : List Int32) (q : Int32) : Nat → Int32 := fo (fun i a => if l4.getD i 0 = q then (if l3.getD i 0 = q then a ||| (nI 1 <<< (l4.getD i 0 &&& nI 31)) else a) ||| (nI 1 <<< (l3.getD i 0 &&& nI 31)) else if l3.getD i 0 = q then a ||| (nI 1 <<< (l4.getD i 0 &&& nI 31)) else a) 0
def RFr (V : Bk) (m : Int32) (fr : List Int32) (np : Nat) : Prop :=
  ((V 0).length = 5 ∧ (V 1).length = 16 ∧ (V 2).length = 16 ∧ (V 3).length = 16 ∧ (V 4).length = 16 ∧ fr.length = 24) ∧ ∃ n : Nat, n ≤ 16 ∧ (V 0).getD 0 0 = nI n ∧ m = nI n ∧
    (∀ i, i < n → ∃ a b : Nat, (V 3).getD i 0 = nI a ∧ (V 4).getD i 0 = nI b ∧ a < np ∧ b < np ∧ a ≠ b) ∧ ∀ q, q < 12 → fr.getD q 0 = frF (V 3) (V 4) (nI q) n
/-- what stays when days go by: slots of the reference, law, lines, and how long the scratch rows are -/
def HS (H B : Bk) (th np nc nt : Nat) : Prop :=
  ((B 0).length = 68 ∧ (B 0).getD 5 0 = nI th ∧ (B 0).getD 6 0 = nI np ∧ (B 0).getD 7 0 = nI nc ∧ (B 0).getD 8 0 = nI nt) ∧
  RLaw (fun i => H (3 + i)) (B 9) (B 10) (B 11) (B 12) (B 13) (B 14) (B 15) ∧
  RDeeds (fun i => H (10 + i)) ((B 0).getD 35 0) (B 17) np nc nt ∧
  RMinds (fun i => H (15 + i)) ((B 0).getD 37 0) (B 18) np ∧
  RFr (fun i => H (20 + i)) ((B 0).getD 39 0) (B 19) np ∧
  ((H 35).length = 9 ∧ (B 20).length = 9 ∧ (B 21).length = 420)
def HR (H B : Bk) (th np nc nt : Nat) (ks : Nat → List Nat) (wh : Nat → Nat) : Prop :=
  WR (fun i => H (rh12 i)) (B 1) (B 4) (B 5) np nc nt ks wh ∧ (th ≤ 1 ∧ (H 36).getD 0 0 = nI th) ∧ (H 2 = B 6 ∧ (B 6).length = 600) ∧ HS H B th np nc nt
/-- only what a day may change has changed -/
def HG (H H' B B' : Bk) : Prop :=
  (∀ i, i < 36 → i ≠ 2 → i ≠ 9 → i ≠ 35 → H' i = H i) ∧ (H' 9).length = (H 9).length ∧ (H' 35).length = (H 35).length ∧
  (∀ i, i ≠ 1 → i ≠ 6 → i ≠ 20 → i ≠ 21 → B' i = B i) ∧ (B' 20).length = (B 20).length ∧ (B' 21).length = (B 21).length
theorem HG_rfl (H B : Bk) : HG H H B B := ⟨fun _ _ _ _ _ => rfl, rfl, rfl, fun _ _ _ _ _ => rfl, rfl, rfl⟩
theorem HG_trans {H H' H'' B B' B'' : Bk} (h : HG H H' B B') (g : HG H' H'' B' B'') : HG H H'' B B'' := by
  obtain ⟨h1, h2, h3, h4, h5, h6⟩ := h
  obtain ⟨g1, g2, g3, g4, g5, g6⟩ := g
  exact ⟨fun i a b c d => (g1 i a b c d).trans (h1 i a b c d), g2.trans h2, g3.trans h3, fun i a b c d => (g4 i a b c d).trans (h4 i a b c d), g5.trans h5, g6.trans h6⟩
theorem HG_H {H B : Bk} {k : Nat} {l : List Int32} (hk : k = 2 ∨ k = 9 ∨ k = 35 ∨ 36 ≤ k) (hl : l.length = (H k).length) : HG H (up H k l) B B :=
  ⟨fun i a b c d => up_ne _ _ (by omega), up_len hl 9, up_len hl 35, fun _ _ _ _ _ => rfl, rfl, rfl⟩
theorem HG_B {H B : Bk} {k : Nat} {l : List Int32} (hk : k = 1 ∨ k = 6 ∨ k = 20 ∨ k = 21) (hl : l.length = (B k).length) : HG H H B (up B k l) :=
  ⟨fun _ _ _ _ _ => rfl, rfl, rfl, fun i a b c d => up_ne _ _ (by omega), up_len hl 20, up_len hl 21⟩
theorem rh12_v : ∀ i, i < 13 → rh12 i = 36 + i := by decide +kernel
theorem HG_pu {H B W : Bk} : HG H (pu rh12 13 W H) B B :=
  ⟨fun i a b c d => pu_out (fun j hj => by rw [rh12_v j hj]; omega) _ _, by rw [pu_out (fun j hj => by rw [rh12_v j hj]; omega)], by rw [pu_out (fun j hj => by rw [rh12_v j hj]; omega)], fun _ _ _ _ _ => rfl, rfl, rfl⟩
theorem HS_HF {H H' B B' : Bk} {th np nc nt : Nat} (h : HS H B th np nc nt) (f : HG H H' B B') : HS H' B' th np nc nt := by
  obtain ⟨f1, f2, f3, f4, f5, f6⟩ := f
  obtain ⟨a, b, c, d, e, g1, g2, g3⟩ := h
  have e0 := f4 0 (by omega) (by omega) (by omega) (by omega)
  unfold HS RLaw RDeeds RMinds RFr at *
  rw [e0, f4 9 (by omega) (by omega) (by omega) (by omega), f4 10 (by omega) (by omega) (by omega) (by omega), f4 11 (by omega) (by omega) (by omega) (by omega), f4 12 (by omega) (by omega) (by omega) (by omega), f4 13 (by omega) (by omega) (by omega) (by omega), f4 14 (by omega) (by omega) (by omega) (by omega), f4 15 (by omega) (by omega) (by omega) (by omega), f4 17 (by omega) (by omega) (by omega) (by omega), f4 18 (by omega) (by omega) (by omega) (by omega), f4 19 (by omega) (by omega) (by omega) (by omega), f5, f6, f3]
  simp only [Nat.reduceAdd] at *
  rw [f2]
  rw [f1 3 (by omega) (by omega) (by omega) (by omega)]
  rw [f1 4 (by omega) (by omega) (by omega) (by omega)]
  rw [f1 5 (by omega) (by omega) (by omega) (by omega)]
  rw [f1 6 (by omega) (by omega) (by omega) (by omega)]
  rw [f1 7 (by omega) (by omega) (by omega) (by omega)]
  rw [f1 8 (by omega) (by omega) (by omega) (by omega)]
  rw [f1 10 (by omega) (by omega) (by omega) (by omega)]
  rw [f1 11 (by omega) (by omega) (by omega) (by omega)]
  rw [f1 12 (by omega) (by omega) (by omega) (by omega)]
  rw [f1 13 (by omega) (by omega) (by omega) (by omega)]
  rw [f1 14 (by omega) (by omega) (by omega) (by omega)]
  rw [f1 15 (by omega) (by omega) (by omega) (by omega)]
  rw [f1 16 (by omega) (by omega) (by omega) (by omega)]
  rw [f1 17 (by omega) (by omega) (by omega) (by omega)]
  rw [f1 18 (by omega) (by omega) (by omega) (by omega)]
  rw [f1 19 (by omega) (by omega) (by omega) (by omega)]
  rw [f1 20 (by omega) (by omega) (by omega) (by omega)]
  rw [f1 21 (by omega) (by omega) (by omega) (by omega)]
  rw [f1 22 (by omega) (by omega) (by omega) (by omega)]
  rw [f1 23 (by omega) (by omega) (by omega) (by omega)]
  rw [f1 24 (by omega) (by omega) (by omega) (by omega)]
  exact ⟨a, b, c, d, e, g1, g2, g3⟩
theorem rh12_inj : ∀ i j, i < 13 → j < 13 → rh12 i = rh12 j → i = j := fun i j hi hj h => by
  rw [rh12_v i hi, rh12_v j hj] at h; omega
/-- a part of the world that has changed, put back -/
theorem WR_pu {H W : Bk} {nw ow du : List Int32} {np nc nt : Nat} {ks : Nat → List Nat} {wh : Nat → Nat} (h : WR W nw ow du np nc nt ks wh) : WR (fun i => pu rh12 13 W H (rh12 i)) nw ow du np nc nt ks wh :=
  WR_congr h (fun i hi => pu_in rh12_inj hi W H)
theorem pu_36 {H W : Bk} : pu rh12 13 W H 36 = W 0 := pu_in rh12_inj (i := 0) (by decide) W H
theorem pu_lo {H W : Bk} {k : Nat} (hk : k < 36) : pu rh12 13 W H k = H k := pu_out (fun j hj => by rw [rh12_v j hj]; omega) _ _
/-- the world, changed by a method of its own -/
theorem HR_world {H B W : Bk} {nw : List Int32} {th np nc nt : Nat} {ks ks' : Nat → List Nat} {wh wh' : Nat → Nat} (h : HR H B th np nc nt ks wh) (hW : WR W nw (B 4) (B 5) np nc nt ks' wh') (h0 : (W 0).getD 0 0 = nI th) : HR (pu rh12 13 W H) (up B 1 nw) th np nc nt ks' wh' := by
  obtain ⟨h1, ⟨h2, h3⟩, ⟨h4, h5⟩, h6⟩ := h
  have hl : nw.length = (B 1).length := by rw [hW.2.1.1, h1.2.1.1]
  refine ⟨WR_pu hW, ⟨h2, by rw [pu_36]; exact h0⟩, ⟨?_, h5⟩, HS_HF h6 (HG_trans HG_pu (HG_B (Or.inl rfl) hl))⟩
  rw [pu_lo (by decide)]; exact h4
/-- a cell of the world, changed from outside -/
theorem HR_cell {H B : Bk} {l nw : List Int32} {k th np nc nt : Nat} {ks ks' : Nat → List Nat} {wh wh' : Nat → Nat} (h : HR H B th np nc nt ks wh) (hk : k < 13) (hW : WR (up (fun i => H (rh12 i)) k l) nw (B 4) (B 5) np nc nt ks' wh') (h0 : k = 0 → l.getD 0 0 = nI th) : HR (up H (36 + k) l) (up B 1 nw) th np nc nt ks' wh' := by
  obtain ⟨h1, ⟨h2, h3⟩, ⟨h4, h5⟩, h6⟩ := h
  have hl : nw.length = (B 1).length := by rw [hW.2.1.1, h1.2.1.1]
  have hl2 : l.length = (H (36 + k)).length := by
    have e1 : ∀ j, j < 13 → (up (fun i => H (rh12 i)) k l j).length = (H (36 + j)).length := by
      intro j hj
      have w1 := hW.1
      have w2 := h1.1
      unfold WL at w1 w2
      have := rh12_v
      rcases j with _ | _ | _ | _ | _ | _ | _ | _ | _ | _ | _ | _ | _ | j <;> first | omega | (simp only [rh12_v _ (show 0 < 13 by decide), rh12_v _ (show 1 < 13 by decide), rh12_v _ (show 2 < 13 by decide), rh12_v _ (show 3 < 13 by decide), rh12_v _ (show 4 < 13 by decide), rh12_v _ (show 5 < 13 by decide), rh12_v _ (show 6 < 13 by decide), rh12_v _ (show 7 < 13 by decide), rh12_v _ (show 8 < 13 by decide), rh12_v _ (show 9 < 13 by decide), rh12_v _ (show 10 < 13 by decide), rh12_v _ (show 11 < 13 by decide), rh12_v _ (show 12 < 13 by decide)] at w1 w2; simp only [Nat.zero_add, Nat.reduceAdd] at *; omega)
    have := e1 k hk
    rwa [up_same] at this
  refine ⟨WR_congr hW (fun i hi => ?_), ⟨h2, ?_⟩, ⟨?_, h5⟩, HS_HF h6 (HG_trans (HG_H (by omega) hl2) (HG_B (Or.inl rfl) hl))⟩
  · show up H (36 + k) l (rh12 i) = up (fun i => H (rh12 i)) k l i
    rw [up_ap, up_ap, rh12_v i hi]
    by_cases hq : i = k
    · rw [if_pos (by omega), if_pos hq]
    · rw [if_neg (by omega), if_neg hq]
  · rw [up_ap]
    by_cases hq : k = 0
    · subst hq; exact h0 rfl
    · rw [if_neg (by omega)]; exact h3
  · rw [up_ne _ _ (by omega)]; exact h4
/-- scratch of the house and of the reference, changed -/
theorem HR_scratch {H B : Bk} {s9 s35 b20 b21 : List Int32} {th np nc nt : Nat} {ks : Nat → List Nat} {wh : Nat → Nat} (h : HR H B th np nc nt ks wh) (l9 : s9.length = 400) (l35 : s35.length = 9) (m20 : b20.length = 9) (m21 : b21.length = 420) : HR (up (up H 35 s35) 9 s9) (up (up B 20 b20) 21 b21) th np nc nt ks wh := by
  obtain ⟨h1, ⟨h2, h3⟩, ⟨h4, h5⟩, h6⟩ := h
  have z9 : (H 9).length = 400 := h6.2.1.1.2.2.2.2.2.2
  have z35 := h6.2.2.2.2.2
  refine ⟨WR_congr h1 (fun i hi => ?_), ⟨h2, ?_⟩, ⟨?_, h5⟩, HS_HF h6 (HG_trans (HG_trans (HG_H (k := 35) (by omega) (by rw [l35, z35.1])) (HG_H (k := 9) (by omega) (by rw [l9, up_ne _ _ (by omega), z9]))) (HG_trans (HG_B (k := 20) (by omega) (by rw [m20, z35.2.1])) (HG_B (k := 21) (by omega) (by rw [m21, up_ne _ _ (by omega), z35.2.2]))))⟩
  · show up (up H 35 s35) 9 s9 (rh12 i) = H (rh12 i)
    rw [rh12_v i hi, up_ne _ _ (by omega), up_ne _ _ (by omega)]
  · rw [up_ne _ _ (by omega), up_ne _ _ (by omega)]; exact h3
  · rw [up_ne _ _ (by omega), up_ne _ _ (by omega)]; exact h4
/-- the book, written -/
theorem HR_line {H B : Bk} {bk z nw : List Int32} {ln np nc nt : Nat} {ks : Nat → List Nat} {wh : Nat → Nat} (h : HR H B 0 np nc nt ks wh) (hln : ln ≤ 150) (hb : bk.length = 600) (hz : z = (H 36).set 3 (nI ln)) (hw : nw = (B 1).set 2 (nI ln)) : HR (up (up H 2 bk) 36 z) (up (up B 6 bk) 1 nw) 0 np nc nt ks wh := by
  obtain ⟨h1, ⟨h2, h3⟩, ⟨h4, h5⟩, h6⟩ := h
  have h1' : WR (fun i => up H 2 bk (rh12 i)) (B 1) (B 4) (B 5) np nc nt ks wh := WR_congr h1 (fun i hi => by
    show up H 2 bk (rh12 i) = H (rh12 i)
    rw [rh12_v i hi, up_ne _ _ (by omega)])
  have g : HR (up H 2 bk) (up B 6 bk) 0 np nc nt ks wh := ⟨h1', ⟨h2, by rw [up_ne _ _ (by omega)]; exact h3⟩, ⟨by rw [up_same, up_same], by rw [up_same]; exact hb⟩, HS_HF h6 (HG_trans (HG_H (k := 2) (by omega) (by rw [hb, h4, h5])) (HG_B (k := 6) (by omega) (by rw [hb, h5])))⟩
  have hl0 : (H 36).length = 19 := h1.1.1
  refine HR_cell (k := 0) g (by decide) (l := z) (nw := nw) ?_ (fun _ => ?_)
  · subst hz; subst hw
    exact WR_line h1' hln
  · subst hz
    rw [gd_set_ne (by omega)]; exact h3
/-- and in thought no line is written -/
def HF (H H' B B' : Bk) : Prop := HG H H' B B' ∧ ((H 36).getD 0 0 = nI 1 → H' 2 = H 2 ∧ (H' 36).getD 0 0 = nI 1)
theorem HF_rfl (H B : Bk) : HF H H B B := ⟨HG_rfl H B, fun q => ⟨rfl, q⟩⟩
theorem HF_trans {H H' H'' B B' B'' : Bk} (h : HF H H' B B') (g : HF H' H'' B' B'') : HF H H'' B B'' := ⟨HG_trans h.1 g.1, fun q => ⟨(g.2 (h.2 q).2).1.trans (h.2 q).1, (g.2 (h.2 q).2).2⟩⟩
theorem HF_H {H B : Bk} {k : Nat} {l : List Int32} (hk : k = 9 ∨ k = 35 ∨ 36 < k) (hl : l.length = (H k).length) : HF H (up H k l) B B := ⟨HG_H (by omega) hl, fun q => ⟨up_ne _ _ (by omega), by rw [up_ne _ _ (by omega)]; exact q⟩⟩
theorem HF_B {H B : Bk} {k : Nat} {l : List Int32} (hk : k = 1 ∨ k = 6 ∨ k = 20 ∨ k = 21) (hl : l.length = (B k).length) : HF H H B (up B k l) := ⟨HG_B hk hl, fun q => ⟨rfl, q⟩⟩
theorem HF_pu {H B W : Bk} (h0 : W 0 = H 36) : HF H (pu rh12 13 W H) B B := ⟨HG_pu, fun q => ⟨pu_lo (by decide), by rw [pu_36, h0]; exact q⟩⟩
theorem HF_0 {H H' B B' : Bk} (g : HG H H' B B') (h0 : (H 36).getD 0 0 = nI 0) : HF H H' B B' := ⟨g, fun q => absurd (h0.symm.trans q) (by decide)⟩
