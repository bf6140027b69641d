/-! PURE: text: the relation, when the law or lines are told anew -/
set_option maxHeartbeats 800000 in
theorem RLaw_c {V V' : Bk} {lm lw lf lh lt op ar lm' lw' lf' lh' lt' op' ar' : List Int32} (h : RLaw V lm lw lf lh lt op ar) (hv : ∀ i, i < 7 → V' i = V i) (g0 : lm'.length = lm.length ∧ lm'.getD 0 0 = lm.getD 0 0) (g1 : lw'.length = lw.length ∧ ∀ i, i < 16 → lw'.getD i 0 = lw.getD i 0) (g2 : lf'.length = lf.length ∧ ∀ i, i < 16 → lf'.getD i 0 = lf.getD i 0) (g3 : lh'.length = lh.length ∧ ∀ i, i < 16 → lh'.getD i 0 = lh.getD i 0) (g4 : lt'.length = lt.length ∧ ∀ i, i < 16 → lt'.getD i 0 = lt.getD i 0) (g5 : op'.length = op.length ∧ ∀ i, i < 400 → op'.getD i 0 = op.getD i 0) (g6 : ar'.length = ar.length ∧ ∀ i, i < 400 → ar'.getD i 0 = ar.getD i 0) : RLaw V' lm' lw' lf' lh' lt' op' ar' := by
  obtain ⟨⟨v0, v1, v2, v3, v4, v5, v6⟩, ⟨a0, a1, a2, a3, a4, a5, a6⟩, n, cd, hn, hcd, x1, x2, x3, x4⟩ := h
  refine ⟨⟨by rw [hv 0 (by decide)]; exact v0, by rw [hv 1 (by decide)]; exact v1, by rw [hv 2 (by decide)]; exact v2, by rw [hv 3 (by decide)]; exact v3, by rw [hv 4 (by decide)]; exact v4, by rw [hv 5 (by decide)]; exact v5, by rw [hv 6 (by decide)]; exact v6⟩, ⟨g0.1.trans a0, g1.1.trans a1, g2.1.trans a2, g3.1.trans a3, g4.1.trans a4, g5.1.trans a5, g6.1.trans a6⟩, n, cd, hn, hcd, by rw [hv 0 (by decide)]; exact x1, g0.2.trans x2, fun i hi => ?_, fun i hi => ?_⟩
  · rw [hv 5 (by decide), g5.2 i (by omega), g6.2 i (by omega)]; exact x3 i hi
  · rw [hv 1 (by decide), hv 2 (by decide), hv 3 (by decide), hv 4 (by decide), hv 5 (by decide), g1.2 i (by omega), g2.2 i (by omega), g3.2 i (by omega), g4.2 i (by omega)]; exact x4 i hi
set_option maxHeartbeats 800000 in
theorem RDeeds_c {V V' : Bk} {m m' : Int32} {ds ds' : List Int32} {np nc nt : Nat} (h : RDeeds V m ds np nc nt) (hv : ∀ i, i < 5 → V' i = V i) (hm : m' = m) (hl : ds'.length = ds.length) (hd : ∀ i, i < 64 → ds'.getD i 0 = ds.getD i 0) : RDeeds V' m' ds' np nc nt := by
  obtain ⟨⟨v0, v1, v2, v3, v4, a5⟩, n, hn, x1, x2, x3⟩ := h
  refine ⟨⟨by rw [hv 0 (by decide)]; exact v0, by rw [hv 1 (by decide)]; exact v1, by rw [hv 2 (by decide)]; exact v2, by rw [hv 3 (by decide)]; exact v3, by rw [hv 4 (by decide)]; exact v4, hl.trans a5⟩, n, hn, by rw [hv 0 (by decide)]; exact x1, hm.trans x2, fun i hi => ?_⟩
  rw [hv 1 (by decide), hv 2 (by decide), hv 3 (by decide), hv 4 (by decide), hd (4 * i) (by omega), hd (4 * i + 1) (by omega), hd (4 * i + 2) (by omega), hd (4 * i + 3) (by omega)]
  exact x3 i hi
set_option maxHeartbeats 800000 in
theorem RMinds_c {V V' : Bk} {m m' : Int32} {ds ds' : List Int32} {np : Nat} (h : RMinds V m ds np) (hv : ∀ i, i < 5 → V' i = V i) (hm : m' = m) (hl : ds'.length = ds.length) (hd : ∀ i, i < 48 → ds'.getD i 0 = ds.getD i 0) : RMinds V' m' ds' np := by
  obtain ⟨⟨v0, v1, v2, v3, v4, a5⟩, n, hn, x1, x2, x3⟩ := h
  refine ⟨⟨by rw [hv 0 (by decide)]; exact v0, by rw [hv 1 (by decide)]; exact v1, by rw [hv 2 (by decide)]; exact v2, by rw [hv 3 (by decide)]; exact v3, by rw [hv 4 (by decide)]; exact v4, hl.trans a5⟩, n, hn, by rw [hv 0 (by decide)]; exact x1, hm.trans x2, fun i hi => ?_⟩
  rw [hv 1 (by decide), hv 3 (by decide), hv 4 (by decide), hd (3 * i) (by omega), hd (3 * i + 1) (by omega), hd (3 * i + 2) (by omega)]
  exact x3 i hi
set_option maxHeartbeats 800000 in
theorem RFr_c {V V' : Bk} {m m' : Int32} {ds ds' : List Int32} {np : Nat} (h : RFr V m ds np) (hv : ∀ i, i < 5 → V' i = V i) (hm : m' = m) (hl : ds'.length = ds.length) (hd : ∀ i, i < 12 → ds'.getD i 0 = ds.getD i 0) : RFr V' m' ds' np := by
  obtain ⟨⟨v0, v1, v2, v3, v4, a5⟩, n, hn, x1, x2, x3, x4⟩ := h
  refine ⟨⟨by rw [hv 0 (by decide)]; exact v0, by rw [hv 1 (by decide)]; exact v1, by rw [hv 2 (by decide)]; exact v2, by rw [hv 3 (by decide)]; exact v3, by rw [hv 4 (by decide)]; exact v4, hl.trans a5⟩, n, hn, by rw [hv 0 (by decide)]; exact x1, hm.trans x2, fun i hi => ?_, fun q hq => ?_⟩
  · rw [hv 3 (by decide), hv 4 (by decide)]
    exact x3 i hi
  · rw [hv 3 (by decide), hv 4 (by decide), hd q hq]
    exact x4 q hq
set_option maxHeartbeats 800000 in
theorem R_tx {A A' B B' : Bk} {np nc nt : Nat} {ks : Nat → List Nat} {wh : Nat → Nat} (hH : HH (fun i => A (rh24 i)) B np nc nt ks wh) (hU : UD A B np nc nt) (hI : IM A B) (hA : SCA A) (hB : SCB B)
    (xA : ∀ j, j < 211 → j ≠ 0 → ¬ (17 ≤ j ∧ j ≤ 38) → j ≠ 113 → ¬ (115 ≤ j ∧ j ≤ 128) → A' j = A j)
    (lA : ∀ j, j < 211 → (A' j).length = (A j).length)
    (xB : ∀ i, i < 38 → i ≠ 0 → ¬ (9 ≤ i ∧ i ≤ 19) → B' i = B i)
    (lB : ∀ i, i < 38 → (B' i).length = (B i).length)
    (sB : ∀ k, k ∈ [5, 6, 7, 8, 43, 52, 54, 57, 61, 65] → (B' 0).getD k 0 = (B 0).getD k 0)
    (a2 : (A' 0).getD 2 0 = (A 0).getD 2 0)
    (hu : ((A' 0).getD 5 0 = (A 0).getD 5 0 ∧ (B' 0).getD 3 0 = (B 0).getD 3 0) ∨ ((A' 0).getD 5 0 = 0 ∧ (B' 0).getD 3 0 = 0))
    (hT : TP A' B')
    (hL : RLaw (fun i => A' (17 + i)) (B' 9) (B' 10) (B' 11) (B' 12) (B' 13) (B' 14) (B' 15))
    (hD : RDeeds (fun i => A' (24 + i)) ((B' 0).getD 35 0) (B' 17) np nc nt) (hM : RMinds (fun i => A' (29 + i)) ((B' 0).getD 37 0) (B' 18) np) (hF : RFr (fun i => A' (34 + i)) ((B' 0).getD 39 0) (B' 19) np) : R A' B' := by
  obtain ⟨⟨h1, ⟨h2, h3⟩, ⟨h4, h5⟩, ⟨s0, s5, s6, s7, s8⟩, -, -, -, -, ⟨t1, t2, t3⟩⟩, tt⟩ := hH
  have rv : ∀ i, i < 49 → rh24 i < 50 ∧ rh24 i ≠ 0 ∧ (¬ (3 ≤ i ∧ i ≤ 24) → ¬ (17 ≤ rh24 i ∧ rh24 i ≤ 38)) := by
    intro i hi
    rw [rh24_v i hi]
    by_cases c0 : i = 0
    · rw [if_pos c0]; omega
    · rw [if_neg c0]
      by_cases c1 : i < 36
      · rw [if_pos c1]; omega
      · rw [if_neg c1]; omega
  have e : ∀ i, i < 49 → ¬ (3 ≤ i ∧ i ≤ 24) → A' (rh24 i) = A (rh24 i) := fun i hi hn => by
    have := rv i hi
    exact xA _ (by omega) this.2.1 (this.2.2 hn) (by omega) (by omega)
  have v17 : ∀ i, i < 7 → A' (rh24 (3 + i)) = A' (17 + i) := fun i hi => by rw [rh24_v _ (by omega), if_neg (by omega), if_pos (by omega), show 14 + (3 + i) = 17 + i by omega]
  have v24 : ∀ i, i < 5 → A' (rh24 (10 + i)) = A' (24 + i) := fun i hi => by rw [rh24_v _ (by omega), if_neg (by omega), if_pos (by omega), show 14 + (10 + i) = 24 + i by omega]
  have v29 : ∀ i, i < 5 → A' (rh24 (15 + i)) = A' (29 + i) := fun i hi => by rw [rh24_v _ (by omega), if_neg (by omega), if_pos (by omega), show 14 + (15 + i) = 29 + i by omega]
  have v34 : ∀ i, i < 5 → A' (rh24 (20 + i)) = A' (34 + i) := fun i hi => by rw [rh24_v _ (by omega), if_neg (by omega), if_pos (by omega), show 14 + (20 + i) = 34 + i by omega]
  have w : WR (fun i => (fun i => A' (rh24 i)) (rh12 i)) (B' 1) (B' 4) (B' 5) np nc nt ks wh := by
    rw [xB 1 (by decide) (by decide) (by decide), xB 4 (by decide) (by decide) (by decide), xB 5 (by decide) (by decide) (by decide)]
    refine WR_congr h1 (fun i hi => ?_)
    show A' (rh24 (rh12 i)) = A (rh24 (rh12 i))
    rw [rh12_v i hi]
    exact e _ (by omega) (by omega)
  have hHR : HR (fun i => A' (rh24 i)) B' 0 np nc nt ks wh := by
    refine ⟨w, ⟨h2, ?_⟩, ⟨?_, ?_⟩, ⟨?_, ?_, ?_, ?_, ?_⟩, ?_, ?_, ?_, ?_, ?_, ?_, ?_⟩
    · show (A' (rh24 36)).getD 0 0 = _
      rw [e 36 (by decide) (by decide)]; exact h3
    · show A' (rh24 2) = B' 6
      rw [e 2 (by decide) (by decide), xB 6 (by decide) (by decide) (by decide)]; exact h4
    · rw [xB 6 (by decide) (by decide) (by decide)]; exact h5
    · rw [lB 0 (by decide)]; exact s0
    · rw [sB 5 (by decide)]; exact s5
    · rw [sB 6 (by decide)]; exact s6
    · rw [sB 7 (by decide)]; exact s7
    · rw [sB 8 (by decide)]; exact s8
    · exact RLaw_c hL (fun i hi => v17 i hi) ⟨rfl, rfl⟩ ⟨rfl, fun _ _ => rfl⟩ ⟨rfl, fun _ _ => rfl⟩ ⟨rfl, fun _ _ => rfl⟩ ⟨rfl, fun _ _ => rfl⟩ ⟨rfl, fun _ _ => rfl⟩ ⟨rfl, fun _ _ => rfl⟩
    · exact RDeeds_c hD (fun i hi => v24 i hi) rfl rfl (fun _ _ => rfl)
    · exact RMinds_c hM (fun i hi => v29 i hi) rfl rfl (fun _ _ => rfl)
    · exact RFr_c hF (fun i hi => v34 i hi) rfl rfl (fun _ _ => rfl)
    · show (A' (rh24 35)).length = _
      rw [e 35 (by decide) (by decide)]; exact t1
    · rw [xB 20 (by decide) (by decide) (by decide)]; exact t2
    · rw [xB 21 (by decide) (by decide) (by decide)]; exact t3
  have hTT : TT (fun i => A' (rh24 i)) B' := by
    unfold TT at *
    rw [sB 43 (by decide), sB 52 (by decide), sB 54 (by decide), sB 57 (by decide), sB 61 (by decide), xB 22 (by decide) (by decide) (by decide), xB 29 (by decide) (by decide) (by decide), xB 30 (by decide) (by decide) (by decide), xB 32 (by decide) (by decide) (by decide), xB 35 (by decide) (by decide) (by decide)]
    dsimp only at *
    rw [e 25 (by decide) (by decide), e 26 (by decide) (by decide), e 27 (by decide) (by decide), e 28 (by decide) (by decide), e 29 (by decide) (by decide), e 30 (by decide) (by decide), e 31 (by decide) (by decide), e 32 (by decide) (by decide), e 33 (by decide) (by decide), e 34 (by decide) (by decide)]
    exact tt
  have hUD : UD A' B' np nc nt := by
    rcases hu with ⟨u1, u2⟩ | ⟨u1, u2⟩
    · exact UD_congr hU (lA 0 (by decide)) u1 (xA 112 (by decide) (by decide) (by decide) (by decide) (by decide)) (fun j j1 j2 => xA j j2 (by omega) (by omega) (by omega) (by omega)) (xB 2 (by decide) (by decide) (by decide)) (xB 4 (by decide) (by decide) (by decide)) (xB 5 (by decide) (by decide) (by decide)) u2
    · exact UD_zero hU (lA 0 (by decide)) u1 (xA 112 (by decide) (by decide) (by decide) (by decide) (by decide)) (fun j j1 j2 => xA j j2 (by omega) (by omega) (by omega) (by omega)) (by rw [xB 2 (by decide) (by decide) (by decide)]) u2
  refine ⟨⟨np, nc, nt, ks, wh, ⟨hHR, hTT⟩, hUD⟩, hT, ?_, ?_, ?_⟩
  · exact IM_congr hI a2 (fun j j1 j2 => xA j (by omega) (by omega) (by omega) (by omega) (by omega)) (xB 37 (by decide) (by decide) (by decide)) (sB 65 (by decide))
  · exact SCA_congr hA (fun j j1 j2 => lA j (by omega)) (by rw [xA 99 (by decide) (by decide) (by decide) (by decide) (by decide)])
  · exact SCB_congr hB (fun j hj => lB j ((by decide : ∀ j, j ∈ [3, 16, 23, 24, 25, 26, 27, 28, 31, 34, 36] → j < 38) j hj)) (xB 8 (by decide) (by decide) (by decide)) (xB 33 (by decide) (by decide) (by decide))
