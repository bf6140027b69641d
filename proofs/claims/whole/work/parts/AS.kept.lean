/-! PURE: text: a law is read; what stays -/
theorem pu_keep {ρ : Nat → Nat} {n j : Nat} {S' S : Bk} (h : ∀ i, i < n → ρ i = j → S' i = S j) : pu ρ n S' S j = S j := by
  unfold pu
  cases hq : ixo ρ n j with
  | none => rfl
  | some i => exact h i (ixo_some hq).1 (ixo_some hq).2
theorem pu_len {ρ : Nat → Nat} {n j : Nat} {S' S : Bk} (h : ∀ i, i < n → ρ i = j → (S' i).length = (S j).length) : (pu ρ n S' S j).length = (S j).length := by
  unfold pu
  cases hq : ixo ρ n j with
  | none => rfl
  | some i => exact h i (ixo_some hq).1 (ixo_some hq).2
set_option maxHeartbeats 800000 in
theorem wt_start {ts : Nat → Nat} {n : Nat} {U B : Bk} (hx : TXT ts n) (l6 : (U 8).length = 8) (o0 : (U 8).getD 0 0 = nI n) (o5 : (U 8).getD 5 0 = 0) (o6 : (U 8).getD 6 0 = 0) (o7 : (U 8).getD 7 0 = -1) (hy : BY (U 9) ts n) (hb : BSE B ts n) (b14 : (B 0).getD 14 0 = 0) : ∃ U' B', (∀ {β : Type} (K : Int32 → MM β), bd (lf rh16 2 gX7_next) K U = K 0 U') ∧ gX11_reads B = some (0, B') ∧ WT ts n U U' B B' (tkN ts n 0) ∧ (∀ c, c ≠ 8 → U' c = U c) ∧ (∀ c, c ≠ 0 → B' c = B c) ∧ ∀ k, k ∉ [14, 15, 16, 17] → (B' 0).getD k 0 = (B 0).getD k 0 := by
  obtain ⟨b1, b2, b3, b4⟩ := hb
  obtain ⟨o, g1, g2, g3, ⟨g4, g4'⟩, g5⟩ := p_next0 (T := fun i => U (rh16 i)) (ts := ts) (n := n) (p := 0) l6 hy o0 o5 (Nat.zero_le _)
  obtain ⟨z, f1, q1, q2, q3, q4, q5, q6, q7, q8⟩ := p_reads0 (B := B) (ts := ts) (n := n) (p := 0) b1 b2 b3 b4 b14 (Nat.zero_le _)
  refine ⟨up U 8 o, up B 0 z, fun K => ?_, f1, ⟨⟨0, Nat.zero_le _, rfl⟩, ⟨fun c hc => by rw [up_ne _ _ hc], fun c hc h8 => up_ne _ _ h8⟩, ?_, FRR_0 (FRR_rfl B) (by rw [q1, b1]) (fun k hk => q2 k (fun w => hk ((show ∀ k, k ∈ [14, 15, 16, 17] → k ∈ wrS by decide) k w))), ?_⟩, fun c hc => up_ne _ _ hc, fun c hc => up_ne _ _ hc, fun k hk => by rw [up_same]; exact q2 k hk⟩
  · rw [bd_lf _ g1, pu1 rh16_inj (by decide)]; rfl
  · rw [up_same]
    refine ⟨g2, g3, ⟨?_, ?_⟩, g5⟩
    · rw [g4]; exact o6
    · rw [g4']; exact o7
  · unfold TR
    rw [up_same]
    exact ⟨q3, q4, q5, q6, q7, q8⟩
theorem p_empty2 {T : Bk} (l0 : (T 0).length = 8) : gX2_empty T = some (0, up T 0 (((T 0).set 0 0).set 1 0)) := by
  unfold gX2_empty
  rw [bd_sv _ (by omega), bd_sv _ (by rw [up_same, List.length_set]; omega), up_same, up_up]; rfl
theorem c_empty {U : Bk} (l1 : (U 1).length = 8) {β : Type} (K : Int32 → MM β) : bd (lf rh17 7 gX2_empty) K U = K 0 (up U 1 (((U 1).set 0 0).set 1 0)) := by
  have e := p_empty2 (T := fun i => U (rh17 i)) l1
  rw [bd_lf _ e, pu1 rh17_inj (by decide)]; rfl
set_option maxHeartbeats 800000 in
theorem law_read {ts : Nat → Nat} {n : Nat} {U B : Bk} (hx : TXT ts n) (l8 : (U 8).length = 8) (o0 : (U 8).getD 0 0 = nI n) (o5 : (U 8).getD 5 0 = 0) (o6 : (U 8).getD 6 0 = 0) (o7 : (U 8).getD 7 0 = -1) (hy : BY (U 9) ts n) (lu : (U 1).length = 8 ∧ (U 2).length = 16 ∧ (U 3).length = 16 ∧ (U 4).length = 16 ∧ (U 5).length = 16 ∧ (U 6).length = 400) (hb : BSE B ts n) (b14 : (B 0).getD 14 0 = 0) (b27 : (B 0).getD 27 0 = 0) (b28 : (B 0).getD 28 0 = 0) (lb : (B 10).length = 48 ∧ (B 11).length = 48 ∧ (B 12).length = 48 ∧ (B 13).length = 48 ∧ (B 14).length = 1200 ∧ (B 15).length = 1200 ∧ (B 16).length = 40) : ∃ U1 B1, (∀ c, (U1 c).length = (U c).length) ∧ (∀ c, c ≠ 1 → U1 c = U c) ∧ gX11_reads B = some (0, B1) ∧ J2 (gX3_readLaw U) (gX11_readLaw B1) (PLaw ts n U1 B) := by
  obtain ⟨u1, u2, u3, u4, u5, u6⟩ := lu
  have ce := fun {β : Type} (K : Int32 → MM β) => c_empty u1 K
  obtain ⟨U1, hU1⟩ : ∃ U1, up U 1 (((U 1).set 0 0).set 1 0) = U1 := ⟨_, rfl⟩
  rw [hU1] at ce
  have v1 : U1 1 = ((U 1).set 0 0).set 1 0 := by rw [← hU1, up_same]
  have vn : ∀ c, c ≠ 1 → U1 c = U c := fun c hc => by rw [← hU1, up_ne _ _ hc]
  have vl : ∀ c, (U1 c).length = (U c).length := fun c => by
    by_cases z : c = 1
    · subst z
      rw [v1, List.length_set, List.length_set]
    · rw [vn c z]
  have hE : WE ts n U1 B := ⟨hx, by rw [vn 9 (by decide)]; exact hy, hb, ⟨(vl 1).trans u1, (vl 2).trans u2, (vl 3).trans u3, (vl 4).trans u4, (vl 5).trans u5, (vl 6).trans u6⟩, lb⟩
  have e8 := vn 8 (by decide)
  obtain ⟨U2, B1, g2, f2, w2, q1, q2, q3⟩ := wt_start (U := U1) (B := B) hx (by rw [e8]; exact l8) (by rw [e8]; exact o0) (by rw [e8]; exact o5) (by rw [e8]; exact o6) (by rw [e8]; exact o7) (by rw [vn 9 (by decide)]; exact hy) hb b14
  refine ⟨U1, B1, vl, vn, f2, ?_⟩
  have hI : LI ts n U1 B U2 B1 (tkN ts n 0) 0 0 := ⟨w2, Nat.zero_le _, ⟨by rw [q1 1 (by decide), v1, gd_set_ne (by decide), gd_set_same (by omega)]; rfl, by rw [q1 1 (by decide), v1, gd_set_same (by rw [List.length_set]; omega)]; rfl, by rw [q3 27 (by decide)]; exact b27, by rw [q3 28 (by decide)]; exact b28⟩, fun i hi => absurd hi (Nat.not_lt_zero i), fun i hi => absurd hi (Nat.not_lt_zero i)⟩
  rw [lcla_eq, ce, g2, lrla_eq]
  have := w_lines hE 16 (l := 0) (N := 100000) (M := 100000) hI (Nat.zero_le _) (Nat.le_refl _) (by decide) (by decide)
  exact this
set_option maxHeartbeats 800000 in
theorem R_rel {A B : Bk} {np nc nt : Nat} {ks : Nat → List Nat} {wh : Nat → Nat} (hH : HH (fun i => A (rh24 i)) B np nc nt ks wh) : RLaw (fun i => A (17 + i)) (B 9) (B 10) (B 11) (B 12) (B 13) (B 14) (B 15) ∧ RDeeds (fun i => A (24 + i)) ((B 0).getD 35 0) (B 17) np nc nt ∧ RMinds (fun i => A (29 + i)) ((B 0).getD 37 0) (B 18) np ∧ RFr (fun i => A (34 + i)) ((B 0).getD 39 0) (B 19) np := by
  obtain ⟨⟨h1, ⟨h2, h3⟩, ⟨h4, h5⟩, ⟨s0, s5, s6, s7, s8⟩, hL, hD, hM, hF, ⟨t1, t2, t3⟩⟩, tt⟩ := hH
  have v17 : ∀ i, i < 7 → A (17 + i) = A (rh24 (3 + i)) := fun i hi => by rw [rh24_v _ (by omega), if_neg (by omega), if_pos (by omega), show 14 + (3 + i) = 17 + i by omega]
  have v24 : ∀ i, i < 5 → A (24 + i) = A (rh24 (10 + i)) := fun i hi => by rw [rh24_v _ (by omega), if_neg (by omega), if_pos (by omega), show 14 + (10 + i) = 24 + i by omega]
  have v29 : ∀ i, i < 5 → A (29 + i) = A (rh24 (15 + i)) := fun i hi => by rw [rh24_v _ (by omega), if_neg (by omega), if_pos (by omega), show 14 + (15 + i) = 29 + i by omega]
  have v34 : ∀ i, i < 5 → A (34 + i) = A (rh24 (20 + i)) := fun i hi => by rw [rh24_v _ (by omega), if_neg (by omega), if_pos (by omega), show 14 + (20 + i) = 34 + i by omega]
  exact ⟨RLaw_c hL (fun i hi => v17 i hi) ⟨rfl, rfl⟩ ⟨rfl, fun _ _ => rfl⟩ ⟨rfl, fun _ _ => rfl⟩ ⟨rfl, fun _ _ => rfl⟩ ⟨rfl, fun _ _ => rfl⟩ ⟨rfl, fun _ _ => rfl⟩ ⟨rfl, fun _ _ => rfl⟩, RDeeds_c hD (fun i hi => v24 i hi) rfl rfl (fun _ _ => rfl), RMinds_c hM (fun i hi => v29 i hi) rfl rfl (fun _ _ => rfl), RFr_c hF (fun i hi => v34 i hi) rfl rfl (fun _ _ => rfl)⟩
set_option maxHeartbeats 800000 in
theorem tx_keep {A A' B B' : Bk} (h : R A B) (xA : ∀ j, j < 211 → j ≠ 113 → ¬ (115 ≤ j ∧ j ≤ 128) → A' j = A j) (lA : ∀ j, j < 211 → (A' j).length = (A j).length) (xB : ∀ i, i < 38 → i ≠ 0 → ¬ (10 ≤ i ∧ i ≤ 19) → B' i = B i) (lB : ∀ i, i < 38 → (B' i).length = (B i).length) (pB : ∀ c i, 10 ≤ c → c ≤ 19 → i < mnN c → (B' c).getD i 0 = (B c).getD i 0) (sB : ∀ k, k ∈ [3, 5, 6, 7, 8, 35, 37, 39, 43, 52, 54, 57, 61, 65] → (B' 0).getD k 0 = (B 0).getD k 0) (hT : TP A' B') : R A' B' := by
  obtain ⟨⟨np, nc, nt, ks, wh, hH, hU⟩, -, hI, hA, hB⟩ := h
  obtain ⟨hL, hD, hM, hF⟩ := R_rel hH
  have a0 := xA 0 (by decide) (by decide) (by decide)
  refine R_tx hH hU hI hA hB (fun j j1 j2 j3 j4 j5 => xA j j1 j4 j5) lA (fun i i1 i2 i3 => xB i i1 i2 (by omega)) lB (fun k hk => sB k ((by decide : ∀ k, k ∈ [5, 6, 7, 8, 43, 52, 54, 57, 61, 65] → k ∈ [3, 5, 6, 7, 8, 35, 37, 39, 43, 52, 54, 57, 61, 65]) k hk)) (by rw [a0]) (Or.inl ⟨by rw [a0], sB 3 (by decide)⟩) hT ?_ ?_ ?_ ?_
  · exact RLaw_c hL (fun i hi => xA _ (by omega) (by omega) (by omega)) ⟨lB 9 (by decide), by rw [xB 9 (by decide) (by decide) (by decide)]⟩ ⟨lB 10 (by decide), fun i hi => pB 10 i (by decide) (by decide) hi⟩ ⟨lB 11 (by decide), fun i hi => pB 11 i (by decide) (by decide) hi⟩ ⟨lB 12 (by decide), fun i hi => pB 12 i (by decide) (by decide) hi⟩ ⟨lB 13 (by decide), fun i hi => pB 13 i (by decide) (by decide) hi⟩ ⟨lB 14 (by decide), fun i hi => pB 14 i (by decide) (by decide) hi⟩ ⟨lB 15 (by decide), fun i hi => pB 15 i (by decide) (by decide) hi⟩
  · exact RDeeds_c hD (fun i hi => xA _ (by omega) (by omega) (by omega)) (sB 35 (by decide)) (lB 17 (by decide)) (fun i hi => pB 17 i (by decide) (by decide) hi)
  · exact RMinds_c hM (fun i hi => xA _ (by omega) (by omega) (by omega)) (sB 37 (by decide)) (lB 18 (by decide)) (fun i hi => pB 18 i (by decide) (by decide) hi)
  · exact RFr_c hF (fun i hi => xA _ (by omega) (by omega) (by omega)) (sB 39 (by decide)) (lB 19 (by decide)) (fun i hi => pB 19 i (by decide) (by decide) hi)
set_option maxHeartbeats 800000 in
theorem tx_law {A A' B B' : Bk} (h : R A B) (xA : ∀ j, j < 211 → ¬ (17 ≤ j ∧ j ≤ 23) → A' j = A j) (lA : ∀ j, j < 211 → (A' j).length = (A j).length) (xB : ∀ i, i < 38 → ¬ (9 ≤ i ∧ i ≤ 15) → B' i = B i) (lB : ∀ i, i < 38 → (B' i).length = (B i).length) (hL : RLaw (fun i => A' (17 + i)) (B' 9) (B' 10) (B' 11) (B' 12) (B' 13) (B' 14) (B' 15)) : R A' B' := by
  obtain ⟨⟨np, nc, nt, ks, wh, hH, hU⟩, hT, hI, hA, hB⟩ := h
  obtain ⟨-, hD, hM, hF⟩ := R_rel hH
  have a0 := xA 0 (by decide) (by decide)
  have b0 := xB 0 (by decide) (by decide)
  refine R_tx hH hU hI hA hB (fun j j1 j2 j3 j4 j5 => xA j j1 (by omega)) lA (fun i i1 i2 i3 => xB i i1 (by omega)) lB (fun k hk => by rw [b0]) (by rw [a0]) (Or.inl ⟨by rw [a0], by rw [b0]⟩) (TP_congr hT (xA 113 (by decide) (by decide)) (xA 114 (by decide) (by decide)) (xB 7 (by decide) (by decide)) (by rw [b0]) (by rw [b0]) (by rw [b0])) hL ?_ ?_ ?_
  · exact RDeeds_c hD (fun i hi => xA _ (by omega) (by omega)) (by rw [b0]) (lB 17 (by decide)) (fun i hi => by rw [xB 17 (by decide) (by decide)])
  · exact RMinds_c hM (fun i hi => xA _ (by omega) (by omega)) (by rw [b0]) (lB 18 (by decide)) (fun i hi => by rw [xB 18 (by decide) (by decide)])
  · exact RFr_c hF (fun i hi => xA _ (by omega) (by omega)) (by rw [b0]) (lB 19 (by decide)) (fun i hi => by rw [xB 19 (by decide) (by decide)])
set_option maxHeartbeats 800000 in
theorem tx_lines {A A' B B' : Bk} {o c s : Nat} (h : R A B) (ho : (o = 24 ∧ c = 17 ∧ s = 35) ∨ (o = 29 ∧ c = 18 ∧ s = 37) ∨ (o = 34 ∧ c = 19 ∧ s = 39)) (xA : ∀ j, j < 211 → j ≠ 0 → ¬ (o ≤ j ∧ j ≤ o + 4) → A' j = A j) (lA : ∀ j, j < 211 → (A' j).length = (A j).length) (a2 : (A' 0).getD 2 0 = (A 0).getD 2 0) (xB : ∀ i, i < 38 → i ≠ 0 → i ≠ c → B' i = B i) (lB : ∀ i, i < 38 → (B' i).length = (B i).length) (sB : ∀ k, k ≠ 3 → k ≠ s → (B' 0).getD k 0 = (B 0).getD k 0) (hu : ((A' 0).getD 5 0 = (A 0).getD 5 0 ∧ (B' 0).getD 3 0 = (B 0).getD 3 0) ∨ ((A' 0).getD 5 0 = 0 ∧ (B' 0).getD 3 0 = 0))
    (hN : ∀ np nc nt, (B 0).getD 6 0 = nI np → (B 0).getD 7 0 = nI nc → (B 0).getD 8 0 = nI nt → np ≤ 12 → nc ≤ 14 → nt ≤ 20 → (o = 24 → RDeeds (fun i => A' (24 + i)) ((B' 0).getD 35 0) (B' 17) np nc nt) ∧ (o = 29 → RMinds (fun i => A' (29 + i)) ((B' 0).getD 37 0) (B' 18) np) ∧ (o = 34 → RFr (fun i => A' (34 + i)) ((B' 0).getD 39 0) (B' 19) np)) : R A' B' := by
  obtain ⟨⟨np, nc, nt, ks, wh, hH, hU⟩, hT, hI, hA, hB⟩ := h
  obtain ⟨hL, hD, hM, hF⟩ := R_rel hH
  obtain ⟨hn1, hn2, hn3, hn4⟩ := hH.1.1.2.1
  obtain ⟨s0, s5, s6, s7, s8⟩ := hH.1.2.2.2.1
  obtain ⟨n1, n2, n3⟩ := hN np nc nt s6 s7 s8 hn2 hn3 hn4
  refine R_tx hH hU hI hA hB (fun j j1 j2 j3 j4 j5 => xA j j1 j2 (by omega)) lA (fun i i1 i2 i3 => xB i i1 i2 (by omega)) lB (fun k hk => sB k (fun z => by subst z; exact absurd hk (by decide)) (fun z => ?_)) a2 hu (TP_congr hT (xA 113 (by decide) (by decide) (by omega)) (xA 114 (by decide) (by decide) (by omega)) (xB 7 (by decide) (by decide) (by omega)) (sB 13 (by decide) (by omega)) (sB 33 (by decide) (by omega)) (sB 34 (by decide) (by omega))) ?_ ?_ ?_ ?_
  · have : k = 35 ∨ k = 37 ∨ k = 39 := by omega
    rcases this with q | q | q <;> (rw [q] at hk; exact absurd hk (by decide))
  · exact RLaw_c hL (fun i hi => xA _ (by omega) (by omega) (by omega)) ⟨lB 9 (by decide), by rw [xB 9 (by decide) (by decide) (by omega)]⟩ ⟨lB 10 (by decide), fun i hi => by rw [xB 10 (by decide) (by decide) (by omega)]⟩ ⟨lB 11 (by decide), fun i hi => by rw [xB 11 (by decide) (by decide) (by omega)]⟩ ⟨lB 12 (by decide), fun i hi => by rw [xB 12 (by decide) (by decide) (by omega)]⟩ ⟨lB 13 (by decide), fun i hi => by rw [xB 13 (by decide) (by decide) (by omega)]⟩ ⟨lB 14 (by decide), fun i hi => by rw [xB 14 (by decide) (by decide) (by omega)]⟩ ⟨lB 15 (by decide), fun i hi => by rw [xB 15 (by decide) (by decide) (by omega)]⟩
  · by_cases z : o = 24
    · exact n1 z
    · exact RDeeds_c hD (fun i hi => xA _ (by omega) (by omega) (by omega)) (sB 35 (by decide) (by omega)) (lB 17 (by decide)) (fun i hi => by rw [xB 17 (by decide) (by decide) (by omega)])
  · by_cases z : o = 29
    · exact n2 z
    · exact RMinds_c hM (fun i hi => xA _ (by omega) (by omega) (by omega)) (sB 37 (by decide) (by omega)) (lB 18 (by decide)) (fun i hi => by rw [xB 18 (by decide) (by decide) (by omega)])
  · by_cases z : o = 34
    · exact n3 z
    · exact RFr_c hF (fun i hi => xA _ (by omega) (by omega) (by omega)) (sB 39 (by decide) (by omega)) (lB 19 (by decide)) (fun i hi => by rw [xB 19 (by decide) (by decide) (by omega)])
