/-! PURE: text, the operation -/
set_option maxHeartbeats 1600000 in
theorem op_text {A B : Bk} (h : R A B) (x : Int32) : ∃ r A' B', gX10_text x A = some (r, A') ∧ gX11_text x B = some (r, B') ∧ R A' B' := by
  obtain ⟨A1, B1, ga, fb, h1, a567, ⟨b14, b27, b28, b33, b34⟩⟩ := tx_start h
  have b0 := R_B0 h1
  have k10 : ¬ nI 1 = (0 : Int32) := by decide
  have k00 : nI 0 = (0 : Int32) := rfl
  obtain ⟨B2, hB2⟩ : ∃ B2, B2 = up B1 0 ((B1 0).set 26 0) := ⟨_, rfl⟩
  have h2 : R A1 B2 := by
    rw [hB2]
    exact R_XF h1 (XF_s (by decide))
  have k14 : (B2 0).getD 14 0 = 0 := by rw [hB2, up_same, gd_set_ne (by decide)]; exact b14
  have k27 : (B2 0).getD 27 0 = 0 := by rw [hB2, up_same, gd_set_ne (by decide)]; exact b27
  have k28 : (B2 0).getD 28 0 = 0 := by rw [hB2, up_same, gd_set_ne (by decide)]; exact b28
  have k33 : (B2 0).getD 33 0 = 0 := by rw [hB2, up_same, gd_set_ne (by decide)]; exact b33
  have k34 : (B2 0).getD 34 0 = -1 := by rw [hB2, up_same, gd_set_ne (by decide)]; exact b34
  have k26 : (B2 0).getD 26 0 = 0 := by rw [hB2, up_same, gd_set_same (by omega)]
  rw [tc_eq, ga, fb x]
  by_cases x0 : x = 0
  · subst x0
    rw [if_pos rfl]
    exact text_law h2 hB2 b0 a567 k14 k27 k28 k33 k34 k26
  · rw [if_neg x0]
    by_cases xr : x = 1 ∨ x = 2 ∨ x = 3
    · obtain ⟨⟨np, nc, nt, ks, wh, hH, hU⟩, hT, hI, hA, hB⟩ := id h2
      obtain ⟨hL, hD, hM, hF⟩ := R_rel hH
      obtain ⟨ts, n, hx, hy, hb, t1, t0⟩ := tx_data h2
      obtain ⟨hW, hw0⟩ := R_W hH
      obtain ⟨hl, ⟨hn1, hn2, hn3, hn4⟩, ⟨p1, p2, p3, p4, p5, p6⟩, -⟩ := id hW
      have b6 : (B2 0).getD 6 0 = nI np := hH.1.2.2.2.1.2.2.1
      have b7 : (B2 0).getD 7 0 = nI nc := hH.1.2.2.2.1.2.2.2.1
      have b8 : (B2 0).getD 8 0 = nI nt := hH.1.2.2.2.1.2.2.2.2
      have m17 : (B2 17).length = 128 := hD.1.2.2.2.2.2
      have m18 : (B2 18).length = 96 := hM.1.2.2.2.2.2
      have m19 : (B2 19).length = 24 := hF.1.2.2.2.2.2
      obtain ⟨-, -, -, ⟨s1, s2, s3, s4, s5, s6⟩, -⟩ := id hA
      have hE : ENV ts n (fun i => A1 (rh26 i)) B2 np nc nt := ⟨hx, ⟨s1, s2, s3, s4, s5, s6⟩, ⟨hy, hl.1, p4, p5, p6⟩, hb, ⟨b6, b7, b8⟩, ⟨m17, m18, m19⟩, hn2, hn3, hn4⟩
      obtain ⟨U1, B3, vl, vn, f3, j1, j2, j3⟩ := lines_read hE t1 t0 a567.1 a567.2.1 a567.2.2 k14
      rcases xr with xv | xv | xv
      · obtain rfl : x = 1 := xv
        have hG : gX11_readsText 1 B1 = gX11_readDeeds B3 := by
          rw [rt_eq, bd_sv _ (by omega), ← hB2, bd_some f3, if_pos rfl, bd_pr']
        rcases text_lines (D := Dd np nc nt) h2 (Or.inl ⟨rfl, rfl⟩) k33 k34 vl vn j1 hG with ⟨A', B', e1, e2, e3⟩ | ⟨k, U', A2, A', B', hk, e1, e2, h3, fr, xA, lA, a0, l10, ⟨lo0, lo1, lo2, lo3, lo4⟩, ko, c1, c2, c3, c4, hDk⟩
        · exact ⟨_, A', B', e1, e2, e3⟩
        · have lb : (B' 0).length = 68 := by rw [fr.1 0]; exact R_B0 h2
          have lc : (B' 17).length = 128 := by rw [fr.1 17]; exact m17
          have y0 : (up B' 0 ((B' 0).set 13 0)) 0 = (B' 0).set 13 0 := up_same _ _ _
          have yc : (up B' 0 ((B' 0).set 13 0)) 17 = B' 17 := rfl
          obtain ⟨B4, w1, w2, w3, w4⟩ := p_to1 (B := up B' 0 ((B' 0).set 13 0)) (k := k) hk (by rw [y0, List.length_set]; exact lb) (by rw [yc]; exact lc)
          rw [yc] at w3
          have yl : ((up B' 0 ((B' 0).set 13 0)) 0).length = 68 := by rw [y0, List.length_set]; exact lb
          refine ⟨nI k, A', B4, e1, by rw [e2, bd_some w1]; rfl, tx_lines h3 (Or.inl ⟨rfl, rfl, rfl⟩) xA lA (by rw [a0, if_neg (by decide), gd_set_ne (by decide)]) (fun i _ i0 ic => w2 i i0 ic) (fun i i1 => ?_) (fun q q3 qs => ?_) (Or.inr ⟨by rw [a0, if_neg (by decide), gd_set_same (by omega)], by rw [w4, gd_set_same (by rw [List.length_set]; omega)]⟩) ?_⟩
          · by_cases z0 : i = 0
            · subst z0
              rw [w4]; simp only [List.length_set]
            · by_cases zc : i = 17
              · subst zc
                rw [yc]; exact w3.1
              · rw [w2 i z0 zc]
          · rw [w4, gd_set_ne (fun z => q3 z.symm), gd_set_ne (fun z => qs z.symm)]
          · intro np' nc' nt' q6 q7 q8 n1 n2 n3
            have r6 : (up B' 0 ((B' 0).set 13 0) 0).getD 6 0 = nI np := by rw [y0, gd_set_ne (by decide), fr.2.2.1 6 (by decide)]; exact b6
            have r7 : (up B' 0 ((B' 0).set 13 0) 0).getD 7 0 = nI nc := by rw [y0, gd_set_ne (by decide), fr.2.2.1 7 (by decide)]; exact b7
            have r8 : (up B' 0 ((B' 0).set 13 0) 0).getD 8 0 = nI nt := by rw [y0, gd_set_ne (by decide), fr.2.2.1 8 (by decide)]; exact b8
            obtain rfl : np' = np := (nI_eq (by omega) (by omega)).mp (q6.symm.trans r6)
            obtain rfl : nc' = nc := (nI_eq (by omega) (by omega)).mp (q7.symm.trans r7)
            obtain rfl : nt' = nt := (nI_eq (by omega) (by omega)).mp (q8.symm.trans r8)
            have c1' : A' 25 = U' 2 := c1
            have c2' : A' 26 = U' 3 := c2
            have c3' : A' 27 = U' 4 := c3
            have c4' : A' 28 = U' 5 := c4
            have k4 : (B4 0).getD 35 0 = nI k := by rw [w4, gd_set_ne (by decide), gd_set_same (by omega)]
            refine ⟨fun _ => ⟨⟨lo0, lo1, lo2, lo3, lo4, by rw [w3.1]; exact lc⟩, k, hk, ko, k4, fun i hi => ?_⟩, fun z => absurd z (by decide), fun z => absurd z (by decide)⟩
            obtain ⟨d1, d2, d3, d4, d5⟩ := hDk i hi
            show (A' 25).getD i 0 = _ ∧ (A' 26).getD i 0 = _ ∧ (A' 27).getD i 0 = _ ∧ (A' 28).getD i 0 = _ ∧ _
            rw [c1', c2', c3', c4', w3.2.1 (4 * i) (by omega), w3.2.1 (4 * i + 1) (by omega), w3.2.1 (4 * i + 2) (by omega), w3.2.1 (4 * i + 3) (by omega)]
            exact ⟨d1, d2, d3, d4, d5⟩
      · obtain rfl : x = 2 := xv
        have hG : gX11_readsText 2 B1 = gX11_readMinds B3 := by
          rw [rt_eq, bd_sv _ (by omega), ← hB2, bd_some f3, if_neg (by decide), if_pos rfl, bd_pr']
        rcases text_lines (D := Dm np) h2 (Or.inr (Or.inl ⟨rfl, rfl⟩)) k33 k34 vl vn j2 hG with ⟨A', B', e1, e2, e3⟩ | ⟨k, U', A2, A', B', hk, e1, e2, h3, fr, xA, lA, a0, l10, ⟨lo0, lo1, lo2, lo3, lo4⟩, ko, c1, c2, c3, c4, hDk⟩
        · exact ⟨_, A', B', e1, e2, e3⟩
        · have lb : (B' 0).length = 68 := by rw [fr.1 0]; exact R_B0 h2
          have lc : (B' 18).length = 96 := by rw [fr.1 18]; exact m18
          have y0 : (up B' 0 ((B' 0).set 13 0)) 0 = (B' 0).set 13 0 := up_same _ _ _
          have yc : (up B' 0 ((B' 0).set 13 0)) 18 = B' 18 := rfl
          obtain ⟨B4, w1, w2, w3, w4⟩ := p_to2 (B := up B' 0 ((B' 0).set 13 0)) (k := k) hk (by rw [y0, List.length_set]; exact lb) (by rw [yc]; exact lc)
          rw [yc] at w3
          have yl : ((up B' 0 ((B' 0).set 13 0)) 0).length = 68 := by rw [y0, List.length_set]; exact lb
          refine ⟨nI k, A', B4, e1, by rw [e2, bd_some w1]; rfl, tx_lines h3 (Or.inr (Or.inl ⟨rfl, rfl, rfl⟩)) xA lA (by rw [a0, if_neg (by decide), gd_set_ne (by decide)]) (fun i _ i0 ic => w2 i i0 ic) (fun i i1 => ?_) (fun q q3 qs => ?_) (Or.inr ⟨by rw [a0, if_neg (by decide), gd_set_same (by omega)], by rw [w4, gd_set_same (by rw [List.length_set]; omega)]⟩) ?_⟩
          · by_cases z0 : i = 0
            · subst z0
              rw [w4]; simp only [List.length_set]
            · by_cases zc : i = 18
              · subst zc
                rw [yc]; exact w3.1
              · rw [w2 i z0 zc]
          · rw [w4, gd_set_ne (fun z => q3 z.symm), gd_set_ne (fun z => qs z.symm)]
          · intro np' nc' nt' q6 q7 q8 n1 n2 n3
            have r6 : (up B' 0 ((B' 0).set 13 0) 0).getD 6 0 = nI np := by rw [y0, gd_set_ne (by decide), fr.2.2.1 6 (by decide)]; exact b6
            have r7 : (up B' 0 ((B' 0).set 13 0) 0).getD 7 0 = nI nc := by rw [y0, gd_set_ne (by decide), fr.2.2.1 7 (by decide)]; exact b7
            have r8 : (up B' 0 ((B' 0).set 13 0) 0).getD 8 0 = nI nt := by rw [y0, gd_set_ne (by decide), fr.2.2.1 8 (by decide)]; exact b8
            obtain rfl : np' = np := (nI_eq (by omega) (by omega)).mp (q6.symm.trans r6)
            obtain rfl : nc' = nc := (nI_eq (by omega) (by omega)).mp (q7.symm.trans r7)
            obtain rfl : nt' = nt := (nI_eq (by omega) (by omega)).mp (q8.symm.trans r8)
            have c1' : A' 30 = U' 2 := c1
            have c2' : A' 31 = U' 3 := c2
            have c3' : A' 32 = U' 4 := c3
            have c4' : A' 33 = U' 5 := c4
            have k4 : (B4 0).getD 37 0 = nI k := by rw [w4, gd_set_ne (by decide), gd_set_same (by omega)]
            refine ⟨fun z => absurd z (by decide), fun _ => ⟨⟨lo0, lo1, lo2, lo3, lo4, by rw [w3.1]; exact lc⟩, k, hk, ko, k4, fun i hi => ?_⟩, fun z => absurd z (by decide)⟩
            obtain ⟨d1, d2, d3, d4⟩ := hDk i hi
            show (A' 30).getD i 0 = _ ∧ (A' 32).getD i 0 = _ ∧ (A' 33).getD i 0 = _ ∧ _
            rw [c1', c3', c4', w3.2.1 (3 * i) (by omega), w3.2.1 (3 * i + 1) (by omega), w3.2.1 (3 * i + 2) (by omega)]
            exact ⟨d1, d2, d3, d4⟩
      · obtain rfl : x = 3 := xv
        have hG : gX11_readsText 3 B1 = gX11_readFriends B3 := by
          rw [rt_eq, bd_sv _ (by omega), ← hB2, bd_some f3, if_neg (by decide), if_neg (by decide), if_pos rfl, bd_pr']
        rcases text_lines (D := Df np) h2 (Or.inr (Or.inr ⟨rfl, rfl⟩)) k33 k34 vl vn j3 hG with ⟨A', B', e1, e2, e3⟩ | ⟨k, U', A2, A', B', hk, e1, e2, h3, fr, xA, lA, a0, l10, ⟨lo0, lo1, lo2, lo3, lo4⟩, ko, c1, c2, c3, c4, hDk⟩
        · exact ⟨_, A', B', e1, e2, e3⟩
        · have lb : (B' 0).length = 68 := by rw [fr.1 0]; exact R_B0 h2
          have lc : (B' 19).length = 24 := by rw [fr.1 19]; exact m19
          have y0 : (up B' 0 ((B' 0).set 13 0)) 0 = (B' 0).set 13 0 := up_same _ _ _
          have yc : (up B' 0 ((B' 0).set 13 0)) 19 = B' 19 := rfl
          obtain ⟨B4, w1, w2, w3, w4⟩ := p_to3 (B := up B' 0 ((B' 0).set 13 0)) (k := k) (by rw [y0, List.length_set]; exact lb) (by rw [yc]; exact lc)
          rw [yc] at w3
          have yl : ((up B' 0 ((B' 0).set 13 0)) 0).length = 68 := by rw [y0, List.length_set]; exact lb
          refine ⟨nI k, A', B4, e1, by rw [e2, bd_some w1]; rfl, tx_lines h3 (Or.inr (Or.inr ⟨rfl, rfl, rfl⟩)) xA lA (by rw [a0, if_pos rfl]) (fun i _ i0 ic => w2 i i0 ic) (fun i i1 => ?_) (fun q q3 qs => ?_) (Or.inl ⟨by rw [a0, if_pos rfl], by rw [w4, gd_set_ne (by decide)]⟩) ?_⟩
          · by_cases z0 : i = 0
            · subst z0
              rw [w4]; simp only [List.length_set]
            · by_cases zc : i = 19
              · subst zc
                rw [yc]; exact w3.1
              · rw [w2 i z0 zc]
          · rw [w4, gd_set_ne (fun z => qs z.symm)]
          · intro np' nc' nt' q6 q7 q8 n1 n2 n3
            have r6 : (up B' 0 ((B' 0).set 13 0) 0).getD 6 0 = nI np := by rw [y0, gd_set_ne (by decide), fr.2.2.1 6 (by decide)]; exact b6
            have r7 : (up B' 0 ((B' 0).set 13 0) 0).getD 7 0 = nI nc := by rw [y0, gd_set_ne (by decide), fr.2.2.1 7 (by decide)]; exact b7
            have r8 : (up B' 0 ((B' 0).set 13 0) 0).getD 8 0 = nI nt := by rw [y0, gd_set_ne (by decide), fr.2.2.1 8 (by decide)]; exact b8
            obtain rfl : np' = np := (nI_eq (by omega) (by omega)).mp (q6.symm.trans r6)
            obtain rfl : nc' = nc := (nI_eq (by omega) (by omega)).mp (q7.symm.trans r7)
            obtain rfl : nt' = nt := (nI_eq (by omega) (by omega)).mp (q8.symm.trans r8)
            have c1' : A' 35 = U' 2 := c1
            have c2' : A' 36 = U' 3 := c2
            have c3' : A' 37 = U' 4 := c3
            have c4' : A' 38 = U' 5 := c4
            have k4 : (B4 0).getD 39 0 = nI k := by rw [w4, gd_set_same (by omega)]
            refine ⟨fun z => absurd z (by decide), fun z => absurd z (by decide), fun _ => ⟨⟨lo0, lo1, lo2, lo3, lo4, by rw [w3.1]; exact lc⟩, k, hk, ko, k4, fun i hi => ?_, fun q hq => ?_⟩⟩
            · show ∃ a b : Nat, (A' 37).getD i 0 = nI a ∧ (A' 38).getD i 0 = nI b ∧ _
              rw [c3', c4']
              exact hDk.1 i hi
            · show _ = frF (A' 37) (A' 38) (nI q) k
              rw [c3', c4', w3.2.1 q hq]
              exact hDk.2 q hq
    · have nw : ¬ ((1 : Int32) ≤ x ∧ x ≤ 3) := fun z => xr (by
        obtain ⟨m, hm, rfl⟩ := wi_rng (n := 3) (by omega) ⟨Int32.le_trans (by decide) z.1, z.2⟩
        have := (nI_leI (a := 1) (by omega) (by omega)).mp z.1
        rcases (by omega : m = 1 ∨ m = 2 ∨ m = 3) with rfl | rfl | rfl
        · exact Or.inl rfl
        · exact Or.inr (Or.inl rfl)
        · exact Or.inr (Or.inr rfl))
      have ni : ¬ ((0 : Int32) ≤ x ∧ x ≤ 3) := fun z => by
        obtain ⟨m, hm, rfl⟩ := wi_rng (n := 3) (by omega) z
        rcases (by omega : m = 0 ∨ m = 1 ∨ m = 2 ∨ m = 3) with rfl | rfl | rfl | rfl
        · exact x0 rfl
        · exact xr (Or.inl rfl)
        · exact xr (Or.inr (Or.inl rfl))
        · exact xr (Or.inr (Or.inr rfl))
      have t1 := h1.2.1.1
      have t6 := h1.2.1.2.2.2.1
      have t7 := h1.2.1.2.2.2.2.1
      refine ⟨-1, up A1 113 ((A1 113).set 0 0), up B1 0 ((B1 0).set 13 0), ?_, ?_, tx_end h1 (fun _ _ _ _ => rfl) (fun _ _ => rfl) (FRR_rfl B1) (by rw [List.length_set]; exact b0) (by rw [gd_set_same (by omega)]) (by rw [gd_set_ne (by decide)]; exact t6.symm) (by rw [gd_set_ne (by decide)]; exact t7.symm) (fun k k1 _ _ => by rw [gd_set_ne (fun q => k1 q.symm)])⟩
      · unfold tcL
        rw [bd_iw, b2i_f nw, if_pos k00]
        unfold tcE
        rw [bd_sv _ (by omega)]; rfl
      · unfold txM
        rw [bd_some (p_isIn _ _ _ _), b2i_f ni, if_pos k00]
        unfold trE
        rw [bd_sv _ (by omega), if_pos rfl]; rfl
