/-! PURE: text -/
theorem nI_tb {b : Nat} (hb : b < 256) : (nI b).toBitVec.toNat = b := by
  show (BitVec.ofNat 32 b).toNat = b
  rw [BitVec.toNat_ofNat]
  omega
theorem rh27_t : ∀ i, i < 10 → i = 9 ∨ rh27 i = 113 ∨ (115 ≤ rh27 i ∧ rh27 i ≤ 128) := by decide
theorem rh26_t : ∀ i, i < 21 → 7 ≤ i ∨ rh26 i = 113 ∨ (115 ≤ rh26 i ∧ rh26 i ≤ 128) := by decide
set_option maxHeartbeats 1600000 in
theorem law_frame {A1 U1 U' : Bk} (t1 : (A1 113).length = 8) (vl : ∀ c, (U1 c).length = (A1 (rh27 c)).length) (vn : ∀ c, c ≠ 1 → U1 c = A1 (rh27 c)) (wv : WV U1 U') (l8 : (U' 8).length = 8) : (∀ j, j ≠ 113 → ¬ (115 ≤ j ∧ j ≤ 128) → pu rh27 10 U' A1 j = A1 j) ∧ (∀ j, (pu rh27 10 U' A1 j).length = (A1 j).length) ∧ ∀ i, i < 10 → pu rh27 10 U' A1 (rh27 i) = U' i := by
  refine ⟨fun j h1 h2 => pu_keep (fun i hi e => ?_), fun j => pu_len (fun i hi e => ?_), fun i hi => pu_in rh27_inj hi U' A1⟩
  · subst e
    rcases rh27_t i hi with rfl | q | q
    · rw [wv.2 9 (by decide) (by decide), vn 9 (by decide)]
    · exact absurd q h1
    · exact absurd q h2
  · subst e
    by_cases z : i = 8
    · subst z
      exact l8.trans t1.symm
    · rw [wv.1 i z, vl i]
set_option maxHeartbeats 1600000 in
theorem lines_frame {A1 U1 U' : Bk} (t1 : (A1 113).length = 8) (vl : ∀ c, (U1 c).length = (A1 (rh26 c)).length) (vn : ∀ c, c ≠ 1 → U1 c = A1 (rh26 c)) (wv : FU U1 U') (l8 : (U' 6).length = 8) : (∀ j, j ≠ 113 → ¬ (115 ≤ j ∧ j ≤ 128) → pu rh26 21 U' A1 j = A1 j) ∧ (∀ j, (pu rh26 21 U' A1 j).length = (A1 j).length) ∧ ∀ i, i < 21 → pu rh26 21 U' A1 (rh26 i) = U' i := by
  refine ⟨fun j h1 h2 => pu_keep (fun i hi e => ?_), fun j => pu_len (fun i hi e => ?_), fun i hi => pu_in rh26_inj hi U' A1⟩
  · subst e
    rcases rh26_t i hi with q | q | q
    · rw [wv.2 i q, vn i (by omega)]
    · exact absurd q h1
    · exact absurd q h2
  · subst e
    by_cases z : i = 6
    · subst z
      exact l8.trans t1.symm
    · rw [wv.1 i z, vl i]
set_option maxHeartbeats 1600000 in
theorem c_c2 {A : Bk} (l0 : (A 17).length = 8) (l7 : (A 116).length = 8) (a1 : (A 18).length = 16) (a2 : (A 19).length = 16) (a3 : (A 20).length = 16) (a4 : (A 21).length = 16) (a5 : (A 22).length = 400) (b1 : (A 117).length = 16) (b2 : (A 118).length = 16) (b3 : (A 119).length = 16) (b4 : (A 120).length = 16) (b5 : (A 121).length = 400) {β : Type} (K : Int32 → MM β) : bd (lf rh28 14 gX2_copy) K A = K 0 (up (up (up (up (up (up A 17 (((A 17).set 0 ((A 116).getD 0 0)).set 1 ((A 116).getD 1 0))) 18 (A 117)) 19 (A 118)) 20 (A 119)) 21 (A 120)) 22 (A 121)) := by
  have e := p_c2 (U := fun i => A (rh28 i)) l0 l7 a1 a2 a3 a4 a5 b1 b2 b3 b4 b5
  rw [bd_lf _ e, pu_up rh28_inj (by decide), pu_up rh28_inj (by decide), pu_up rh28_inj (by decide), pu_up rh28_inj (by decide), pu_up rh28_inj (by decide), pu1 rh28_inj (by decide)]
  rfl
set_option maxHeartbeats 1600000 in
theorem tx_data {A B : Bk} (h : R A B) : ∃ (ts : Nat → Nat) (n : Nat), TXT ts n ∧ BY (A 114) ts n ∧ BSE B ts n ∧ (A 113).length = 8 ∧ (A 113).getD 0 0 = nI n := by
  have b0 := R_B0 h
  obtain ⟨-, hT, hI, hA, hB⟩ := h
  obtain ⟨t1, t2, t3, t4, t5, n, hn, t6, t7, t8⟩ := hT
  have tsv : ∀ i, i < n → (B 7).getD i 0 = nI ((B 7).getD i 0).toBitVec.toNat ∧ ((B 7).getD i 0).toBitVec.toNat < 256 := fun i hi => by
    obtain ⟨-, b, hb, e⟩ := t8 i hi
    exact ⟨(nI_bv _).symm, by rw [e, nI_tb hb]; exact hb⟩
  exact ⟨fun i => ((B 7).getD i 0).toBitVec.toNat, n, ⟨hn, fun i hi => (tsv i hi).2⟩, ⟨t2, hn, fun i hi => ⟨by rw [(t8 i hi).1]; exact (tsv i hi).1, (tsv i hi).2⟩⟩, ⟨b0, hB.2.1, ⟨t3, hn, tsv⟩, t7⟩, t1, t6⟩
set_option maxHeartbeats 1600000 in
theorem text_lines {A1 B1 B2 B3 U1 : Bk} {ts : Nat → Nat} {n o : Nat} {x : Int32} {G : MM Int32} {D : Nat → Bk → Bk → Prop} (h2 : R A1 B2) (ho : (x = 1 ∧ o = 24) ∨ (x = 2 ∧ o = 29) ∨ (x = 3 ∧ o = 34)) (b33 : (B2 0).getD 33 0 = 0) (b34 : (B2 0).getD 34 0 = -1) (vl : ∀ c, (U1 c).length = (A1 (rh26 c)).length) (vn : ∀ c, c ≠ 1 → U1 c = A1 (rh26 c)) (hJ : J2 (gX4_readLines x (fun i => A1 (rh26 i))) (G B3) (PLs ts n U1 B2 D)) (hG : gX11_readsText x B1 = G B3) :
    (∃ A' B', tcL x A1 = some (-1, A') ∧ txM x B1 = some (-1, B') ∧ R A' B') ∨
    (∃ (k : Nat) (U' A2 A' B' : Bk), k ≤ 16 ∧ tcL x A1 = some (nI k, A') ∧ txM x B1 = (bd (gX11_takesOther x (nI k)) fun r6 => pr (nI k)) (up B' 0 ((B' 0).set 13 0)) ∧ R A2 (up B' 0 ((B' 0).set 13 0)) ∧ FRR B2 B' ∧ (∀ j, j < 211 → j ≠ 0 → ¬ (o ≤ j ∧ j ≤ o + 4) → A' j = A2 j) ∧ (∀ j, j < 211 → (A' j).length = (A2 j).length) ∧ A' 0 = (if x = 3 then A2 0 else (A2 0).set 5 0) ∧ (A2 0).length = 10 ∧ ((A' o).length = 5 ∧ (A' (o + 1)).length = 16 ∧ (A' (o + 2)).length = 16 ∧ (A' (o + 3)).length = 16 ∧ (A' (o + 4)).length = 16) ∧ (A' o).getD 0 0 = nI k ∧ A' (o + 1) = U' 2 ∧ A' (o + 2) = U' 3 ∧ A' (o + 3) = U' 4 ∧ A' (o + 4) = U' 5 ∧ D k U' B') := by
  obtain ⟨⟨np, nc, nt, ks, wh, hH, hU⟩, hT, hI, hA, hB⟩ := id h2
  obtain ⟨hL, hD, hM, hF⟩ := R_rel hH
  have t1 := hT.1
  have b0 := R_B0 h2
  have a10 := hU.1
  have k10 : ¬ nI 1 = (0 : Int32) := by decide
  obtain ⟨-, -, -, ⟨s1, s2, s3, s4, s5, s6⟩, -⟩ := hA
  have lo : (A1 o).length = 5 ∧ (A1 (o + 1)).length = 16 ∧ (A1 (o + 2)).length = 16 ∧ (A1 (o + 3)).length = 16 ∧ (A1 (o + 4)).length = 16 := by
    rcases ho with ⟨-, rfl⟩ | ⟨-, rfl⟩ | ⟨-, rfl⟩
    · exact ⟨hD.1.1, hD.1.2.1, hD.1.2.2.1, hD.1.2.2.2.1, hD.1.2.2.2.2.1⟩
    · exact ⟨hM.1.1, hM.1.2.1, hM.1.2.2.1, hM.1.2.2.2.1, hM.1.2.2.2.2.1⟩
    · exact ⟨hF.1.1, hF.1.2.1, hF.1.2.2.1, hF.1.2.2.2.1, hF.1.2.2.2.2.1⟩
  have hw : (1 : Int32) ≤ x ∧ x ≤ 3 := by rcases ho with ⟨rfl, -⟩ | ⟨rfl, -⟩ | ⟨rfl, -⟩ <;> decide
  have hi : (0 : Int32) ≤ x ∧ x ≤ 3 := by rcases ho with ⟨rfl, -⟩ | ⟨rfl, -⟩ | ⟨rfl, -⟩ <;> decide
  have x0 : ¬ x = 0 := by rcases ho with ⟨rfl, -⟩ | ⟨rfl, -⟩ | ⟨rfl, -⟩ <;> decide
  obtain ⟨r, U', r', B', g, f, hP⟩ := hJ
  have eC : tcL x A1 = (if r = 0 then tcE (-1) else bd (gX10_tellLines x) fun r8 => tcE r8) (pu rh26 21 U' A1) := by
    unfold tcL
    rw [bd_iw, b2i_t hw, if_neg k10, bd_lf _ g]
  have eR : txM x B1 = (if r' = -1 then bd (ld 0 31) fun v9 => bd (sv 0 33 v9) fun _ => bd (ld 0 32) fun v10 => bd (sv 0 34 v10) fun _ => trE x r' else trE x r') B' := by
    unfold txM
    rw [bd_some (p_isIn _ _ _ _), b2i_t hi, if_neg k10, bd_some (hG.trans f)]
  rcases hP with ⟨rfl, rfl, ⟨fu, fr, q, st, cf, f31, f32⟩⟩ | ⟨rfl, k, t', hk16, rfl, hML, hk, hDk⟩
  · obtain ⟨fa, fl, fi⟩ := lines_frame t1 vl vn fu cf.1
    have c6 : pu rh26 21 U' A1 113 = U' 6 := fi 6 (by decide)
    obtain ⟨B4, e1, e2, e3⟩ := tx_fault h2 (fun j _ j1 j2 => fa j j1 j2) (fun j _ => fl j) fr (by rw [c6]; exact cf) f31 f32 x
    exact Or.inl ⟨_, B4, by rw [eC, if_pos rfl]; exact e1, by rw [eR, if_pos rfl]; exact e2, e3⟩
  · obtain ⟨-, fu, ct, fr, -⟩ := hML
    obtain ⟨fa, fl, fi⟩ := lines_frame t1 vl vn fu ct.1
    have c6 : pu rh26 21 U' A1 113 = U' 6 := fi 6 (by decide)
    have c1 : pu rh26 21 U' A1 124 = U' 1 := fi 1 (by decide)
    have c2 : pu rh26 21 U' A1 125 = U' 2 := fi 2 (by decide)
    have c3 : pu rh26 21 U' A1 126 = U' 3 := fi 3 (by decide)
    have c4 : pu rh26 21 U' A1 127 = U' 4 := fi 4 (by decide)
    have c5 : pu rh26 21 U' A1 128 = U' 5 := fi 5 (by decide)
    obtain ⟨A2, hA2⟩ : ∃ A2, pu rh26 21 U' A1 = A2 := ⟨_, rfl⟩
    rw [hA2] at fa fl c6 c1 c2 c3 c4 c5 eC
    have lb : (B' 0).length = 68 := by rw [fr.1 0]; exact b0
    obtain ⟨z, hz⟩ : ∃ z, (B' 0).set 13 0 = z := ⟨_, rfl⟩
    have h3 := tx_end (z := z) h2 (fun j _ j1 j2 => fa j j1 j2) (fun j _ => fl j) fr (by rw [← hz, List.length_set]; exact lb) (by rw [← hz, gd_set_same (by omega)]) (by rw [← hz, gd_set_ne (by decide), fr.2.2.1 33 (by decide), b33, c6]; exact ct.2.2.1.1.symm) (by rw [← hz, gd_set_ne (by decide), fr.2.2.1 34 (by decide), b34, c6]; exact ct.2.2.1.2.symm) (fun k k1 k2 k3 => by rw [← hz, gd_set_ne (fun q => k1 q.symm)])
    have ho' : o = 24 ∨ o = 29 ∨ o = 34 := by omega
    obtain ⟨A', e1, e2, e3, e4, e5, e6, e7, e8, e9⟩ := c_tell (A := A2) (k := k) ho (by rw [fl]; exact a10) (by rw [fl]; exact lo.1) (by rw [fl]; exact lo.2.1) (by rw [fl]; exact lo.2.2.1) (by rw [fl]; exact lo.2.2.2.1) (by rw [fl]; exact lo.2.2.2.2) (by rw [fl]; exact s2) (by rw [fl]; exact s3) (by rw [fl]; exact s4) (by rw [fl]; exact s5) (by rw [fl]; exact s6) (by rw [c1]; exact hk) (by rw [fl]; exact t1)
    have nk : ¬ nI k = (-1 : Int32) := fun z => by
      have p := nI_pos' (n := k) (by omega)
      rw [z] at p
      exact absurd p (by decide)
    have y0 : (up A2 113 ((A2 113).set 0 0)) 0 = A2 0 := up_ne _ _ (by decide)
    have l2 : ∀ j, ((up A2 113 ((A2 113).set 0 0)) j).length = (A1 j).length := fun j => by rw [up_len List.length_set j, fl]
    refine Or.inr ⟨k, U', up A2 113 ((A2 113).set 0 0), A', B', hk16, ?_, ?_, by rw [hz]; exact h3, fr, fun j j1 j2 j3 => ?_, fun j j1 => ?_, by rw [y0]; exact e3, by rw [y0, fl]; exact a10, ⟨?_, ?_, ?_, ?_, ?_⟩, ?_, by rw [e6, c2], by rw [e7, c3], by rw [e8, c4], by rw [e9, c5], hDk⟩
    · rw [eC, if_neg (by decide)]; exact e1
    · rw [eR, if_neg nk]
      unfold trE
      rw [bd_sv _ (by omega), if_neg nk, if_neg x0]
    · by_cases q : j = 113
      · subst q
        rw [e4, up_same]
      · rw [e2 j j2 q j3, up_ne _ _ q]
    · rw [l2]
      by_cases q0 : j = 0
      · subst q0
        rw [e3]
        by_cases q3 : x = 3
        · rw [if_pos q3, fl]
        · rw [if_neg q3, List.length_set, fl]
      · by_cases q : j = 113
        · subst q
          rw [e4, List.length_set, fl]
        · by_cases qo : o ≤ j ∧ j ≤ o + 4
          · rcases (by omega : j = o ∨ j = o + 1 ∨ j = o + 2 ∨ j = o + 3 ∨ j = o + 4) with rfl | rfl | rfl | rfl | rfl
            · rw [e5, List.length_set, fl]
            · rw [e6, fl, s3, lo.2.1]
            · rw [e7, fl, s4, lo.2.2.1]
            · rw [e8, fl, s5, lo.2.2.2.1]
            · rw [e9, fl, s6, lo.2.2.2.2]
          · rw [e2 j q0 q qo, fl]
    · rw [e5, List.length_set, fl]; exact lo.1
    · rw [e6, fl]; exact s3
    · rw [e7, fl]; exact s4
    · rw [e8, fl]; exact s5
    · rw [e9, fl]; exact s6
    · rw [e5, gd_set_same (by rw [fl, lo.1]; decide)]
set_option maxHeartbeats 1600000 in
theorem text_law {A1 B1 B2 : Bk} (h2 : R A1 B2) (hB2 : B2 = up B1 0 ((B1 0).set 26 0)) (l1 : (B1 0).length = 68) (a567 : (A1 113).getD 5 0 = 0 ∧ (A1 113).getD 6 0 = 0 ∧ (A1 113).getD 7 0 = -1) (b14 : (B2 0).getD 14 0 = 0) (b27 : (B2 0).getD 27 0 = 0) (b28 : (B2 0).getD 28 0 = 0) (b33 : (B2 0).getD 33 0 = 0) (b34 : (B2 0).getD 34 0 = -1) (b26 : (B2 0).getD 26 0 = 0) : ∃ r A' B', (bd (lf rh27 10 gX3_readLaw) fun r9 => (if r9 = 0 then tcL 0 else bd (lf rh28 14 gX2_copy) fun r10 => bd (ld 17 0) fun v11 => tcE v11)) A1 = some (r, A') ∧ txM 0 B1 = some (r, B') ∧ R A' B' := by
  obtain ⟨⟨np, nc, nt, ks, wh, hH, hU⟩, hT, hI, hA, hB⟩ := id h2
  obtain ⟨hL, hD, hM, hF⟩ := R_rel hH
  obtain ⟨ts, n, hx, hy, hb, t1, t0⟩ := tx_data h2
  have b0 := R_B0 h2
  have k10 : ¬ nI 1 = (0 : Int32) := by decide
  have k00 : nI 0 = (0 : Int32) := rfl
  obtain ⟨v0, v1, v2, v3, v4, v5, v6⟩ := hL.1
  obtain ⟨m9, m10, m11, m12, m13, m14, m15⟩ := hL.2.1
  obtain ⟨-, -, ⟨s1, s2, s3, s4, s5, s6, s7⟩, -⟩ := hA
  obtain ⟨U1, B3, vl, vn, f3, r, U', r', B', g, f, hP⟩ := law_read (U := fun i => A1 (rh27 i)) (B := B2) hx t1 t0 a567.1 a567.2.1 a567.2.2 hy ⟨s1, s2, s3, s4, s5, s6⟩ hb b14 b27 b28 ⟨m10, m11, m12, m13, m14, m15, hB.2.2.1⟩
  have hG : gX11_readsText 0 B1 = some (r', B') := by
    rw [rt_eq, bd_sv _ (by omega), ← hB2, bd_some f3, if_neg (by decide), if_neg (by decide), if_neg (by decide), bd_some f]; rfl
  rw [bd_lf _ g]
  have eR : txM 0 B1 = (if r' = -1 then bd (ld 0 31) fun v9 => bd (sv 0 33 v9) fun _ => bd (ld 0 32) fun v10 => bd (sv 0 34 v10) fun _ => trE 0 r' else trE 0 r') B' := by
    unfold txM
    rw [bd_some (p_isIn _ _ _ _), b2i_t (by decide), if_neg k10, bd_some hG]
  rcases hP with ⟨rfl, rfl, ⟨wv, fr, q, st, cf, f31, f32⟩⟩ | ⟨rfl, l, cd, t', rfl, hl, hLI⟩
  · obtain ⟨fa, fl, fi⟩ := law_frame t1 vl vn wv cf.1
    have c8 : pu rh27 10 U' A1 113 = U' 8 := fi 8 (by decide)
    obtain ⟨B4, e1, e2, e3⟩ := tx_fault h2 (fun j _ j1 j2 => fa j j1 j2) (fun j _ => fl j) fr (by rw [c8]; exact cf) f31 f32 0
    refine ⟨-1, _, B4, ?_, by rw [eR, if_pos rfl]; exact e2, e3⟩
    rw [if_pos rfl]
    unfold tcL
    rw [bd_iw, b2i_f (by decide), if_pos k00]
    exact e1
  · obtain ⟨⟨tk, wv, ct, fr, tr⟩, hcd, ⟨p1, p2, p3, p4⟩, hr, hln⟩ := hLI
    have tn := (TK_ok hx tk).1
    have n4 := hx.1
    obtain ⟨fa, fl, fi⟩ := law_frame t1 vl vn wv ct.1
    have c8 : pu rh27 10 U' A1 113 = U' 8 := fi 8 (by decide)
    have c1 : pu rh27 10 U' A1 116 = U' 1 := fi 1 (by decide)
    have c2 : pu rh27 10 U' A1 117 = U' 2 := fi 2 (by decide)
    have c3 : pu rh27 10 U' A1 118 = U' 3 := fi 3 (by decide)
    have c4 : pu rh27 10 U' A1 119 = U' 4 := fi 4 (by decide)
    have c5 : pu rh27 10 U' A1 120 = U' 5 := fi 5 (by decide)
    have c6 : pu rh27 10 U' A1 121 = U' 6 := fi 6 (by decide)
    obtain ⟨A2, hA2⟩ : ∃ A2, pu rh27 10 U' A1 = A2 := ⟨_, rfl⟩
    rw [hA2] at fa fl c8 c1 c2 c3 c4 c5 c6 ⊢
    have lb : (B' 0).length = 68 := by rw [fr.1 0]; exact b0
    obtain ⟨z, hz⟩ : ∃ z, (B' 0).set 13 0 = z := ⟨_, rfl⟩
    have zl : z.length = 68 := by rw [← hz, List.length_set]; exact lb
    have h3 := tx_end (z := z) h2 (fun j _ j1 j2 => fa j j1 j2) (fun j _ => fl j) fr zl (by rw [← hz, gd_set_same (by omega)]) (by rw [← hz, gd_set_ne (by decide), fr.2.2.1 33 (by decide), b33, c8]; exact ct.2.2.1.1.symm) (by rw [← hz, gd_set_ne (by decide), fr.2.2.1 34 (by decide), b34, c8]; exact ct.2.2.1.2.symm) (fun k k1 k2 k3 => by rw [← hz, gd_set_ne (fun q => k1 q.symm)])
    have y9 : (up B' 0 z) 9 = B' 9 := rfl
    have y10 : (up B' 0 z) 10 = B' 10 := rfl
    have y11 : (up B' 0 z) 11 = B' 11 := rfl
    have y12 : (up B' 0 z) 12 = B' 12 := rfl
    have y13 : (up B' 0 z) 13 = B' 13 := rfl
    have y14 : (up B' 0 z) 14 = B' 14 := rfl
    have y15 : (up B' 0 z) 15 = B' 15 := rfl
    have l17 : (A2 17).length = 8 := by rw [fl]; exact v0
    obtain ⟨B4, w1, w2, w3, ⟨w10, w11, w12, w13⟩, w14, w15⟩ := p_tl (B := up B' 0 z) (l := l) (cd := cd) hl (by omega) (by rw [up_same]; exact zl) (by rw [y9, fr.1 9]; exact m9) (by rw [y10, fr.1 10]; exact m10) (by rw [y11, fr.1 11]; exact m11) (by rw [y12, fr.1 12]; exact m12) (by rw [y13, fr.1 13]; exact m13) (by rw [y14, fr.1 14]; exact m14) (by rw [y15, fr.1 15]; exact m15) (by rw [up_same, ← hz, gd_set_ne (by decide), fr.2.2.1 26 (by decide)]; exact b26) (by rw [up_same, ← hz, gd_set_ne (by decide)]; exact p3)
    rw [y9] at w3
    rw [y10] at w10
    rw [y11] at w11
    rw [y12] at w12
    rw [y13] at w13
    rw [y14] at w14
    rw [y15] at w15
    have nk : ¬ nI l = (-1 : Int32) := fun z => by
      have p := nI_pos' (n := l) (by omega)
      rw [z] at p
      exact absurd p (by decide)
    have cc := fun {β : Type} (K : Int32 → MM β) => c_c2 (A := A2) l17 (by rw [fl]; exact s1) (by rw [fl]; exact v1) (by rw [fl]; exact v2) (by rw [fl]; exact v3) (by rw [fl]; exact v4) (by rw [fl]; exact v5) (by rw [fl]; exact s2) (by rw [fl]; exact s3) (by rw [fl]; exact s4) (by rw [fl]; exact s5) (by rw [fl]; exact s6) K
    obtain ⟨C, hC⟩ : ∃ C, up (up (up (up (up (up A2 17 (((A2 17).set 0 ((A2 116).getD 0 0)).set 1 ((A2 116).getD 1 0))) 18 (A2 117)) 19 (A2 118)) 20 (A2 119)) 21 (A2 120)) 22 (A2 121) = C := ⟨_, rfl⟩
    rw [hC] at cc
    have d17 : C 17 = ((A2 17).set 0 (nI l)).set 1 (nI cd) := by rw [← p1, ← p2, ← c1, ← hC]; rfl
    have d18 : C 18 = U' 2 := by rw [← c2, ← hC]; rfl
    have d19 : C 19 = U' 3 := by rw [← c3, ← hC]; rfl
    have d20 : C 20 = U' 4 := by rw [← c4, ← hC]; rfl
    have d21 : C 21 = U' 5 := by rw [← c5, ← hC]; rfl
    have d22 : C 22 = U' 6 := by rw [← c6, ← hC]; rfl
    have dn : ∀ j, ¬ (17 ≤ j ∧ j ≤ 22) → C j = A2 j := fun j hj => by rw [← hC, up_ne _ _ (by omega), up_ne _ _ (by omega), up_ne _ _ (by omega), up_ne _ _ (by omega), up_ne _ _ (by omega), up_ne _ _ (by omega)]
    have lC : (C 17).length = 8 := by rw [d17, List.length_set, List.length_set]; exact l17
    have kC : (C 17).getD 0 0 = nI l := by rw [d17, gd_set_ne (by decide), gd_set_same (by omega)]
    have d113 := dn 113 (by decide)
    have vlen : ∀ j, (C j).length = (A2 j).length := fun j => by
      by_cases q : 17 ≤ j ∧ j ≤ 22
      · rcases (by omega : j = 17 ∨ j = 18 ∨ j = 19 ∨ j = 20 ∨ j = 21 ∨ j = 22) with rfl | rfl | rfl | rfl | rfl | rfl
        · rw [lC, l17]
        · rw [d18, ← c2, fl, fl, s2]; exact v1.symm
        · rw [d19, ← c3, fl, fl, s3]; exact v2.symm
        · rw [d20, ← c4, fl, fl, s4]; exact v3.symm
        · rw [d21, ← c5, fl, fl, s5]; exact v4.symm
        · rw [d22, ← c6, fl, fl, s6]; exact v5.symm
      · rw [dn j q]
    refine ⟨nI l, up C 113 ((A2 113).set 0 0), B4, ?_, ?_, ?_⟩
    · rw [if_neg (by decide), cc, bd_ld _ (by omega), kC]
      unfold tcE
      rw [bd_sv _ (by rw [d113, fl, t1]; decide), d113]; rfl
    · rw [eR, if_neg nk]
      unfold trE
      rw [bd_sv _ (by omega), hz, if_neg nk, if_pos rfl, bd_some w1]; rfl
    · refine tx_law h3 (fun j j1 j2 => ?_) (fun j j1 => ?_) (fun i i1 i2 => w2 i i2) (fun i i1 => ?_) ?_
      · by_cases q : j = 113
        · subst q
          rw [up_same, up_same]
        · rw [up_ne _ _ q, up_ne _ _ q]
          exact dn j (by omega)
      · by_cases q : j = 113
        · subst q
          rw [up_same, up_same]
        · rw [up_ne _ _ q, up_ne _ _ q]
          exact vlen j
      · by_cases q : 9 ≤ i ∧ i ≤ 15
        · rcases (by omega : i = 9 ∨ i = 10 ∨ i = 11 ∨ i = 12 ∨ i = 13 ∨ i = 14 ∨ i = 15) with rfl | rfl | rfl | rfl | rfl | rfl | rfl
          · rw [w3, List.length_set, y9]
          · rw [y10]; exact w10.1
          · rw [y11]; exact w11.1
          · rw [y12]; exact w12.1
          · rw [y13]; exact w13.1
          · rw [y14]; exact w14.1
          · rw [y15]; exact w15.1
        · rw [w2 i q]
      · have z17 : (up C 113 ((A2 113).set 0 0)) 17 = C 17 := rfl
        have z18 : (up C 113 ((A2 113).set 0 0)) 18 = C 18 := rfl
        have z19 : (up C 113 ((A2 113).set 0 0)) 19 = C 19 := rfl
        have z20 : (up C 113 ((A2 113).set 0 0)) 20 = C 20 := rfl
        have z21 : (up C 113 ((A2 113).set 0 0)) 21 = C 21 := rfl
        have z22 : (up C 113 ((A2 113).set 0 0)) 22 = C 22 := rfl
        have z23 : (up C 113 ((A2 113).set 0 0)) 23 = C 23 := rfl
        have n9 : (B' 9).length = 2 := by rw [fr.1 9]; exact m9
        refine ⟨⟨?_, ?_, ?_, ?_, ?_, ?_, ?_⟩, ⟨by rw [w3, List.length_set]; exact n9, by rw [w10.1, fr.1 10]; exact m10, by rw [w11.1, fr.1 11]; exact m11, by rw [w12.1, fr.1 12]; exact m12, by rw [w13.1, fr.1 13]; exact m13, by rw [w14.1, fr.1 14]; exact m14, by rw [w15.1, fr.1 15]; exact m15⟩, l, cd, hl, by omega, ?_, by rw [w3, gd_set_same (by omega)], fun i hi => ?_, fun i hi => ?_⟩
        · show ((up C 113 ((A2 113).set 0 0)) 17).length = 8
          rw [z17]; exact lC
        · show ((up C 113 ((A2 113).set 0 0)) 18).length = 16
          rw [z18, vlen, fl]; exact v1
        · show ((up C 113 ((A2 113).set 0 0)) 19).length = 16
          rw [z19, vlen, fl]; exact v2
        · show ((up C 113 ((A2 113).set 0 0)) 20).length = 16
          rw [z20, vlen, fl]; exact v3
        · show ((up C 113 ((A2 113).set 0 0)) 21).length = 16
          rw [z21, vlen, fl]; exact v4
        · show ((up C 113 ((A2 113).set 0 0)) 22).length = 400
          rw [z22, vlen, fl]; exact v5
        · show ((up C 113 ((A2 113).set 0 0)) 23).length = 400
          rw [z23, vlen, fl]; exact v6
        · show ((up C 113 ((A2 113).set 0 0)) 17).getD 0 0 = nI l
          rw [z17]; exact kC
        · show RCode (((up C 113 ((A2 113).set 0 0)) 22).getD i 0) _ _
          rw [z22, d22, w14.2.1 i hi, w15.2.1 i hi]
          exact hr i hi
        · obtain ⟨g1, a, b, c, ab, bc, ccd, g3, g4, g5, h11, h12, h13, ty1, ty2⟩ := hln i hi
          show ((up C 113 ((A2 113).set 0 0)) 18).getD i 0 = _ ∧ ∃ a b c : Nat, a ≤ b ∧ b ≤ c ∧ c ≤ cd ∧ ((up C 113 ((A2 113).set 0 0)) 19).getD i 0 = nI a ∧ ((up C 113 ((A2 113).set 0 0)) 20).getD i 0 = nI b ∧ ((up C 113 ((A2 113).set 0 0)) 21).getD i 0 = nI c ∧ _ ∧ _ ∧ _ ∧ (∃ y, y ≠ 1 ∧ tcl (seg ((up C 113 ((A2 113).set 0 0)) 22) a b) [] = some [y]) ∧ (b = c ∨ tcl (seg ((up C 113 ((A2 113).set 0 0)) 22) b c) [] = some [1])
          rw [z18, z19, z20, z21, z22, d18, d19, d20, d21, d22, w10.2.1 i hi, w11.2.1 i hi, w12.2.1 i hi, w13.2.1 i hi]
          exact ⟨g1, a, b, c, ab, bc, ccd, g3, g4, g5, h11, h12, h13, ty1, ty2⟩
