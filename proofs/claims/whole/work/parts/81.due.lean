/-! PURE: what comes due -/
def tailD (x1 r1 a3 : Int32) : MM Int32 :=
  bd (la 4 x1) fun v4 =>
  jn (fun (a6 : Int32) =>
  jn (fun (a8 : Int32) =>
  bd (gX11_notes a6 x1 a8) fun r9 =>
  jn (fun (a11 : Int32) =>
  bd (sa 1 (163 + x1) a11) fun _ =>
  bd (la 1 (15 + v4)) fun v12 =>
  jn (fun (a14 : Int32) =>
  bd (sa 1 (15 + v4) (v12 + a14)) fun _ =>
  bd (la 1 (27 + v4)) fun v15 =>
  jn (fun (a17 : Int32) =>
  bd (sa 1 (27 + v4) (v15 + a17)) fun _ =>
  bd (gX11_comesOut x1) fun r18 =>
  rz a3) (fun j16 =>
  (if a3 = 0 then
  j16 1
  else
  j16 0))) (fun j13 =>
  (if a3 = 0 then
  j13 0
  else
  j13 1))) (fun j10 =>
  (if a3 = 0 then
  j10 2
  else
  j10 1))) (fun j7 =>
  (if r1 = ((-1)) then
  j7 ((-1))
  else
  bd (la 1 (39 + r1)) fun v19 =>
  j7 v19))) (fun j5 =>
  (if a3 = 0 then
  j5 3
  else
  j5 2))
theorem due_eq (x1 : Int32) : gX11_comesDue x1 = bd (gX11_inCloth x1) fun r1 => jn (tailD x1 r1) (fun j2 => jn (fun (a21 : Unit) => j2 0) (fun j20 => (if r1 = ((-1)) then j20 () else bd (la 1 (39 + r1)) fun v22 => bd (la 4 x1) fun v23 => jn (fun (a25 : Unit) => j2 1) (fun j24 => (if v22 = v23 then j24 () else bd (gX11_tellsOf x1) fun r26 => bd (gX11_happens r26) fun r27 => (if r27 = 0 then j20 () else j24 ())))))) := rfl
theorem wr_if {H B : Bk} {th np nc nt : Nat} {ks : Nat → List Nat} {wh : Nat → Nat} (h : HR H B th np nc nt ks wh) {ln : Nat} (e : (B 1).getD 2 0 = nI ln) (hle : ln ≤ 150) (w t m : Int32) : if th = 1 ∨ ln = 150 then (lf rh15 15 (gX0_write w t m) H = some (0, H) ∧ gX11_notes w t m B = some (0, B)) else (th = 0 ∧ ln < 150 ∧ lf rh15 15 (gX0_write w t m) H = some (0, up (up H 2 (bk4 (B 6) ln ((B 1).getD 0 0) w t m)) 36 ((H 36).set 3 (nI (ln + 1)))) ∧ gX11_notes w t m B = some (0, up (up B 6 (bk4 (B 6) ln ((B 1).getD 0 0) w t m)) 1 ((B 1).set 2 (nI (ln + 1))))) := by
  obtain ⟨⟨l0, -⟩, ⟨hn1, hn2, hn3, hn4⟩, ⟨p1, p2, p3, p4, p5, p6⟩, ⟨ln', hln, eln⟩, -⟩ := HR_W h
  obtain ⟨-, ⟨ht1, ht2⟩, ⟨hb1, hb2⟩, ⟨b0, b5, b6, b7, b8⟩, -⟩ := h
  have h3 : (H 36).getD 3 0 = nI ln := by rw [p3]; exact e
  have hT1 : ((fun i => H (rh15 i)) 1).length = 600 := by show (H 2).length = 600; rw [hb1]; exact hb2
  obtain ⟨hl150, hl0⟩ : ln' = ln' ∧ (nI ln = nI ln') := ⟨rfl, e.symm.trans eln⟩
  by_cases hc : th = 1 ∨ ln = 150
  · rw [if_pos hc]
    have hno : nI th = nI 1 ∨ (nI th = 0 ∧ ln = 150) := by
      rcases hc with q | q
      · exact Or.inl (by rw [q])
      · rcases Nat.lt_or_ge th 1 with z | z
        · exact Or.inr ⟨by rw [show th = 0 by omega]; rfl, q⟩
        · exact Or.inl (by rw [show th = 1 by omega])
    refine ⟨?_, p_notes_no b0 hn1 b5 e hno w t m⟩
    have := lf_run (ρ := rh15) (n := 15) (S := H) (p_write_no (T := fun i => H (rh15 i)) l0 ht2 h3 hno w t m)
    rw [this, pu_self]
  · rw [if_neg hc]
    have hth : th = 0 := by omega
    subst hth
    have hl2 : ln < 150 := by
      omega
    refine ⟨rfl, hl2, ?_, p_notes_yes b0 hn1 hb2 b5 e hl2 w t m⟩
    have := lf_run (ρ := rh15) (n := 15) (S := H) (p_write_yes (T := fun i => H (rh15 i)) hT1 l0 ht2 h3 hl2 w t m)
    rw [this, pu_up rh15_inj (i := 2) (by decide), pu1 rh15_inj (i := 1) (by decide)]
    show some (0, up (up H 2 (bk4 (H 2) ln ((H 36).getD 2 0) w t m)) 36 ((H 36).set 3 (nI (ln + 1)))) = _
    rw [hb1, p2]
theorem up_comm (S : Bk) {i j : Nat} (hij : i ≠ j) (l l' : List Int32) : up (up S i l) j l' = up (up S j l') i l := by
  funext x
  simp only [up_ap]
  by_cases h1 : x = j
  · have : ¬ x = i := fun q => hij (q.symm.trans h1)
    simp only [if_pos h1, if_neg this]
  · by_cases h2 : x = i
    · simp only [if_neg h1, if_pos h2]
    · simp only [if_neg h1, if_neg h2]
theorem p_holderOf {W : Bk} {nw ow du : List Int32} {np nc nt t : Nat} {ks : Nat → List Nat} {wh : Nat → Nat} (h : WR W nw ow du np nc nt ks wh) (ht : t < nt) : gX9_holderOf (nI t) W = some (if wh t = 0 then -nI 1 else nw.getD (39 + (wh t - 1)) 0, W) := by
  obtain ⟨hl, ⟨hn1, hn2, hn3, hn4⟩, ⟨p1, p2, p3, p4, p5, p6⟩, he, ⟨s1, s2, s3, s4, s5, s6, s7⟩, hod, ho, hd, hw, ⟨k1, k2, k3⟩⟩ := h
  obtain ⟨l0, l1, l2, l3, l4, l5, l6, l7, l8, l9, l10, l11, l12⟩ := id hl
  obtain ⟨b1, b2, b3, b4⟩ := k2 t ht
  unfold gX9_holderOf
  rw [bd_some (t_hasThing l0 p6 ht (by omega))]
  by_cases hq : wh t = 0
  · rw [hq, e_01] at b3
    simp (disch := first | omega | (simp only [up_ap, List.length_set, Nat.reduceEqDiff, reduceIte]; omega)) only [bd_pr, pr_ap, jn_eq, lt_eq, bd_bd, bd_ite, ite_ap, bd_ld, bd_sv, bd_la, bd_sa, bd_ln, bd_rz0, bd_rz1, rz_n0, rz_n1, e_lit2, nI_z, nI_eq0, nI_0eq, nI_le0, nI_lt0, nI_0lt, nI_0le, e_001, e_n10, e_n1lt, bd_la0, bd_sa0, bd_rz00, rz_0, rz_1, b2i_0, Int32.add_zero, Int32.zero_add, nI_add, nI_pred2, pk_sub, pk_mul, pk_div, e_nz, nI_eq, nI_leI, nI_ltI, e_nm1, e_nm2, up_ap, gd_set_ne, gd_set_same, List.length_set, Nat.add_sub_cancel, Nat.reduceEqDiff, Nat.reduceAdd, Nat.reduceMul, Nat.reduceSub, Nat.reduceLT, Nat.reduceLeDiff, reduceIte, Nat.not_lt_zero, not_true_eq_false, not_false_eq_true, and_true, true_and, and_false, false_and, Nat_1_le_0, b3, hq]
    rw [bd_some (f_hasCloth l0 p5 (x := -nI 1) (fun q => Int32.not_le.mpr neg_lt q.1))]
    simp (disch := first | omega | (simp only [up_ap, List.length_set, Nat.reduceEqDiff, reduceIte]; omega)) only [bd_pr, pr_ap, jn_eq, lt_eq, bd_bd, bd_ite, ite_ap, bd_ld, bd_sv, bd_la, bd_sa, bd_ln, bd_rz0, bd_rz1, rz_n0, rz_n1, e_lit2, nI_z, nI_eq0, nI_0eq, nI_le0, nI_lt0, nI_0lt, nI_0le, e_001, e_n10, e_n1lt, bd_la0, bd_sa0, bd_rz00, rz_0, rz_1, b2i_0, Int32.add_zero, Int32.zero_add, nI_add, nI_pred2, pk_sub, pk_mul, pk_div, e_nz, nI_eq, nI_leI, nI_ltI, e_nm1, e_nm2, up_ap, gd_set_ne, gd_set_same, List.length_set, Nat.add_sub_cancel, Nat.reduceEqDiff, Nat.reduceAdd, Nat.reduceMul, Nat.reduceSub, Nat.reduceLT, Nat.reduceLeDiff, reduceIte, Nat.not_lt_zero, not_true_eq_false, not_false_eq_true, and_true, true_and, and_false, false_and]
  · obtain ⟨c, hc⟩ : ∃ c, wh t = c + 1 := ⟨wh t - 1, by omega⟩
    rw [hc, nI_pred2] at b3
    have e4 := s4 c (by omega)
    have hcn : c < nc := by omega
    simp (disch := first | omega | (simp only [up_ap, List.length_set, Nat.reduceEqDiff, reduceIte]; omega)) only [bd_pr, pr_ap, jn_eq, lt_eq, bd_bd, bd_ite, ite_ap, bd_ld, bd_sv, bd_la, bd_sa, bd_ln, bd_rz0, bd_rz1, rz_n0, rz_n1, e_lit2, nI_z, nI_eq0, nI_0eq, nI_le0, nI_lt0, nI_0lt, nI_0le, e_001, e_n10, e_n1lt, bd_la0, bd_sa0, bd_rz00, rz_0, rz_1, b2i_0, Int32.add_zero, Int32.zero_add, nI_add, nI_pred2, pk_sub, pk_mul, pk_div, e_nz, nI_eq, nI_leI, nI_ltI, e_nm1, e_nm2, up_ap, gd_set_ne, gd_set_same, List.length_set, Nat.add_sub_cancel, Nat.reduceEqDiff, Nat.reduceAdd, Nat.reduceMul, Nat.reduceSub, Nat.reduceLT, Nat.reduceLeDiff, reduceIte, Nat.not_lt_zero, not_true_eq_false, not_false_eq_true, and_true, true_and, and_false, false_and, Nat_1_le_0, b3, hc]
    rw [bd_some (t_hasCloth l0 p5 hcn (by omega))]
    have n1 : ¬ c + 1 = 0 := by omega
    simp (disch := first | omega | (simp only [up_ap, List.length_set, Nat.reduceEqDiff, reduceIte]; omega)) only [bd_pr, pr_ap, jn_eq, lt_eq, bd_bd, bd_ite, ite_ap, bd_ld, bd_sv, bd_la, bd_sa, bd_ln, bd_rz0, bd_rz1, rz_n0, rz_n1, e_lit2, nI_z, nI_eq0, nI_0eq, nI_le0, nI_lt0, nI_0lt, nI_0le, e_001, e_n10, e_n1lt, bd_la0, bd_sa0, bd_rz00, rz_0, rz_1, b2i_0, Int32.add_zero, Int32.zero_add, nI_add, nI_pred2, pk_sub, pk_mul, pk_div, e_nz, nI_eq, nI_leI, nI_ltI, e_nm1, e_nm2, up_ap, gd_set_ne, gd_set_same, List.length_set, Nat.add_sub_cancel, Nat.reduceEqDiff, Nat.reduceAdd, Nat.reduceMul, Nat.reduceSub, Nat.reduceLT, Nat.reduceLeDiff, reduceIte, Nat.not_lt_zero, not_true_eq_false, not_false_eq_true, and_true, true_and, and_false, false_and, Nat_1_le_0, b3, e4, n1]
theorem settle_no {H B : Bk} {th np nc nt : Nat} {ks : Nat → List Nat} {wh : Nat → Nat} (h : HR H B th np nc nt ks wh) {t : Nat} (ht : t < nt) {r1 : Int32} (hr1 : r1 = nI (wh t) - nI 1) : ∃ H' B', gX1_settle (nI t) 0 H = some (0, H') ∧ tailD (nI t) r1 0 B = some (0, B') ∧ DR H B th np nc nt H' B' := by
  obtain ⟨⟨l0, l1, l2, l3, l4, l5, l6, l7, l8, l9, l10, l11, l12⟩, ⟨hn1, hn2, hn3, hn4⟩, ⟨p1, p2, p3, p4, p5, p6⟩, he, ⟨s1, s2, s3, s4, s5, s6, s7⟩, hod, ho, hd, hw, ⟨k1, k2, k3⟩⟩ := HR_W h
  obtain ⟨o, hoo, eo⟩ := ho t ht
  have c8 : (H 44).getD t 0 = nI o := by rw [hod.1]; exact eo
  have m4 : (B 4).length = 20 := by rw [← hod.1]; exact l8
  have e7 := s7 t (by omega)
  obtain ⟨v, hv⟩ : ∃ v, (B 1).getD (27 + o) 0 = v := ⟨_, rfl⟩
  obtain ⟨v', hv'⟩ : ∃ v, (B 1).getD (15 + o) 0 = v := ⟨_, rfl⟩
  have ek := s3 o (by omega)
  rw [hv] at ek
  obtain ⟨ln, hln, eln⟩ := he
  have hR0 : HR (up H 48 ((H 48).set t (nI 2))) (up B 1 ((B 1).set (163 + t) (nI 2))) th np nc nt ks wh := HR_cell (k := 12) h (by decide) (WR_is h.1 (show t < 20 by omega) (nI 2)) (fun q => by omega)
  have hR1 : HR (up (up H 48 ((H 48).set t (nI 2))) 39 ((H 39).set o (v + nI 1))) (up (up B 1 ((B 1).set (163 + t) (nI 2))) 1 (((B 1).set (163 + t) (nI 2)).set (27 + o) (v + nI 1))) th np nc nt ks wh := HR_cell (k := 3) hR0 (by decide) (WR_forgot hR0.1 (show o < 12 by omega) (v + nI 1)) (fun q => by omega)
  rw [up_up] at hR1
  obtain ⟨H1, hH1⟩ : ∃ x, x = up (up H 48 ((H 48).set t (nI 2))) 39 ((H 39).set o (v + nI 1)) := ⟨_, rfl⟩
  obtain ⟨nw1, hnw1⟩ : ∃ x, x = ((B 1).set (163 + t) (nI 2)).set (27 + o) (v + nI 1) := ⟨_, rfl⟩
  rw [← hH1, ← hnw1] at hR1
  have hF1 : HF H H1 B (up B 1 nw1) := by
    rw [hH1, hnw1]
    exact HF_trans (HF_trans (HF_H (k := 48) (by omega) List.length_set) (HF_H (k := 39) (by omega) (by rw [List.length_set, up_ne _ _ (by decide)]))) (HF_B (Or.inl rfl) (by simp only [List.length_set]))
  have hm : (if wh t = 0 then -nI 1 else (up B 1 nw1 1).getD (39 + (wh t - 1)) 0) = (if wh t = 0 then -nI 1 else (B 1).getD (39 + (wh t - 1)) 0) := by
    have hb := (k2 t ht).1
    rw [up_same, hnw1]
    by_cases q : wh t = 0
    · rw [if_pos q, if_pos q]
    · rw [if_neg q, if_neg q, gd_set_ne (by omega), gd_set_ne (by omega)]
  obtain ⟨m, hmm⟩ : ∃ m, (if wh t = 0 then -nI 1 else (B 1).getD (39 + (wh t - 1)) 0) = m := ⟨_, rfl⟩
  have hhold : gX9_holderOf (nI t) (fun i => H1 (rh12 i)) = some (m, fun i => H1 (rh12 i)) := by
    rw [p_holderOf hR1.1 ht, hm, hmm]
  have hpers : gX9_hasPerson (nI o) (fun i => H (rh12 i)) = some (nI 1, fun i => H (rh12 i)) := t_hasPerson (W := fun i => H (rh12 i)) l0 p4 hoo (by omega)
  have eln1 : (up B 1 nw1 1).getD 2 0 = nI ln := by rw [up_same, hnw1, gd_set_ne (by omega), gd_set_ne (by omega)]; exact eln
  have w1 := wr_if hR1 eln1 hln ((nI 3)) (nI t) m
  have w2 := wr_if h eln hln ((nI 3)) (nI t) m
  obtain ⟨H2, B2, hw1, hw2, hw3, hw4⟩ : ∃ H2 B2, lf rh15 15 (gX0_write ((nI 3)) (nI t) m) H1 = some (0, H2) ∧ (∃ B3, gX11_notes ((nI 3)) (nI t) m B = some (0, B3) ∧ B3 4 = B 4 ∧ (B3 1).length = 183 ∧ (B3 1).getD (27 + o) 0 = v ∧ (B3 1).getD (15 + o) 0 = v' ∧ up B3 1 ((((B3 1).set (163 + t) (nI 2)).set (27 + o) (v + nI 1))) = B2) ∧ HR H2 B2 th np nc nt ks wh ∧ HF H1 H2 (up B 1 nw1) B2 := by
    obtain ⟨H2, B2, x1, x2, x3, x4⟩ := wr_no hR1 ((nI 3)) (nI t) m
    refine ⟨H2, B2, x1, ?_, x3, x4⟩
    by_cases hq : th = 1 ∨ ln = 150
    · rw [if_pos hq] at w1 w2
      have hB2 : B2 = up B 1 nw1 := by
        have := w1.2
        rw [x2] at this
        cases this; rfl
      exact ⟨B, w2.2, rfl, hn1, hv, hv', by rw [hB2, hnw1]⟩
    · rw [if_neg hq] at w1 w2
      have hB2 : B2 = up (up (up B 1 nw1) 6 (bk4 (up B 1 nw1 6) ln ((up B 1 nw1 1).getD 0 0) ((nI 3)) (nI t) m)) 1 ((up B 1 nw1 1).set 2 (nI (ln + 1))) := by
        have := w1.2.2.2
        rw [x2] at this
        cases this; rfl
      refine ⟨_, w2.2.2.2, rfl, by rw [up_same, List.length_set]; exact hn1, by rw [up_same, gd_set_ne (by omega)]; exact hv, by rw [up_same, gd_set_ne (by omega)]; exact hv', ?_⟩
      rw [hB2, up_same, up_same, up_up, up_comm B (i := 1) (j := 6) (by decide), up_up, hnw1, gd_set_ne (by omega), gd_set_ne (by omega), up_ne _ _ (by decide)]
      congr 1
      rw [List.set_comm _ _ (show 2 ≠ 163 + t by omega), List.set_comm _ _ (show 2 ≠ 27 + o by omega)]
  obtain ⟨H3, B3, ks3, wh3, u1, u2, u3, u4, u5⟩ := un_h hw3 ht
  refine ⟨H3, B3, ?_, ?_, ks3, wh3, u3, HF_trans hF1 (HF_trans hw4 u4)⟩
  · unfold gX1_settle
    simp (disch := first | omega | (simp only [up_ap, List.length_set, Nat.reduceEqDiff, reduceIte]; omega)) only [bd_pr, pr_ap, jn_eq, lt_eq, bd_bd, bd_ite, ite_ap, bd_ld, bd_sv, bd_la, bd_sa, bd_ln, bd_rz0, bd_rz1, rz_n0, rz_n1, e_lit2, nI_z, nI_eq0, nI_0eq, nI_le0, nI_lt0, nI_0lt, nI_0le, e_001, e_n10, e_n1lt, bd_la0, bd_sa0, bd_rz00, rz_0, rz_1, b2i_0, Int32.add_zero, Int32.zero_add, nI_add, nI_pred2, pk_sub, pk_mul, pk_div, e_nz, nI_eq, nI_leI, nI_ltI, e_nm1, e_nm2, up_ap, gd_set_ne, gd_set_same, List.length_set, Nat.add_sub_cancel, Nat.reduceEqDiff, Nat.reduceAdd, Nat.reduceMul, Nat.reduceSub, Nat.reduceLT, Nat.reduceLeDiff, reduceIte, Nat.not_lt_zero, not_true_eq_false, not_false_eq_true, and_true, true_and, and_false, false_and, c8]
    rw [bd_lf0 _ hpers]
    simp (disch := first | omega | (simp only [up_ap, List.length_set, Nat.reduceEqDiff, reduceIte]; omega)) only [bd_pr, pr_ap, jn_eq, lt_eq, bd_bd, bd_ite, ite_ap, bd_ld, bd_sv, bd_la, bd_sa, bd_ln, bd_rz0, bd_rz1, rz_n0, rz_n1, e_lit2, nI_z, nI_eq0, nI_0eq, nI_le0, nI_lt0, nI_0lt, nI_0le, e_001, e_n10, e_n1lt, bd_la0, bd_sa0, bd_rz00, rz_0, rz_1, b2i_0, Int32.add_zero, Int32.zero_add, nI_add, nI_pred2, pk_sub, pk_mul, pk_div, e_nz, nI_eq, nI_leI, nI_ltI, e_nm1, e_nm2, up_ap, gd_set_ne, gd_set_same, List.length_set, Nat.add_sub_cancel, Nat.reduceEqDiff, Nat.reduceAdd, Nat.reduceMul, Nat.reduceSub, Nat.reduceLT, Nat.reduceLeDiff, reduceIte, Nat.not_lt_zero, not_true_eq_false, not_false_eq_true, and_true, true_and, and_false, false_and, Nat_1_le_0, ek]
    rw [← hH1, bd_lf0 _ hhold, bd_some hw1, bd_some u1]; rfl
  · obtain ⟨B4, n1, n2, n3, n4, n5, n6⟩ := hw2
    unfold tailD
    have m44 : (B4 4).length = 20 := by rw [n2]; exact m4
    have hs : ((B4 1).set (163 + t) (nI 2)).set (15 + o) v' = (B4 1).set (163 + t) (nI 2) := set_self (by rw [gd_set_ne (by omega)]; exact n5)
    by_cases q : wh t = 0
    · rw [if_pos q] at hmm
      subst hmm
      rw [q, e_01] at hr1
      subst hr1
      simp (disch := first | omega | (simp only [up_ap, List.length_set, Nat.reduceEqDiff, reduceIte]; omega)) only [bd_pr, pr_ap, jn_eq, lt_eq, bd_bd, bd_ite, ite_ap, bd_ld, bd_sv, bd_la, bd_sa, bd_ln, bd_rz0, bd_rz1, rz_n0, rz_n1, e_lit2, nI_z, nI_eq0, nI_0eq, nI_le0, nI_lt0, nI_0lt, nI_0le, e_001, e_n10, e_n1lt, bd_la0, bd_sa0, bd_rz00, rz_0, rz_1, b2i_0, Int32.add_zero, Int32.zero_add, nI_add, nI_pred2, pk_sub, pk_mul, pk_div, e_nz, nI_eq, nI_leI, nI_ltI, e_nm1, e_nm2, up_ap, gd_set_ne, gd_set_same, List.length_set, Nat.add_sub_cancel, Nat.reduceEqDiff, Nat.reduceAdd, Nat.reduceMul, Nat.reduceSub, Nat.reduceLT, Nat.reduceLeDiff, reduceIte, Nat.not_lt_zero, not_true_eq_false, not_false_eq_true, and_true, true_and, and_false, false_and, eo, Nat_1_le_0]
      rw [bd_some n1]
      simp (disch := first | omega | (simp only [up_ap, List.length_set, Nat.reduceEqDiff, reduceIte, n3]; omega)) only [bd_pr, pr_ap, jn_eq, lt_eq, bd_bd, bd_ite, ite_ap, bd_ld, bd_sv, bd_la, bd_sa, bd_ln, bd_rz0, bd_rz1, rz_n0, rz_n1, e_lit2, nI_z, nI_eq0, nI_0eq, nI_le0, nI_lt0, nI_0lt, nI_0le, e_001, e_n10, e_n1lt, bd_la0, bd_sa0, bd_rz00, rz_0, rz_1, b2i_0, Int32.add_zero, Int32.zero_add, nI_add, nI_pred2, pk_sub, pk_mul, pk_div, e_nz, nI_eq, nI_leI, nI_ltI, e_nm1, e_nm2, up_ap, gd_set_ne, gd_set_same, List.length_set, Nat.add_sub_cancel, Nat.reduceEqDiff, Nat.reduceAdd, Nat.reduceMul, Nat.reduceSub, Nat.reduceLT, Nat.reduceLeDiff, reduceIte, Nat.not_lt_zero, not_true_eq_false, not_false_eq_true, and_true, true_and, and_false, false_and, n3, n4, n5, hs, up_up]
      rw [n6, bd_some u2]
      simp (disch := first | omega | (simp only [up_ap, List.length_set, Nat.reduceEqDiff, reduceIte]; omega)) only [bd_pr, pr_ap, jn_eq, lt_eq, bd_bd, bd_ite, ite_ap, bd_ld, bd_sv, bd_la, bd_sa, bd_ln, bd_rz0, bd_rz1, rz_n0, rz_n1, e_lit2, nI_z, nI_eq0, nI_0eq, nI_le0, nI_lt0, nI_0lt, nI_0le, e_001, e_n10, e_n1lt, bd_la0, bd_sa0, bd_rz00, rz_0, rz_1, b2i_0, Int32.add_zero, Int32.zero_add, nI_add, nI_pred2, pk_sub, pk_mul, pk_div, e_nz, nI_eq, nI_leI, nI_ltI, e_nm1, e_nm2, up_ap, gd_set_ne, gd_set_same, List.length_set, Nat.add_sub_cancel, Nat.reduceEqDiff, Nat.reduceAdd, Nat.reduceMul, Nat.reduceSub, Nat.reduceLT, Nat.reduceLeDiff, reduceIte, Nat.not_lt_zero, not_true_eq_false, not_false_eq_true, and_true, true_and, and_false, false_and]
    · obtain ⟨c, hc⟩ : ∃ c, wh t = c + 1 := ⟨wh t - 1, by omega⟩
      have hb := (k2 t ht).1
      rw [if_neg q, hc] at hmm
      have hmm : (B 1).getD (39 + c) 0 = m := hmm
      rw [hc, nI_pred2] at hr1
      subst hr1
      simp (disch := first | omega | (simp only [up_ap, List.length_set, Nat.reduceEqDiff, reduceIte]; omega)) only [bd_pr, pr_ap, jn_eq, lt_eq, bd_bd, bd_ite, ite_ap, bd_ld, bd_sv, bd_la, bd_sa, bd_ln, bd_rz0, bd_rz1, rz_n0, rz_n1, e_lit2, nI_z, nI_eq0, nI_0eq, nI_le0, nI_lt0, nI_0lt, nI_0le, e_001, e_n10, e_n1lt, bd_la0, bd_sa0, bd_rz00, rz_0, rz_1, b2i_0, Int32.add_zero, Int32.zero_add, nI_add, nI_pred2, pk_sub, pk_mul, pk_div, e_nz, nI_eq, nI_leI, nI_ltI, e_nm1, e_nm2, up_ap, gd_set_ne, gd_set_same, List.length_set, Nat.add_sub_cancel, Nat.reduceEqDiff, Nat.reduceAdd, Nat.reduceMul, Nat.reduceSub, Nat.reduceLT, Nat.reduceLeDiff, reduceIte, Nat.not_lt_zero, not_true_eq_false, not_false_eq_true, and_true, true_and, and_false, false_and, eo, Nat_1_le_0, hmm]
      rw [bd_some n1]
      simp (disch := first | omega | (simp only [up_ap, List.length_set, Nat.reduceEqDiff, reduceIte, n3]; omega)) only [bd_pr, pr_ap, jn_eq, lt_eq, bd_bd, bd_ite, ite_ap, bd_ld, bd_sv, bd_la, bd_sa, bd_ln, bd_rz0, bd_rz1, rz_n0, rz_n1, e_lit2, nI_z, nI_eq0, nI_0eq, nI_le0, nI_lt0, nI_0lt, nI_0le, e_001, e_n10, e_n1lt, bd_la0, bd_sa0, bd_rz00, rz_0, rz_1, b2i_0, Int32.add_zero, Int32.zero_add, nI_add, nI_pred2, pk_sub, pk_mul, pk_div, e_nz, nI_eq, nI_leI, nI_ltI, e_nm1, e_nm2, up_ap, gd_set_ne, gd_set_same, List.length_set, Nat.add_sub_cancel, Nat.reduceEqDiff, Nat.reduceAdd, Nat.reduceMul, Nat.reduceSub, Nat.reduceLT, Nat.reduceLeDiff, reduceIte, Nat.not_lt_zero, not_true_eq_false, not_false_eq_true, and_true, true_and, and_false, false_and, n3, n4, n5, hs, up_up]
      rw [n6, bd_some u2]
      simp (disch := first | omega | (simp only [up_ap, List.length_set, Nat.reduceEqDiff, reduceIte]; omega)) only [bd_pr, pr_ap, jn_eq, lt_eq, bd_bd, bd_ite, ite_ap, bd_ld, bd_sv, bd_la, bd_sa, bd_ln, bd_rz0, bd_rz1, rz_n0, rz_n1, e_lit2, nI_z, nI_eq0, nI_0eq, nI_le0, nI_lt0, nI_0lt, nI_0le, e_001, e_n10, e_n1lt, bd_la0, bd_sa0, bd_rz00, rz_0, rz_1, b2i_0, Int32.add_zero, Int32.zero_add, nI_add, nI_pred2, pk_sub, pk_mul, pk_div, e_nz, nI_eq, nI_leI, nI_ltI, e_nm1, e_nm2, up_ap, gd_set_ne, gd_set_same, List.length_set, Nat.add_sub_cancel, Nat.reduceEqDiff, Nat.reduceAdd, Nat.reduceMul, Nat.reduceSub, Nat.reduceLT, Nat.reduceLeDiff, reduceIte, Nat.not_lt_zero, not_true_eq_false, not_false_eq_true, and_true, true_and, and_false, false_and]
theorem settle_yes {H B : Bk} {th np nc nt : Nat} {ks : Nat → List Nat} {wh : Nat → Nat} (h : HR H B th np nc nt ks wh) {t : Nat} (ht : t < nt) {r1 : Int32} (hr1 : r1 = nI (wh t) - nI 1) : ∃ H' B', gX1_settle (nI t) (nI 1) H = some (0, H') ∧ tailD (nI t) r1 (nI 1) B = some ((nI 1), B') ∧ DR H B th np nc nt H' B' := by
  obtain ⟨⟨l0, l1, l2, l3, l4, l5, l6, l7, l8, l9, l10, l11, l12⟩, ⟨hn1, hn2, hn3, hn4⟩, ⟨p1, p2, p3, p4, p5, p6⟩, he, ⟨s1, s2, s3, s4, s5, s6, s7⟩, hod, ho, hd, hw, ⟨k1, k2, k3⟩⟩ := HR_W h
  obtain ⟨o, hoo, eo⟩ := ho t ht
  have c8 : (H 44).getD t 0 = nI o := by rw [hod.1]; exact eo
  have m4 : (B 4).length = 20 := by rw [← hod.1]; exact l8
  have e7 := s7 t (by omega)
  obtain ⟨v, hv⟩ : ∃ v, (B 1).getD (15 + o) 0 = v := ⟨_, rfl⟩
  obtain ⟨v', hv'⟩ : ∃ v, (B 1).getD (27 + o) 0 = v := ⟨_, rfl⟩
  have ek := s2 o (by omega)
  rw [hv] at ek
  obtain ⟨ln, hln, eln⟩ := he
  have hR0 : HR (up H 48 ((H 48).set t (nI 1))) (up B 1 ((B 1).set (163 + t) (nI 1))) th np nc nt ks wh := HR_cell (k := 12) h (by decide) (WR_is h.1 (show t < 20 by omega) (nI 1)) (fun q => by omega)
  have hR1 : HR (up (up H 48 ((H 48).set t (nI 1))) 38 ((H 38).set o (v + nI 1))) (up (up B 1 ((B 1).set (163 + t) (nI 1))) 1 (((B 1).set (163 + t) (nI 1)).set (15 + o) (v + nI 1))) th np nc nt ks wh := HR_cell (k := 2) hR0 (by decide) (WR_kept hR0.1 (show o < 12 by omega) (v + nI 1)) (fun q => by omega)
  rw [up_up] at hR1
  obtain ⟨H1, hH1⟩ : ∃ x, x = up (up H 48 ((H 48).set t (nI 1))) 38 ((H 38).set o (v + nI 1)) := ⟨_, rfl⟩
  obtain ⟨nw1, hnw1⟩ : ∃ x, x = ((B 1).set (163 + t) (nI 1)).set (15 + o) (v + nI 1) := ⟨_, rfl⟩
  rw [← hH1, ← hnw1] at hR1
  have hF1 : HF H H1 B (up B 1 nw1) := by
    rw [hH1, hnw1]
    exact HF_trans (HF_trans (HF_H (k := 48) (by omega) List.length_set) (HF_H (k := 38) (by omega) (by rw [List.length_set, up_ne _ _ (by decide)]))) (HF_B (Or.inl rfl) (by simp only [List.length_set]))
  have hm : (if wh t = 0 then -nI 1 else (up B 1 nw1 1).getD (39 + (wh t - 1)) 0) = (if wh t = 0 then -nI 1 else (B 1).getD (39 + (wh t - 1)) 0) := by
    have hb := (k2 t ht).1
    rw [up_same, hnw1]
    by_cases q : wh t = 0
    · rw [if_pos q, if_pos q]
    · rw [if_neg q, if_neg q, gd_set_ne (by omega), gd_set_ne (by omega)]
  obtain ⟨m, hmm⟩ : ∃ m, (if wh t = 0 then -nI 1 else (B 1).getD (39 + (wh t - 1)) 0) = m := ⟨_, rfl⟩
  have hhold : gX9_holderOf (nI t) (fun i => H1 (rh12 i)) = some (m, fun i => H1 (rh12 i)) := by
    rw [p_holderOf hR1.1 ht, hm, hmm]
  have hpers : gX9_hasPerson (nI o) (fun i => H (rh12 i)) = some (nI 1, fun i => H (rh12 i)) := t_hasPerson (W := fun i => H (rh12 i)) l0 p4 hoo (by omega)
  have eln1 : (up B 1 nw1 1).getD 2 0 = nI ln := by rw [up_same, hnw1, gd_set_ne (by omega), gd_set_ne (by omega)]; exact eln
  have w1 := wr_if hR1 eln1 hln ((nI 2)) (nI t) m
  have w2 := wr_if h eln hln ((nI 2)) (nI t) m
  obtain ⟨H2, B2, hw1, hw2, hw3, hw4⟩ : ∃ H2 B2, lf rh15 15 (gX0_write ((nI 2)) (nI t) m) H1 = some (0, H2) ∧ (∃ B3, gX11_notes ((nI 2)) (nI t) m B = some (0, B3) ∧ B3 4 = B 4 ∧ (B3 1).length = 183 ∧ (B3 1).getD (15 + o) 0 = v ∧ (B3 1).getD (27 + o) 0 = v' ∧ up B3 1 ((((B3 1).set (163 + t) (nI 1)).set (15 + o) (v + nI 1))) = B2) ∧ HR H2 B2 th np nc nt ks wh ∧ HF H1 H2 (up B 1 nw1) B2 := by
    obtain ⟨H2, B2, x1, x2, x3, x4⟩ := wr_no hR1 ((nI 2)) (nI t) m
    refine ⟨H2, B2, x1, ?_, x3, x4⟩
    by_cases hq : th = 1 ∨ ln = 150
    · rw [if_pos hq] at w1 w2
      have hB2 : B2 = up B 1 nw1 := by
        have := w1.2
        rw [x2] at this
        cases this; rfl
      exact ⟨B, w2.2, rfl, hn1, hv, hv', by rw [hB2, hnw1]⟩
    · rw [if_neg hq] at w1 w2
      have hB2 : B2 = up (up (up B 1 nw1) 6 (bk4 (up B 1 nw1 6) ln ((up B 1 nw1 1).getD 0 0) ((nI 2)) (nI t) m)) 1 ((up B 1 nw1 1).set 2 (nI (ln + 1))) := by
        have := w1.2.2.2
        rw [x2] at this
        cases this; rfl
      refine ⟨_, w2.2.2.2, rfl, by rw [up_same, List.length_set]; exact hn1, by rw [up_same, gd_set_ne (by omega)]; exact hv, by rw [up_same, gd_set_ne (by omega)]; exact hv', ?_⟩
      rw [hB2, up_same, up_same, up_up, up_comm B (i := 1) (j := 6) (by decide), up_up, hnw1, gd_set_ne (by omega), gd_set_ne (by omega), up_ne _ _ (by decide)]
      congr 1
      rw [List.set_comm _ _ (show 2 ≠ 163 + t by omega), List.set_comm _ _ (show 2 ≠ 15 + o by omega)]
  obtain ⟨H3, B3, ks3, wh3, u1, u2, u3, u4, u5⟩ := un_h hw3 ht
  refine ⟨H3, B3, ?_, ?_, ks3, wh3, u3, HF_trans hF1 (HF_trans hw4 u4)⟩
  · unfold gX1_settle
    simp (disch := first | omega | (simp only [up_ap, List.length_set, Nat.reduceEqDiff, reduceIte]; omega)) only [bd_pr, pr_ap, jn_eq, lt_eq, bd_bd, bd_ite, ite_ap, bd_ld, bd_sv, bd_la, bd_sa, bd_ln, bd_rz0, bd_rz1, rz_n0, rz_n1, e_lit2, nI_z, nI_eq0, nI_0eq, nI_le0, nI_lt0, nI_0lt, nI_0le, e_001, e_n10, e_n1lt, bd_la0, bd_sa0, bd_rz00, rz_0, rz_1, b2i_0, Int32.add_zero, Int32.zero_add, nI_add, nI_pred2, pk_sub, pk_mul, pk_div, e_nz, nI_eq, nI_leI, nI_ltI, e_nm1, e_nm2, up_ap, gd_set_ne, gd_set_same, List.length_set, Nat.add_sub_cancel, Nat.reduceEqDiff, Nat.reduceAdd, Nat.reduceMul, Nat.reduceSub, Nat.reduceLT, Nat.reduceLeDiff, reduceIte, Nat.not_lt_zero, not_true_eq_false, not_false_eq_true, and_true, true_and, and_false, false_and, c8]
    rw [bd_lf0 _ hpers]
    simp (disch := first | omega | (simp only [up_ap, List.length_set, Nat.reduceEqDiff, reduceIte]; omega)) only [bd_pr, pr_ap, jn_eq, lt_eq, bd_bd, bd_ite, ite_ap, bd_ld, bd_sv, bd_la, bd_sa, bd_ln, bd_rz0, bd_rz1, rz_n0, rz_n1, e_lit2, nI_z, nI_eq0, nI_0eq, nI_le0, nI_lt0, nI_0lt, nI_0le, e_001, e_n10, e_n1lt, bd_la0, bd_sa0, bd_rz00, rz_0, rz_1, b2i_0, Int32.add_zero, Int32.zero_add, nI_add, nI_pred2, pk_sub, pk_mul, pk_div, e_nz, nI_eq, nI_leI, nI_ltI, e_nm1, e_nm2, up_ap, gd_set_ne, gd_set_same, List.length_set, Nat.add_sub_cancel, Nat.reduceEqDiff, Nat.reduceAdd, Nat.reduceMul, Nat.reduceSub, Nat.reduceLT, Nat.reduceLeDiff, reduceIte, Nat.not_lt_zero, not_true_eq_false, not_false_eq_true, and_true, true_and, and_false, false_and, Nat_1_le_0, ek]
    rw [← hH1, bd_lf0 _ hhold, bd_some hw1, bd_some u1]; rfl
  · obtain ⟨B4, n1, n2, n3, n4, n5, n6⟩ := hw2
    unfold tailD
    have m44 : (B4 4).length = 20 := by rw [n2]; exact m4
    have hs : (((B4 1).set (163 + t) (nI 1)).set (15 + o) (v + nI 1)).set (27 + o) v' = ((B4 1).set (163 + t) (nI 1)).set (15 + o) (v + nI 1) := set_self (by rw [gd_set_ne (by omega), gd_set_ne (by omega)]; exact n5)
    by_cases q : wh t = 0
    · rw [if_pos q] at hmm
      subst hmm
      rw [q, e_01] at hr1
      subst hr1
      simp (disch := first | omega | (simp only [up_ap, List.length_set, Nat.reduceEqDiff, reduceIte]; omega)) only [bd_pr, pr_ap, jn_eq, lt_eq, bd_bd, bd_ite, ite_ap, bd_ld, bd_sv, bd_la, bd_sa, bd_ln, bd_rz0, bd_rz1, rz_n0, rz_n1, e_lit2, nI_z, nI_eq0, nI_0eq, nI_le0, nI_lt0, nI_0lt, nI_0le, e_001, e_n10, e_n1lt, bd_la0, bd_sa0, bd_rz00, rz_0, rz_1, b2i_0, Int32.add_zero, Int32.zero_add, nI_add, nI_pred2, pk_sub, pk_mul, pk_div, e_nz, nI_eq, nI_leI, nI_ltI, e_nm1, e_nm2, up_ap, gd_set_ne, gd_set_same, List.length_set, Nat.add_sub_cancel, Nat.reduceEqDiff, Nat.reduceAdd, Nat.reduceMul, Nat.reduceSub, Nat.reduceLT, Nat.reduceLeDiff, reduceIte, Nat.not_lt_zero, not_true_eq_false, not_false_eq_true, and_true, true_and, and_false, false_and, eo, Nat_1_le_0]
      rw [bd_some n1]
      simp (disch := first | omega | (simp only [up_ap, List.length_set, Nat.reduceEqDiff, reduceIte, n3]; omega)) only [bd_pr, pr_ap, jn_eq, lt_eq, bd_bd, bd_ite, ite_ap, bd_ld, bd_sv, bd_la, bd_sa, bd_ln, bd_rz0, bd_rz1, rz_n0, rz_n1, e_lit2, nI_z, nI_eq0, nI_0eq, nI_le0, nI_lt0, nI_0lt, nI_0le, e_001, e_n10, e_n1lt, bd_la0, bd_sa0, bd_rz00, rz_0, rz_1, b2i_0, Int32.add_zero, Int32.zero_add, nI_add, nI_pred2, pk_sub, pk_mul, pk_div, e_nz, nI_eq, nI_leI, nI_ltI, e_nm1, e_nm2, up_ap, gd_set_ne, gd_set_same, List.length_set, Nat.add_sub_cancel, Nat.reduceEqDiff, Nat.reduceAdd, Nat.reduceMul, Nat.reduceSub, Nat.reduceLT, Nat.reduceLeDiff, reduceIte, Nat.not_lt_zero, not_true_eq_false, not_false_eq_true, and_true, true_and, and_false, false_and, n3, n4, n5, hs, up_up]
      rw [n6, bd_some u2]
      simp (disch := first | omega | (simp only [up_ap, List.length_set, Nat.reduceEqDiff, reduceIte]; omega)) only [bd_pr, pr_ap, jn_eq, lt_eq, bd_bd, bd_ite, ite_ap, bd_ld, bd_sv, bd_la, bd_sa, bd_ln, bd_rz0, bd_rz1, rz_n0, rz_n1, e_lit2, nI_z, nI_eq0, nI_0eq, nI_le0, nI_lt0, nI_0lt, nI_0le, e_001, e_n10, e_n1lt, bd_la0, bd_sa0, bd_rz00, rz_0, rz_1, b2i_0, Int32.add_zero, Int32.zero_add, nI_add, nI_pred2, pk_sub, pk_mul, pk_div, e_nz, nI_eq, nI_leI, nI_ltI, e_nm1, e_nm2, up_ap, gd_set_ne, gd_set_same, List.length_set, Nat.add_sub_cancel, Nat.reduceEqDiff, Nat.reduceAdd, Nat.reduceMul, Nat.reduceSub, Nat.reduceLT, Nat.reduceLeDiff, reduceIte, Nat.not_lt_zero, not_true_eq_false, not_false_eq_true, and_true, true_and, and_false, false_and]
    · obtain ⟨c, hc⟩ : ∃ c, wh t = c + 1 := ⟨wh t - 1, by omega⟩
      have hb := (k2 t ht).1
      rw [if_neg q, hc] at hmm
      have hmm : (B 1).getD (39 + c) 0 = m := hmm
      rw [hc, nI_pred2] at hr1
      subst hr1
      simp (disch := first | omega | (simp only [up_ap, List.length_set, Nat.reduceEqDiff, reduceIte]; omega)) only [bd_pr, pr_ap, jn_eq, lt_eq, bd_bd, bd_ite, ite_ap, bd_ld, bd_sv, bd_la, bd_sa, bd_ln, bd_rz0, bd_rz1, rz_n0, rz_n1, e_lit2, nI_z, nI_eq0, nI_0eq, nI_le0, nI_lt0, nI_0lt, nI_0le, e_001, e_n10, e_n1lt, bd_la0, bd_sa0, bd_rz00, rz_0, rz_1, b2i_0, Int32.add_zero, Int32.zero_add, nI_add, nI_pred2, pk_sub, pk_mul, pk_div, e_nz, nI_eq, nI_leI, nI_ltI, e_nm1, e_nm2, up_ap, gd_set_ne, gd_set_same, List.length_set, Nat.add_sub_cancel, Nat.reduceEqDiff, Nat.reduceAdd, Nat.reduceMul, Nat.reduceSub, Nat.reduceLT, Nat.reduceLeDiff, reduceIte, Nat.not_lt_zero, not_true_eq_false, not_false_eq_true, and_true, true_and, and_false, false_and, eo, Nat_1_le_0, hmm]
      rw [bd_some n1]
      simp (disch := first | omega | (simp only [up_ap, List.length_set, Nat.reduceEqDiff, reduceIte, n3]; omega)) only [bd_pr, pr_ap, jn_eq, lt_eq, bd_bd, bd_ite, ite_ap, bd_ld, bd_sv, bd_la, bd_sa, bd_ln, bd_rz0, bd_rz1, rz_n0, rz_n1, e_lit2, nI_z, nI_eq0, nI_0eq, nI_le0, nI_lt0, nI_0lt, nI_0le, e_001, e_n10, e_n1lt, bd_la0, bd_sa0, bd_rz00, rz_0, rz_1, b2i_0, Int32.add_zero, Int32.zero_add, nI_add, nI_pred2, pk_sub, pk_mul, pk_div, e_nz, nI_eq, nI_leI, nI_ltI, e_nm1, e_nm2, up_ap, gd_set_ne, gd_set_same, List.length_set, Nat.add_sub_cancel, Nat.reduceEqDiff, Nat.reduceAdd, Nat.reduceMul, Nat.reduceSub, Nat.reduceLT, Nat.reduceLeDiff, reduceIte, Nat.not_lt_zero, not_true_eq_false, not_false_eq_true, and_true, true_and, and_false, false_and, n3, n4, n5, hs, up_up]
      rw [n6, bd_some u2]
      simp (disch := first | omega | (simp only [up_ap, List.length_set, Nat.reduceEqDiff, reduceIte]; omega)) only [bd_pr, pr_ap, jn_eq, lt_eq, bd_bd, bd_ite, ite_ap, bd_ld, bd_sv, bd_la, bd_sa, bd_ln, bd_rz0, bd_rz1, rz_n0, rz_n1, e_lit2, nI_z, nI_eq0, nI_0eq, nI_le0, nI_lt0, nI_0lt, nI_0le, e_001, e_n10, e_n1lt, bd_la0, bd_sa0, bd_rz00, rz_0, rz_1, b2i_0, Int32.add_zero, Int32.zero_add, nI_add, nI_pred2, pk_sub, pk_mul, pk_div, e_nz, nI_eq, nI_leI, nI_ltI, e_nm1, e_nm2, up_ap, gd_set_ne, gd_set_same, List.length_set, Nat.add_sub_cancel, Nat.reduceEqDiff, Nat.reduceAdd, Nat.reduceMul, Nat.reduceSub, Nat.reduceLT, Nat.reduceLeDiff, reduceIte, Nat.not_lt_zero, not_true_eq_false, not_false_eq_true, and_true, true_and, and_false, false_and]
