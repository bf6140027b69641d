/-! PURE: tying, washing, pulling, lending -/
/-- the two go on, in the same relation -/
def DR (H B : Bk) (th np nc nt : Nat) (H' B' : Bk) : Prop := ∃ ks' wh', HR H' B' th np nc nt ks' wh' ∧ HF H H' B B'
theorem un_h {H B : Bk} {th np nc nt : Nat} {ks : Nat → List Nat} {wh : Nat → Nat} (h : HR H B th np nc nt ks wh) {t : Nat} (ht : t < nt) : ∃ H' B' ks' wh', lf rh12 13 (gX9_untie (nI t)) H = some (0, H') ∧ gX11_comesOut (nI t) B = some (0, B') ∧ HR H' B' th np nc nt ks' wh' ∧ HF H H' B B' ∧ (∀ c, wh t = c + 1 → (ks' c).length + 1 = (ks c).length) := by
  obtain ⟨W', nw', ks', wh', g1, g2, g3, g4, g5, g6, g7⟩ := un_co h.1 ht
  have hR := HR_world h g3 (by rw [g4]; exact h.2.1.2)
  exact ⟨_, _, ks', wh', lf_run g1, g2, hR, HF_trans (HF_pu g4) (HF_B (Or.inl rfl) (by rw [g3.2.1.1, h.1.2.1.1])), g6⟩
theorem p_addKnot {W : Bk} {nw ow du : List Int32} {np nc nt t c : Nat} {ks : Nat → List Nat} {wh : Nat → Nat} (h : WR W nw ow du np nc nt ks wh) (ht : t < nt) (hc : c < nc) (hlen : (ks c).length < 4) (v : Int32) :
    gX9_addKnot (nI t) (nI c) v W = some (0, up (up (up (up W 7 ((W 7).set (4 * c + (ks c).length) (nI t))) 6 ((W 6).set c (nI ((ks c).length + 1)))) 10 ((W 10).set t (nI c))) 11 ((W 11).set t v)) := by
  obtain ⟨hl, ⟨hn1, hn2, hn3, hn4⟩, ⟨p1, p2, p3, p4, p5, p6⟩, he, hs, hod, ho, hd, hw, ⟨k1, k2, k3⟩⟩ := h
  obtain ⟨l0, l1, l2, l3, l4, l5, l6, l7, l8, l9, l10, l11, l12⟩ := id hl
  obtain ⟨a1, a2, a3, a4, a5⟩ := k1 c hc
  have e : c * 4 = 4 * c := Nat.mul_comm _ _
  unfold gX9_addKnot
  rw [bd_some (t_hasThing l0 p6 ht (by omega))]
  simp (disch := first | omega | (simp only [up_ap, List.length_set, Nat.reduceEqDiff, reduceIte]; omega)) only [bd_pr, pr_ap, jn_eq, lt_eq, bd_bd, bd_ite, ite_ap, bd_ld, bd_sv, bd_la, bd_sa, bd_ln, bd_rz0, bd_rz1, rz_n0, rz_n1, e_lit2, nI_z, nI_eq0, nI_0eq, nI_le0, nI_lt0, nI_0lt, nI_0le, e_001, e_n10, e_n1lt, bd_la0, bd_sa0, bd_rz00, rz_0, rz_1, b2i_0, Int32.add_zero, Int32.zero_add, nI_add, nI_pred2, pk_sub, pk_mul, pk_div, e_nz, nI_eq, nI_leI, nI_ltI, e_nm1, e_nm2, up_ap, gd_set_ne, gd_set_same, List.length_set, Nat.add_sub_cancel, Nat.reduceEqDiff, Nat.reduceAdd, Nat.reduceMul, Nat.reduceSub, Nat.reduceLT, Nat.reduceLeDiff, reduceIte, Nat.not_lt_zero, not_true_eq_false, not_false_eq_true, and_true, true_and, and_false, false_and, Nat_1_le_0]
  rw [bd_some (t_hasCloth l0 p5 hc (by omega))]
  simp (disch := first | omega | (simp only [up_ap, List.length_set, Nat.reduceEqDiff, reduceIte]; omega)) only [bd_pr, pr_ap, jn_eq, lt_eq, bd_bd, bd_ite, ite_ap, bd_ld, bd_sv, bd_la, bd_sa, bd_ln, bd_rz0, bd_rz1, rz_n0, rz_n1, e_lit2, nI_z, nI_eq0, nI_0eq, nI_le0, nI_lt0, nI_0lt, nI_0le, e_001, e_n10, e_n1lt, bd_la0, bd_sa0, bd_rz00, rz_0, rz_1, b2i_0, Int32.add_zero, Int32.zero_add, nI_add, nI_pred2, pk_sub, pk_mul, pk_div, e_nz, nI_eq, nI_leI, nI_ltI, e_nm1, e_nm2, up_ap, gd_set_ne, gd_set_same, List.length_set, Nat.add_sub_cancel, Nat.reduceEqDiff, Nat.reduceAdd, Nat.reduceMul, Nat.reduceSub, Nat.reduceLT, Nat.reduceLeDiff, reduceIte, Nat.not_lt_zero, not_true_eq_false, not_false_eq_true, and_true, true_and, and_false, false_and, Nat_1_le_0, a3, hlen, e]
theorem tie_h {H B : Bk} {th np nc nt : Nat} {ks : Nat → List Nat} {wh : Nat → Nat} (h : HR H B th np nc nt ks wh) {t c : Nat} (ht : t < nt) (hc : c < nc) (hwt : wh t = 0) (hlen : (ks c).length < 4) : ∃ H' B', gX1_tie (nI t) (nI c) H = some (0, H') ∧ gX11_isTied (nI t) (nI c) B = some (0, B') ∧ DR H B th np nc nt H' B' := by
  obtain ⟨v, s35, s9, b21, g1, g2, g3, g4, g5, -, -⟩ := ask_ties h ht hc
  have h1 := HR_scratch h g4 g3 g3 g5
  obtain ⟨H1, hH1⟩ : ∃ x, x = up (up H 35 s35) 9 s9 := ⟨_, rfl⟩
  obtain ⟨B1, hB1⟩ : ∃ x, x = up (up B 20 s35) 21 b21 := ⟨_, rfl⟩
  have z9 : (H 9).length = 400 := h.2.2.2.2.1.1.2.2.2.2.2.2
  have z35 := h.2.2.2.2.2.2.2
  have hF1 : HF H H1 B B1 := by
    rw [hH1, hB1]
    exact HF_trans (HF_trans (HF_H (k := 35) (by omega) (by rw [g3, z35.2.1])) (HF_H (k := 9) (by omega) (by rw [g4, up_ne _ _ (by omega), z9]))) (HF_trans (HF_B (k := 20) (by omega) (by rw [g3, z35.2.2.1])) (HF_B (k := 21) (by omega) (by rw [g5, up_ne _ _ (by omega), z35.2.2.2])))
  rw [← hH1, ← hB1] at h1
  rw [← hH1] at g1
  rw [← hB1] at g2
  have hW := WR_tie h1.1 ht hc hwt hlen v
  have hR := HR_world h1 hW h1.2.1.2
  obtain ⟨H2, B2, w1, w2, w3, w4⟩ := wr_no hR 0 (nI t) v
  obtain ⟨-, ⟨hn1, hn2, hn3, hn4⟩, -, -, -, -, -, -, -, ⟨k1, k2, k3⟩⟩ := HR_W h1
  obtain ⟨a1, a2, a3, a4, a5⟩ := k1 c hc
  have hkn := p_knotsOf (B := B1) hn1 (show c < 14 by omega) a1 a5 (fun x hx => by have := ((k3 c x hc).mp hx).1; omega)
  refine ⟨H2, B2, ?_, ?_, _, _, w3, HF_trans hF1 (HF_trans (HF_trans (HF_pu rfl) (HF_B (Or.inl rfl) (by simp only [List.length_set]))) w4)⟩
  · unfold gX1_tie
    rw [bd_some g1, bd_lf _ (p_addKnot h1.1 ht hc hlen v), bd_some w1]; rfl
  · unfold gX11_isTied
    rw [bd_some g2, bd_some hkn]
    simp (disch := first | omega | (simp only [up_ap, List.length_set, Nat.reduceEqDiff, reduceIte]; omega)) only [bd_pr, pr_ap, jn_eq, lt_eq, bd_bd, bd_ite, ite_ap, bd_ld, bd_sv, bd_la, bd_sa, bd_ln, bd_rz0, bd_rz1, rz_n0, rz_n1, e_lit2, nI_z, nI_eq0, nI_0eq, nI_le0, nI_lt0, nI_0lt, nI_0le, e_001, e_n10, e_n1lt, bd_la0, bd_sa0, bd_rz00, rz_0, rz_1, b2i_0, Int32.add_zero, Int32.zero_add, nI_add, nI_pred2, pk_sub, pk_mul, pk_div, e_nz, nI_eq, nI_leI, nI_ltI, e_nm1, e_nm2, up_ap, gd_set_ne, gd_set_same, List.length_set, Nat.add_sub_cancel, Nat.reduceEqDiff, Nat.reduceAdd, Nat.reduceMul, Nat.reduceSub, Nat.reduceLT, Nat.reduceLeDiff, reduceIte, Nat.not_lt_zero, not_true_eq_false, not_false_eq_true, and_true, true_and, and_false, false_and, up_up]
    have w2' : gX11_notes 0 (nI t) v (up B1 1 ((((B1 1).set (67 + 4 * c + (ks c).length) (nI (t + 1))).set (123 + t) (nI (c + 1))).set (143 + t) v)) = some (0, B2) := w2
    rw [bd_some w2']
    rfl
theorem min_eq (x y : Int32) : ∃ r, (∀ A, gJ9_min_7cf53 x y A = some (r, A)) ∧ ∀ B, gX11_lesser x y B = some (r, B) := by
  unfold gJ9_min_7cf53 gX11_lesser
  by_cases h : y < x
  · have h2 : y ≤ x := Int32.le_of_lt h
    refine ⟨y, fun A => ?_, fun B => ?_⟩
    · simp (disch := first | omega | (simp only [up_ap, List.length_set, Nat.reduceEqDiff, reduceIte]; omega)) only [bd_pr, pr_ap, jn_eq, lt_eq, bd_bd, bd_ite, ite_ap, bd_ld, bd_sv, bd_la, bd_sa, bd_ln, bd_rz0, bd_rz1, rz_n0, rz_n1, e_lit2, nI_z, nI_eq0, nI_0eq, nI_le0, nI_lt0, nI_0lt, nI_0le, e_001, e_n10, e_n1lt, bd_la0, bd_sa0, bd_rz00, rz_0, rz_1, b2i_0, Int32.add_zero, Int32.zero_add, nI_add, nI_pred2, pk_sub, pk_mul, pk_div, e_nz, nI_eq, nI_leI, nI_ltI, e_nm1, e_nm2, up_ap, gd_set_ne, gd_set_same, List.length_set, Nat.add_sub_cancel, Nat.reduceEqDiff, Nat.reduceAdd, Nat.reduceMul, Nat.reduceSub, Nat.reduceLT, Nat.reduceLeDiff, reduceIte, Nat.not_lt_zero, not_true_eq_false, not_false_eq_true, and_true, true_and, and_false, false_and, h]
    · simp (disch := first | omega | (simp only [up_ap, List.length_set, Nat.reduceEqDiff, reduceIte]; omega)) only [bd_pr, pr_ap, jn_eq, lt_eq, bd_bd, bd_ite, ite_ap, bd_ld, bd_sv, bd_la, bd_sa, bd_ln, bd_rz0, bd_rz1, rz_n0, rz_n1, e_lit2, nI_z, nI_eq0, nI_0eq, nI_le0, nI_lt0, nI_0lt, nI_0le, e_001, e_n10, e_n1lt, bd_la0, bd_sa0, bd_rz00, rz_0, rz_1, b2i_0, Int32.add_zero, Int32.zero_add, nI_add, nI_pred2, pk_sub, pk_mul, pk_div, e_nz, nI_eq, nI_leI, nI_ltI, e_nm1, e_nm2, up_ap, gd_set_ne, gd_set_same, List.length_set, Nat.add_sub_cancel, Nat.reduceEqDiff, Nat.reduceAdd, Nat.reduceMul, Nat.reduceSub, Nat.reduceLT, Nat.reduceLeDiff, reduceIte, Nat.not_lt_zero, not_true_eq_false, not_false_eq_true, and_true, true_and, and_false, false_and, h2]
  · by_cases h2 : y ≤ x
    · have h3 : x = y := Int32.le_antisymm (Int32.not_lt.mp h) h2
      subst h3
      refine ⟨x, fun A => ?_, fun B => ?_⟩
      · simp (disch := first | omega | (simp only [up_ap, List.length_set, Nat.reduceEqDiff, reduceIte]; omega)) only [bd_pr, pr_ap, jn_eq, lt_eq, bd_bd, bd_ite, ite_ap, bd_ld, bd_sv, bd_la, bd_sa, bd_ln, bd_rz0, bd_rz1, rz_n0, rz_n1, e_lit2, nI_z, nI_eq0, nI_0eq, nI_le0, nI_lt0, nI_0lt, nI_0le, e_001, e_n10, e_n1lt, bd_la0, bd_sa0, bd_rz00, rz_0, rz_1, b2i_0, Int32.add_zero, Int32.zero_add, nI_add, nI_pred2, pk_sub, pk_mul, pk_div, e_nz, nI_eq, nI_leI, nI_ltI, e_nm1, e_nm2, up_ap, gd_set_ne, gd_set_same, List.length_set, Nat.add_sub_cancel, Nat.reduceEqDiff, Nat.reduceAdd, Nat.reduceMul, Nat.reduceSub, Nat.reduceLT, Nat.reduceLeDiff, reduceIte, Nat.not_lt_zero, not_true_eq_false, not_false_eq_true, and_true, true_and, and_false, false_and, h]
      · simp (disch := first | omega | (simp only [up_ap, List.length_set, Nat.reduceEqDiff, reduceIte]; omega)) only [bd_pr, pr_ap, jn_eq, lt_eq, bd_bd, bd_ite, ite_ap, bd_ld, bd_sv, bd_la, bd_sa, bd_ln, bd_rz0, bd_rz1, rz_n0, rz_n1, e_lit2, nI_z, nI_eq0, nI_0eq, nI_le0, nI_lt0, nI_0lt, nI_0le, e_001, e_n10, e_n1lt, bd_la0, bd_sa0, bd_rz00, rz_0, rz_1, b2i_0, Int32.add_zero, Int32.zero_add, nI_add, nI_pred2, pk_sub, pk_mul, pk_div, e_nz, nI_eq, nI_leI, nI_ltI, e_nm1, e_nm2, up_ap, gd_set_ne, gd_set_same, List.length_set, Nat.add_sub_cancel, Nat.reduceEqDiff, Nat.reduceAdd, Nat.reduceMul, Nat.reduceSub, Nat.reduceLT, Nat.reduceLeDiff, reduceIte, Nat.not_lt_zero, not_true_eq_false, not_false_eq_true, and_true, true_and, and_false, false_and, h2]
    · refine ⟨x, fun A => ?_, fun B => ?_⟩
      · simp (disch := first | omega | (simp only [up_ap, List.length_set, Nat.reduceEqDiff, reduceIte]; omega)) only [bd_pr, pr_ap, jn_eq, lt_eq, bd_bd, bd_ite, ite_ap, bd_ld, bd_sv, bd_la, bd_sa, bd_ln, bd_rz0, bd_rz1, rz_n0, rz_n1, e_lit2, nI_z, nI_eq0, nI_0eq, nI_le0, nI_lt0, nI_0lt, nI_0le, e_001, e_n10, e_n1lt, bd_la0, bd_sa0, bd_rz00, rz_0, rz_1, b2i_0, Int32.add_zero, Int32.zero_add, nI_add, nI_pred2, pk_sub, pk_mul, pk_div, e_nz, nI_eq, nI_leI, nI_ltI, e_nm1, e_nm2, up_ap, gd_set_ne, gd_set_same, List.length_set, Nat.add_sub_cancel, Nat.reduceEqDiff, Nat.reduceAdd, Nat.reduceMul, Nat.reduceSub, Nat.reduceLT, Nat.reduceLeDiff, reduceIte, Nat.not_lt_zero, not_true_eq_false, not_false_eq_true, and_true, true_and, and_false, false_and, h]
      · simp (disch := first | omega | (simp only [up_ap, List.length_set, Nat.reduceEqDiff, reduceIte]; omega)) only [bd_pr, pr_ap, jn_eq, lt_eq, bd_bd, bd_ite, ite_ap, bd_ld, bd_sv, bd_la, bd_sa, bd_ln, bd_rz0, bd_rz1, rz_n0, rz_n1, e_lit2, nI_z, nI_eq0, nI_0eq, nI_le0, nI_lt0, nI_0lt, nI_0le, e_001, e_n10, e_n1lt, bd_la0, bd_sa0, bd_rz00, rz_0, rz_1, b2i_0, Int32.add_zero, Int32.zero_add, nI_add, nI_pred2, pk_sub, pk_mul, pk_div, e_nz, nI_eq, nI_leI, nI_ltI, e_nm1, e_nm2, up_ap, gd_set_ne, gd_set_same, List.length_set, Nat.add_sub_cancel, Nat.reduceEqDiff, Nat.reduceAdd, Nat.reduceMul, Nat.reduceSub, Nat.reduceLT, Nat.reduceLeDiff, reduceIte, Nat.not_lt_zero, not_true_eq_false, not_false_eq_true, and_true, true_and, and_false, false_and, h2]
theorem getD_mem {l : List Nat} {p : Nat} (h : p < l.length) : l.getD p 0 ∈ l := by
  rw [List.getD_eq_getElem?_getD, List.getElem?_eq_getElem h]
  exact List.getElem_mem h
theorem wash_h {H B : Bk} {th np nc nt : Nat} {ks : Nat → List Nat} {wh : Nat → Nat} (h : HR H B th np nc nt ks wh) {c : Nat} (hc : c < nc) : ∃ H' B', gX1_wash (nI c) H = some (0, H') ∧ gX11_isWashed (nI c) B = some (0, B') ∧ DR H B th np nc nt H' B' := by
  obtain ⟨⟨l0, l1, l2, l3, l4, l5, l6, l7, l8, l9, l10, l11, l12⟩, ⟨hn1, hn2, hn3, hn4⟩, ⟨p1, p2, p3, p4, p5, p6⟩, he, ⟨s1, s2, s3, s4, s5, s6, s7⟩, hod, ho, hd, hw, ⟨k1, k2, k3⟩⟩ := HR_W h
  obtain ⟨r, hr1, hr2⟩ := min_eq (nI 99) ((B 1).getD (53 + c) 0 + nI 1)
  have e5 := s5 c (by omega)
  have hR : HR (up H 41 ((H 41).set c r)) (up B 1 ((B 1).set (53 + c) r)) th np nc nt ks wh := HR_cell (k := 5) h (by decide) (WR_worn h.1 (show c < 14 by omega) r) (fun q => by omega)
  have hF : HF H (up H 41 ((H 41).set c r)) B (up B 1 ((B 1).set (53 + c) r)) := HF_trans (HF_H (k := 41) (by omega) List.length_set) (HF_B (Or.inl rfl) List.length_set)
  have a3 := (k1 c hc).2.2.1
  have key : J2 (gX1_wash (nI c) H) (gX11_isWashed (nI c) B) (fun r A' r' B' => r = 0 ∧ r' = 0 ∧ DR H B th np nc nt A' B') := by
    unfold gX1_wash gX11_isWashed
    simp (disch := first | omega | (simp only [up_ap, List.length_set, Nat.reduceEqDiff, reduceIte]; omega)) only [bd_pr, pr_ap, jn_eq, lt_eq, bd_bd, bd_ite, ite_ap, bd_ld, bd_sv, bd_la, bd_sa, bd_ln, bd_rz0, bd_rz1, rz_n0, rz_n1, e_lit2, nI_z, nI_eq0, nI_0eq, nI_le0, nI_lt0, nI_0lt, nI_0le, e_001, e_n10, e_n1lt, bd_la0, bd_sa0, bd_rz00, rz_0, rz_1, b2i_0, Int32.add_zero, Int32.zero_add, nI_add, nI_pred2, pk_sub, pk_mul, pk_div, e_nz, nI_eq, nI_leI, nI_ltI, e_nm1, e_nm2, up_ap, gd_set_ne, gd_set_same, List.length_set, Nat.add_sub_cancel, Nat.reduceEqDiff, Nat.reduceAdd, Nat.reduceMul, Nat.reduceSub, Nat.reduceLT, Nat.reduceLeDiff, reduceIte, Nat.not_lt_zero, not_true_eq_false, not_false_eq_true, and_true, true_and, and_false, false_and, e5]
    rw [bd_lf0 _ (hr1 _), bd_some (hr2 _)]
    simp (disch := first | omega | (simp only [up_ap, List.length_set, Nat.reduceEqDiff, reduceIte]; omega)) only [bd_pr, pr_ap, jn_eq, lt_eq, bd_bd, bd_ite, ite_ap, bd_ld, bd_sv, bd_la, bd_sa, bd_ln, bd_rz0, bd_rz1, rz_n0, rz_n1, e_lit2, nI_z, nI_eq0, nI_0eq, nI_le0, nI_lt0, nI_0lt, nI_0le, e_001, e_n10, e_n1lt, bd_la0, bd_sa0, bd_rz00, rz_0, rz_1, b2i_0, Int32.add_zero, Int32.zero_add, nI_add, nI_pred2, pk_sub, pk_mul, pk_div, e_nz, nI_eq, nI_leI, nI_ltI, e_nm1, e_nm2, up_ap, gd_set_ne, gd_set_same, List.length_set, Nat.add_sub_cancel, Nat.reduceEqDiff, Nat.reduceAdd, Nat.reduceMul, Nat.reduceSub, Nat.reduceLT, Nat.reduceLeDiff, reduceIte, Nat.not_lt_zero, not_true_eq_false, not_false_eq_true, and_true, true_and, and_false, false_and, a3, up_up]
    refine loopJ (ks c).length (fun j s A t B' => ∃ p ks' wh', s = (nI p, nI ((ks c).length - j)) ∧ t = nI p ∧ (ks' c).length = p + ((ks c).length - j) ∧ HR A B' th np nc nt ks' wh' ∧ HF H A B B') _ (fun j s A t B' hj hI => ?_) (fun s A t B' hI f1 f2 => ?_) (by have := (k1 c hc).1; omega) (by have := (k1 c hc).1; omega) ⟨0, ks, wh, rfl, rfl, by omega, hR, hF⟩
    · obtain ⟨p, ks', wh', rfl, rfl, hlen, hI, hIF⟩ := hI
      obtain ⟨⟨m0, m1, m2, m3, m4, m5, m6, m7, m8, m9, m10, m11, m12⟩, ⟨hm1, hm2, hm3, hm4⟩, ⟨o1, o2, o3, o4, o5, o6⟩, -, -, -, -, -, -, ⟨q1, q2, q3⟩⟩ := HR_W hI
      obtain ⟨a1, a2, a3, a4, a5⟩ := q1 c hc
      have hpl : p < (ks' c).length := by omega
      obtain ⟨t, ht⟩ : ∃ t, (ks' c).getD p 0 = t := ⟨_, rfl⟩
      have htm : t ∈ ks' c := by rw [← ht]; exact getD_mem hpl
      obtain ⟨htt, hwt⟩ := (q3 c t hc).mp htm
      have hk : gX9_knotAt (nI c) (nI p) (fun i => A (rh12 i)) = some (nI t, fun i => A (rh12 i)) := by
        have := p_knotAt (W := fun i => A (rh12 i)) (i := p) hI.1.1 o5 hc (by omega) a1 a3 (a4 p hpl) hpl
        rw [ht] at this; exact this
      have hr5 := a5 p (by omega)
      rw [if_pos hpl, ht] at hr5
      obtain ⟨v, s35, s9, b21, g1, g2, g3, g4, g5, g6, g7⟩ := ask_slips hI htt hc hwt
      have h1 := HR_scratch hI g4 g3 g3 g5
      have z9 : (A 9).length = 400 := hI.2.2.2.2.1.1.2.2.2.2.2.2
      have z35 := hI.2.2.2.2.2.2.2
      have hF1 : HF A (up (up A 35 s35) 9 s9) B' (up (up B' 20 s35) 21 b21) := HF_trans (HF_trans (HF_H (k := 35) (by omega) (by rw [g3, z35.2.1])) (HF_H (k := 9) (by omega) (by rw [g4, up_ne _ _ (by omega), z9]))) (HF_trans (HF_B (k := 20) (by omega) (by rw [g3, z35.2.2.1])) (HF_B (k := 21) (by omega) (by rw [g5, up_ne _ _ (by omega), z35.2.2.2])))
      obtain ⟨rr, H2, B2, y1, y2, y3, y4, y5⟩ := hap h1 (x := v) g6 g7
      have n0 : ¬ (ks c).length - j = 0 := by omega
      have n4 : ¬ 4 ≤ p := by omega
      have e7 : (ks c).length - j - 1 = (ks c).length - (j + 1) := by omega
      have e8 : (ks c).length - j = (ks c).length - (j + 1) + 1 := by omega
      rcases y3 with rfl | rfl
      · refine ⟨(nI (p + 1), nI ((ks c).length - (j + 1))), H2, nI (p + 1), B2, fun f => ?_, fun f => ?_, p + 1, ks', wh', rfl, rfl, by omega, y4, HF_trans hIF (HF_trans hF1 y5)⟩
        · simp (disch := first | omega | (simp only [up_ap, List.length_set, Nat.reduceEqDiff, reduceIte]; omega)) only [bd_pr, pr_ap, jn_eq, lt_eq, bd_bd, bd_ite, ite_ap, bd_ld, bd_sv, bd_la, bd_sa, bd_ln, bd_rz0, bd_rz1, rz_n0, rz_n1, e_lit2, nI_z, nI_eq0, nI_0eq, nI_le0, nI_lt0, nI_0lt, nI_0le, e_001, e_n10, e_n1lt, bd_la0, bd_sa0, bd_rz00, rz_0, rz_1, b2i_0, Int32.add_zero, Int32.zero_add, nI_add, nI_pred2, pk_sub, pk_mul, pk_div, e_nz, nI_eq, nI_leI, nI_ltI, e_nm1, e_nm2, up_ap, gd_set_ne, gd_set_same, List.length_set, Nat.add_sub_cancel, Nat.reduceEqDiff, Nat.reduceAdd, Nat.reduceMul, Nat.reduceSub, Nat.reduceLT, Nat.reduceLeDiff, reduceIte, Nat.not_lt_zero, not_true_eq_false, not_false_eq_true, and_true, true_and, and_false, false_and, n0]
          rw [bd_lf0 _ hk, bd_some g1, bd_some y1, e8]
          simp (disch := first | omega | (simp only [up_ap, List.length_set, Nat.reduceEqDiff, reduceIte]; omega)) only [bd_pr, pr_ap, jn_eq, lt_eq, bd_bd, bd_ite, ite_ap, bd_ld, bd_sv, bd_la, bd_sa, bd_ln, bd_rz0, bd_rz1, rz_n0, rz_n1, e_lit2, nI_z, nI_eq0, nI_0eq, nI_le0, nI_lt0, nI_0lt, nI_0le, e_001, e_n10, e_n1lt, bd_la0, bd_sa0, bd_rz00, rz_0, rz_1, b2i_0, Int32.add_zero, Int32.zero_add, nI_add, nI_pred2, pk_sub, pk_mul, pk_div, e_nz, nI_eq, nI_leI, nI_ltI, e_nm1, e_nm2, up_ap, gd_set_ne, gd_set_same, List.length_set, Nat.add_sub_cancel, Nat.reduceEqDiff, Nat.reduceAdd, Nat.reduceMul, Nat.reduceSub, Nat.reduceLT, Nat.reduceLeDiff, reduceIte, Nat.not_lt_zero, not_true_eq_false, not_false_eq_true, and_true, true_and, and_false, false_and, pk_m1']
        · simp (disch := first | omega | (simp only [up_ap, List.length_set, Nat.reduceEqDiff, reduceIte]; omega)) only [bd_pr, pr_ap, jn_eq, lt_eq, bd_bd, bd_ite, ite_ap, bd_ld, bd_sv, bd_la, bd_sa, bd_ln, bd_rz0, bd_rz1, rz_n0, rz_n1, e_lit2, nI_z, nI_eq0, nI_0eq, nI_le0, nI_lt0, nI_0lt, nI_0le, e_001, e_n10, e_n1lt, bd_la0, bd_sa0, bd_rz00, rz_0, rz_1, b2i_0, Int32.add_zero, Int32.zero_add, nI_add, nI_pred2, pk_sub, pk_mul, pk_div, e_nz, nI_eq, nI_leI, nI_ltI, e_nm1, e_nm2, up_ap, gd_set_ne, gd_set_same, List.length_set, Nat.add_sub_cancel, Nat.reduceEqDiff, Nat.reduceAdd, Nat.reduceMul, Nat.reduceSub, Nat.reduceLT, Nat.reduceLeDiff, reduceIte, Nat.not_lt_zero, not_true_eq_false, not_false_eq_true, and_true, true_and, and_false, false_and, gX11_knotOf, hr5, n4]
          rw [bd_some g2, bd_some y2]
          simp (disch := first | omega | (simp only [up_ap, List.length_set, Nat.reduceEqDiff, reduceIte]; omega)) only [bd_pr, pr_ap, jn_eq, lt_eq, bd_bd, bd_ite, ite_ap, bd_ld, bd_sv, bd_la, bd_sa, bd_ln, bd_rz0, bd_rz1, rz_n0, rz_n1, e_lit2, nI_z, nI_eq0, nI_0eq, nI_le0, nI_lt0, nI_0lt, nI_0le, e_001, e_n10, e_n1lt, bd_la0, bd_sa0, bd_rz00, rz_0, rz_1, b2i_0, Int32.add_zero, Int32.zero_add, nI_add, nI_pred2, pk_sub, pk_mul, pk_div, e_nz, nI_eq, nI_leI, nI_ltI, e_nm1, e_nm2, up_ap, gd_set_ne, gd_set_same, List.length_set, Nat.add_sub_cancel, Nat.reduceEqDiff, Nat.reduceAdd, Nat.reduceMul, Nat.reduceSub, Nat.reduceLT, Nat.reduceLeDiff, reduceIte, Nat.not_lt_zero, not_true_eq_false, not_false_eq_true, and_true, true_and, and_false, false_and]
      · obtain ⟨H3, B3, ks3, wh3, u1, u2, u3, u4, u5⟩ := un_h y4 htt
        obtain ⟨H4, B4, w1, w2, w3, w4⟩ := wr_no u3 (nI 1) (nI t) (nI c)
        have hl3 := u5 c hwt
        refine ⟨(nI p, nI ((ks c).length - (j + 1))), H4, nI p, B4, fun f => ?_, fun f => ?_, p, ks3, wh3, rfl, rfl, by omega, w3, HF_trans hIF (HF_trans hF1 (HF_trans y5 (HF_trans u4 w4)))⟩
        · simp (disch := first | omega | (simp only [up_ap, List.length_set, Nat.reduceEqDiff, reduceIte]; omega)) only [bd_pr, pr_ap, jn_eq, lt_eq, bd_bd, bd_ite, ite_ap, bd_ld, bd_sv, bd_la, bd_sa, bd_ln, bd_rz0, bd_rz1, rz_n0, rz_n1, e_lit2, nI_z, nI_eq0, nI_0eq, nI_le0, nI_lt0, nI_0lt, nI_0le, e_001, e_n10, e_n1lt, bd_la0, bd_sa0, bd_rz00, rz_0, rz_1, b2i_0, Int32.add_zero, Int32.zero_add, nI_add, nI_pred2, pk_sub, pk_mul, pk_div, e_nz, nI_eq, nI_leI, nI_ltI, e_nm1, e_nm2, up_ap, gd_set_ne, gd_set_same, List.length_set, Nat.add_sub_cancel, Nat.reduceEqDiff, Nat.reduceAdd, Nat.reduceMul, Nat.reduceSub, Nat.reduceLT, Nat.reduceLeDiff, reduceIte, Nat.not_lt_zero, not_true_eq_false, not_false_eq_true, and_true, true_and, and_false, false_and, n0]
          rw [bd_lf0 _ hk, bd_some g1, bd_some y1]
          simp (disch := first | omega | (simp only [up_ap, List.length_set, Nat.reduceEqDiff, reduceIte]; omega)) only [bd_pr, pr_ap, jn_eq, lt_eq, bd_bd, bd_ite, ite_ap, bd_ld, bd_sv, bd_la, bd_sa, bd_ln, bd_rz0, bd_rz1, rz_n0, rz_n1, e_lit2, nI_z, nI_eq0, nI_0eq, nI_le0, nI_lt0, nI_0lt, nI_0le, e_001, e_n10, e_n1lt, bd_la0, bd_sa0, bd_rz00, rz_0, rz_1, b2i_0, Int32.add_zero, Int32.zero_add, nI_add, nI_pred2, pk_sub, pk_mul, pk_div, e_nz, nI_eq, nI_leI, nI_ltI, e_nm1, e_nm2, up_ap, gd_set_ne, gd_set_same, List.length_set, Nat.add_sub_cancel, Nat.reduceEqDiff, Nat.reduceAdd, Nat.reduceMul, Nat.reduceSub, Nat.reduceLT, Nat.reduceLeDiff, reduceIte, Nat.not_lt_zero, not_true_eq_false, not_false_eq_true, and_true, true_and, and_false, false_and, Nat_1_le_0]
          rw [bd_some u1, bd_some w1, e8]
          simp (disch := first | omega | (simp only [up_ap, List.length_set, Nat.reduceEqDiff, reduceIte]; omega)) only [bd_pr, pr_ap, jn_eq, lt_eq, bd_bd, bd_ite, ite_ap, bd_ld, bd_sv, bd_la, bd_sa, bd_ln, bd_rz0, bd_rz1, rz_n0, rz_n1, e_lit2, nI_z, nI_eq0, nI_0eq, nI_le0, nI_lt0, nI_0lt, nI_0le, e_001, e_n10, e_n1lt, bd_la0, bd_sa0, bd_rz00, rz_0, rz_1, b2i_0, Int32.add_zero, Int32.zero_add, nI_add, nI_pred2, pk_sub, pk_mul, pk_div, e_nz, nI_eq, nI_leI, nI_ltI, e_nm1, e_nm2, up_ap, gd_set_ne, gd_set_same, List.length_set, Nat.add_sub_cancel, Nat.reduceEqDiff, Nat.reduceAdd, Nat.reduceMul, Nat.reduceSub, Nat.reduceLT, Nat.reduceLeDiff, reduceIte, Nat.not_lt_zero, not_true_eq_false, not_false_eq_true, and_true, true_and, and_false, false_and, pk_m1']
        · simp (disch := first | omega | (simp only [up_ap, List.length_set, Nat.reduceEqDiff, reduceIte]; omega)) only [bd_pr, pr_ap, jn_eq, lt_eq, bd_bd, bd_ite, ite_ap, bd_ld, bd_sv, bd_la, bd_sa, bd_ln, bd_rz0, bd_rz1, rz_n0, rz_n1, e_lit2, nI_z, nI_eq0, nI_0eq, nI_le0, nI_lt0, nI_0lt, nI_0le, e_001, e_n10, e_n1lt, bd_la0, bd_sa0, bd_rz00, rz_0, rz_1, b2i_0, Int32.add_zero, Int32.zero_add, nI_add, nI_pred2, pk_sub, pk_mul, pk_div, e_nz, nI_eq, nI_leI, nI_ltI, e_nm1, e_nm2, up_ap, gd_set_ne, gd_set_same, List.length_set, Nat.add_sub_cancel, Nat.reduceEqDiff, Nat.reduceAdd, Nat.reduceMul, Nat.reduceSub, Nat.reduceLT, Nat.reduceLeDiff, reduceIte, Nat.not_lt_zero, not_true_eq_false, not_false_eq_true, and_true, true_and, and_false, false_and, gX11_knotOf, hr5, n4]
          rw [bd_some g2, bd_some y2]
          simp (disch := first | omega | (simp only [up_ap, List.length_set, Nat.reduceEqDiff, reduceIte]; omega)) only [bd_pr, pr_ap, jn_eq, lt_eq, bd_bd, bd_ite, ite_ap, bd_ld, bd_sv, bd_la, bd_sa, bd_ln, bd_rz0, bd_rz1, rz_n0, rz_n1, e_lit2, nI_z, nI_eq0, nI_0eq, nI_le0, nI_lt0, nI_0lt, nI_0le, e_001, e_n10, e_n1lt, bd_la0, bd_sa0, bd_rz00, rz_0, rz_1, b2i_0, Int32.add_zero, Int32.zero_add, nI_add, nI_pred2, pk_sub, pk_mul, pk_div, e_nz, nI_eq, nI_leI, nI_ltI, e_nm1, e_nm2, up_ap, gd_set_ne, gd_set_same, List.length_set, Nat.add_sub_cancel, Nat.reduceEqDiff, Nat.reduceAdd, Nat.reduceMul, Nat.reduceSub, Nat.reduceLT, Nat.reduceLeDiff, reduceIte, Nat.not_lt_zero, not_true_eq_false, not_false_eq_true, and_true, true_and, and_false, false_and, Nat_1_le_0]
          rw [bd_some u2, bd_some w2]
    · obtain ⟨p, ks', wh', rfl, rfl, hlen, hI, hIF⟩ := hI
      obtain ⟨-, ⟨hm1, hm2, hm3, hm4⟩, -, -, -, -, -, -, -, ⟨q1, q2, q3⟩⟩ := HR_W hI
      obtain ⟨a1, a2, a3, a4, a5⟩ := q1 c hc
      have hp : (ks' c).length = p := by omega
      refine ⟨0, A, 0, B', ?_, ?_, rfl, rfl, ks', wh', hI, hIF⟩
      · simp (disch := first | omega | (simp only [up_ap, List.length_set, Nat.reduceEqDiff, reduceIte]; omega)) only [bd_pr, pr_ap, jn_eq, lt_eq, bd_bd, bd_ite, ite_ap, bd_ld, bd_sv, bd_la, bd_sa, bd_ln, bd_rz0, bd_rz1, rz_n0, rz_n1, e_lit2, nI_z, nI_eq0, nI_0eq, nI_le0, nI_lt0, nI_0lt, nI_0le, e_001, e_n10, e_n1lt, bd_la0, bd_sa0, bd_rz00, rz_0, rz_1, b2i_0, Int32.add_zero, Int32.zero_add, nI_add, nI_pred2, pk_sub, pk_mul, pk_div, e_nz, nI_eq, nI_leI, nI_ltI, e_nm1, e_nm2, up_ap, gd_set_ne, gd_set_same, List.length_set, Nat.add_sub_cancel, Nat.reduceEqDiff, Nat.reduceAdd, Nat.reduceMul, Nat.reduceSub, Nat.reduceLT, Nat.reduceLeDiff, reduceIte, Nat.not_lt_zero, not_true_eq_false, not_false_eq_true, and_true, true_and, and_false, false_and, Nat.sub_self, Int32.le_refl]
      · by_cases h4 : p = 4
        · subst h4
          simp (disch := first | omega | (simp only [up_ap, List.length_set, Nat.reduceEqDiff, reduceIte]; omega)) only [bd_pr, pr_ap, jn_eq, lt_eq, bd_bd, bd_ite, ite_ap, bd_ld, bd_sv, bd_la, bd_sa, bd_ln, bd_rz0, bd_rz1, rz_n0, rz_n1, e_lit2, nI_z, nI_eq0, nI_0eq, nI_le0, nI_lt0, nI_0lt, nI_0le, e_001, e_n10, e_n1lt, bd_la0, bd_sa0, bd_rz00, rz_0, rz_1, b2i_0, Int32.add_zero, Int32.zero_add, nI_add, nI_pred2, pk_sub, pk_mul, pk_div, e_nz, nI_eq, nI_leI, nI_ltI, e_nm1, e_nm2, up_ap, gd_set_ne, gd_set_same, List.length_set, Nat.add_sub_cancel, Nat.reduceEqDiff, Nat.reduceAdd, Nat.reduceMul, Nat.reduceSub, Nat.reduceLT, Nat.reduceLeDiff, reduceIte, Nat.not_lt_zero, not_true_eq_false, not_false_eq_true, and_true, true_and, and_false, false_and]
        · have n4 : ¬ 4 ≤ p := by omega
          have hr5 := a5 p (by omega)
          rw [if_neg (by omega)] at hr5
          simp (disch := first | omega | (simp only [up_ap, List.length_set, Nat.reduceEqDiff, reduceIte]; omega)) only [bd_pr, pr_ap, jn_eq, lt_eq, bd_bd, bd_ite, ite_ap, bd_ld, bd_sv, bd_la, bd_sa, bd_ln, bd_rz0, bd_rz1, rz_n0, rz_n1, e_lit2, nI_z, nI_eq0, nI_0eq, nI_le0, nI_lt0, nI_0lt, nI_0le, e_001, e_n10, e_n1lt, bd_la0, bd_sa0, bd_rz00, rz_0, rz_1, b2i_0, Int32.add_zero, Int32.zero_add, nI_add, nI_pred2, pk_sub, pk_mul, pk_div, e_nz, nI_eq, nI_leI, nI_ltI, e_nm1, e_nm2, up_ap, gd_set_ne, gd_set_same, List.length_set, Nat.add_sub_cancel, Nat.reduceEqDiff, Nat.reduceAdd, Nat.reduceMul, Nat.reduceSub, Nat.reduceLT, Nat.reduceLeDiff, reduceIte, Nat.not_lt_zero, not_true_eq_false, not_false_eq_true, and_true, true_and, and_false, false_and, gX11_knotOf, hr5, n4]
  obtain ⟨r1, A', r2, B', g1, g2, rfl, rfl, g3⟩ := key
  exact ⟨A', B', g1, g2, g3⟩
