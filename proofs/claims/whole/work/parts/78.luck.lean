/-! PURE: a line of the book, luck, tying, washing, pulling -/
theorem rh15_inj : ∀ i j, i < 15 → j < 15 → rh15 i = rh15 j → i = j := inj_d (by decide +kernel)
def bk4 (l : List Int32) (ln : Nat) (d w t m : Int32) : List Int32 := (((l.set (4 * ln) d).set (4 * ln + 1) w).set (4 * ln + 2) t).set (4 * ln + 3) m
theorem p_write_no {T : Bk} {ln : Nat} {th : Int32} (l2 : (T 2).length = 19) (h0 : (T 2).getD 0 0 = th) (h3 : (T 2).getD 3 0 = nI ln) (hno : th = nI 1 ∨ (th = 0 ∧ ln = 150)) (w t m : Int32) : gX0_write w t m T = some (0, T) := by
  unfold gX0_write
  rcases hno with rfl | ⟨rfl, rfl⟩
  · simp (disch := first | omega | (simp only [up_ap, List.length_set, Nat.reduceEqDiff, reduceIte]; omega)) only [bd_pr, pr_ap, jn_eq, lt_eq, bd_bd, bd_ite, ite_ap, bd_ld, bd_sv, bd_la, bd_sa, bd_ln, bd_rz0, bd_rz1, rz_n0, rz_n1, e_lit2, nI_z, nI_eq0, nI_0eq, nI_le0, nI_lt0, nI_0lt, nI_0le, e_001, e_n10, e_n1lt, bd_la0, bd_sa0, bd_rz00, rz_0, rz_1, b2i_0, Int32.add_zero, Int32.zero_add, nI_add, nI_pred2, pk_sub, pk_mul, pk_div, e_nz, nI_eq, nI_leI, nI_ltI, e_nm1, e_nm2, up_ap, gd_set_ne, gd_set_same, List.length_set, Nat.add_sub_cancel, Nat.reduceEqDiff, Nat.reduceAdd, Nat.reduceMul, Nat.reduceSub, Nat.reduceLT, Nat.reduceLeDiff, reduceIte, Nat.not_lt_zero, not_true_eq_false, not_false_eq_true, and_true, true_and, and_false, false_and, h0, Nat_1_le_0]
  · simp (disch := first | omega | (simp only [up_ap, List.length_set, Nat.reduceEqDiff, reduceIte]; omega)) only [bd_pr, pr_ap, jn_eq, lt_eq, bd_bd, bd_ite, ite_ap, bd_ld, bd_sv, bd_la, bd_sa, bd_ln, bd_rz0, bd_rz1, rz_n0, rz_n1, e_lit2, nI_z, nI_eq0, nI_0eq, nI_le0, nI_lt0, nI_0lt, nI_0le, e_001, e_n10, e_n1lt, bd_la0, bd_sa0, bd_rz00, rz_0, rz_1, b2i_0, Int32.add_zero, Int32.zero_add, nI_add, nI_pred2, pk_sub, pk_mul, pk_div, e_nz, nI_eq, nI_leI, nI_ltI, e_nm1, e_nm2, up_ap, gd_set_ne, gd_set_same, List.length_set, Nat.add_sub_cancel, Nat.reduceEqDiff, Nat.reduceAdd, Nat.reduceMul, Nat.reduceSub, Nat.reduceLT, Nat.reduceLeDiff, reduceIte, Nat.not_lt_zero, not_true_eq_false, not_false_eq_true, and_true, true_and, and_false, false_and, h0, h3]
    rw [bd_iw, b2i_f (by decide)]
    simp (disch := first | omega | (simp only [up_ap, List.length_set, Nat.reduceEqDiff, reduceIte]; omega)) only [bd_pr, pr_ap, jn_eq, lt_eq, bd_bd, bd_ite, ite_ap, bd_ld, bd_sv, bd_la, bd_sa, bd_ln, bd_rz0, bd_rz1, rz_n0, rz_n1, e_lit2, nI_z, nI_eq0, nI_0eq, nI_le0, nI_lt0, nI_0lt, nI_0le, e_001, e_n10, e_n1lt, bd_la0, bd_sa0, bd_rz00, rz_0, rz_1, b2i_0, Int32.add_zero, Int32.zero_add, nI_add, nI_pred2, pk_sub, pk_mul, pk_div, e_nz, nI_eq, nI_leI, nI_ltI, e_nm1, e_nm2, up_ap, gd_set_ne, gd_set_same, List.length_set, Nat.add_sub_cancel, Nat.reduceEqDiff, Nat.reduceAdd, Nat.reduceMul, Nat.reduceSub, Nat.reduceLT, Nat.reduceLeDiff, reduceIte, Nat.not_lt_zero, not_true_eq_false, not_false_eq_true, and_true, true_and, and_false, false_and, Nat_1_le_0]
theorem p_write_yes {T : Bk} {ln : Nat} (l1 : (T 1).length = 600) (l2 : (T 2).length = 19) (h0 : (T 2).getD 0 0 = 0) (h3 : (T 2).getD 3 0 = nI ln) (hln : ln < 150) (w t m : Int32) : gX0_write w t m T = some (0, up (up T 1 (bk4 (T 1) ln ((T 2).getD 2 0) w t m)) 2 ((T 2).set 3 (nI (ln + 1)))) := by
  unfold gX0_write
  simp (disch := first | omega | (simp only [up_ap, List.length_set, Nat.reduceEqDiff, reduceIte]; omega)) only [bd_pr, pr_ap, jn_eq, lt_eq, bd_bd, bd_ite, ite_ap, bd_ld, bd_sv, bd_la, bd_sa, bd_ln, bd_rz0, bd_rz1, rz_n0, rz_n1, e_lit2, nI_z, nI_eq0, nI_0eq, nI_le0, nI_lt0, nI_0lt, nI_0le, e_001, e_n10, e_n1lt, bd_la0, bd_sa0, bd_rz00, rz_0, rz_1, b2i_0, Int32.add_zero, Int32.zero_add, nI_add, nI_pred2, pk_sub, pk_mul, pk_div, e_nz, nI_eq, nI_leI, nI_ltI, e_nm1, e_nm2, up_ap, gd_set_ne, gd_set_same, List.length_set, Nat.add_sub_cancel, Nat.reduceEqDiff, Nat.reduceAdd, Nat.reduceMul, Nat.reduceSub, Nat.reduceLT, Nat.reduceLeDiff, reduceIte, Nat.not_lt_zero, not_true_eq_false, not_false_eq_true, and_true, true_and, and_false, false_and, h0, h3]
  rw [bd_iw, b2i_t (show (0 : Int32) ≤ nI ln ∧ nI ln ≤ nI 149 from ⟨nI_pos' (by omega), nI_le (b := 149) (by omega) (by decide)⟩)]
  have e : ln * 4 = 4 * ln := Nat.mul_comm _ _
  simp (disch := first | omega | (simp only [up_ap, List.length_set, Nat.reduceEqDiff, reduceIte]; omega)) only [bd_pr, pr_ap, jn_eq, lt_eq, bd_bd, bd_ite, ite_ap, bd_ld, bd_sv, bd_la, bd_sa, bd_ln, bd_rz0, bd_rz1, rz_n0, rz_n1, e_lit2, nI_z, nI_eq0, nI_0eq, nI_le0, nI_lt0, nI_0lt, nI_0le, e_001, e_n10, e_n1lt, bd_la0, bd_sa0, bd_rz00, rz_0, rz_1, b2i_0, Int32.add_zero, Int32.zero_add, nI_add, nI_pred2, pk_sub, pk_mul, pk_div, e_nz, nI_eq, nI_leI, nI_ltI, e_nm1, e_nm2, up_ap, gd_set_ne, gd_set_same, List.length_set, Nat.add_sub_cancel, Nat.reduceEqDiff, Nat.reduceAdd, Nat.reduceMul, Nat.reduceSub, Nat.reduceLT, Nat.reduceLeDiff, reduceIte, Nat.not_lt_zero, not_true_eq_false, not_false_eq_true, and_true, true_and, and_false, false_and, h3, e, Nat_1_le_0, up_up, bk4]
theorem p_notes_no {B : Bk} {ln : Nat} {th : Int32} (l0 : (B 0).length = 68) (l1 : (B 1).length = 183) (h0 : (B 0).getD 5 0 = th) (h3 : (B 1).getD 2 0 = nI ln) (hno : th = nI 1 ∨ (th = 0 ∧ ln = 150)) (w t m : Int32) : gX11_notes w t m B = some (0, B) := by
  unfold gX11_notes
  rcases hno with rfl | ⟨rfl, rfl⟩
  · simp (disch := first | omega | (simp only [up_ap, List.length_set, Nat.reduceEqDiff, reduceIte]; omega)) only [bd_pr, pr_ap, jn_eq, lt_eq, bd_bd, bd_ite, ite_ap, bd_ld, bd_sv, bd_la, bd_sa, bd_ln, bd_rz0, bd_rz1, rz_n0, rz_n1, e_lit2, nI_z, nI_eq0, nI_0eq, nI_le0, nI_lt0, nI_0lt, nI_0le, e_001, e_n10, e_n1lt, bd_la0, bd_sa0, bd_rz00, rz_0, rz_1, b2i_0, Int32.add_zero, Int32.zero_add, nI_add, nI_pred2, pk_sub, pk_mul, pk_div, e_nz, nI_eq, nI_leI, nI_ltI, e_nm1, e_nm2, up_ap, gd_set_ne, gd_set_same, List.length_set, Nat.add_sub_cancel, Nat.reduceEqDiff, Nat.reduceAdd, Nat.reduceMul, Nat.reduceSub, Nat.reduceLT, Nat.reduceLeDiff, reduceIte, Nat.not_lt_zero, not_true_eq_false, not_false_eq_true, and_true, true_and, and_false, false_and, h0, Nat_1_le_0]
  · simp (disch := first | omega | (simp only [up_ap, List.length_set, Nat.reduceEqDiff, reduceIte]; omega)) only [bd_pr, pr_ap, jn_eq, lt_eq, bd_bd, bd_ite, ite_ap, bd_ld, bd_sv, bd_la, bd_sa, bd_ln, bd_rz0, bd_rz1, rz_n0, rz_n1, e_lit2, nI_z, nI_eq0, nI_0eq, nI_le0, nI_lt0, nI_0lt, nI_0le, e_001, e_n10, e_n1lt, bd_la0, bd_sa0, bd_rz00, rz_0, rz_1, b2i_0, Int32.add_zero, Int32.zero_add, nI_add, nI_pred2, pk_sub, pk_mul, pk_div, e_nz, nI_eq, nI_leI, nI_ltI, e_nm1, e_nm2, up_ap, gd_set_ne, gd_set_same, List.length_set, Nat.add_sub_cancel, Nat.reduceEqDiff, Nat.reduceAdd, Nat.reduceMul, Nat.reduceSub, Nat.reduceLT, Nat.reduceLeDiff, reduceIte, Nat.not_lt_zero, not_true_eq_false, not_false_eq_true, and_true, true_and, and_false, false_and, h0, h3]
theorem p_notes_yes {B : Bk} {ln : Nat} (l0 : (B 0).length = 68) (l1 : (B 1).length = 183) (l6 : (B 6).length = 600) (h0 : (B 0).getD 5 0 = 0) (h3 : (B 1).getD 2 0 = nI ln) (hln : ln < 150) (w t m : Int32) : gX11_notes w t m B = some (0, up (up B 6 (bk4 (B 6) ln ((B 1).getD 0 0) w t m)) 1 ((B 1).set 2 (nI (ln + 1)))) := by
  unfold gX11_notes
  have n1 : ¬ ln = 150 := by omega
  simp (disch := first | omega | (simp only [up_ap, List.length_set, Nat.reduceEqDiff, reduceIte]; omega)) only [bd_pr, pr_ap, jn_eq, lt_eq, bd_bd, bd_ite, ite_ap, bd_ld, bd_sv, bd_la, bd_sa, bd_ln, bd_rz0, bd_rz1, rz_n0, rz_n1, e_lit2, nI_z, nI_eq0, nI_0eq, nI_le0, nI_lt0, nI_0lt, nI_0le, e_001, e_n10, e_n1lt, bd_la0, bd_sa0, bd_rz00, rz_0, rz_1, b2i_0, Int32.add_zero, Int32.zero_add, nI_add, nI_pred2, pk_sub, pk_mul, pk_div, e_nz, nI_eq, nI_leI, nI_ltI, e_nm1, e_nm2, up_ap, gd_set_ne, gd_set_same, List.length_set, Nat.add_sub_cancel, Nat.reduceEqDiff, Nat.reduceAdd, Nat.reduceMul, Nat.reduceSub, Nat.reduceLT, Nat.reduceLeDiff, reduceIte, Nat.not_lt_zero, not_true_eq_false, not_false_eq_true, and_true, true_and, and_false, false_and, h0, h3, n1, up_up, bk4]
/-- a line, or none: what the two have then -/
theorem wr_ex {H B : Bk} {th np nc nt : Nat} {ks : Nat → List Nat} {wh : Nat → Nat} (h : HR H B th np nc nt ks wh) (w t m : Int32) : ∃ H' B', lf rh15 15 (gX0_write w t m) H = some (0, H') ∧ gX11_notes w t m B = some (0, B') ∧
    ((H' = H ∧ B' = B) ∨ ∃ ln, th = 0 ∧ ln < 150 ∧ (B 1).getD 2 0 = nI ln ∧ H' = up (up H 2 (bk4 (B 6) ln ((B 1).getD 0 0) w t m)) 36 ((H 36).set 3 (nI (ln + 1))) ∧ B' = up (up B 6 (bk4 (B 6) ln ((B 1).getD 0 0) w t m)) 1 ((B 1).set 2 (nI (ln + 1)))) := by
  obtain ⟨⟨l0, -⟩, ⟨hn1, hn2, hn3, hn4⟩, ⟨p1, p2, p3, p4, p5, p6⟩, ⟨ln, hln, eln⟩, -⟩ := HR_W h
  obtain ⟨-, ⟨ht1, ht2⟩, ⟨hb1, hb2⟩, ⟨b0, b5, b6, b7, b8⟩, -⟩ := h
  have h3 : (H 36).getD 3 0 = nI ln := by rw [p3]; exact eln
  have hT1 : ((fun i => H (rh15 i)) 1).length = 600 := by show (H 2).length = 600; rw [hb1]; exact hb2
  by_cases hno : nI th = nI 1 ∨ (nI th = 0 ∧ ln = 150)
  · refine ⟨H, B, ?_, p_notes_no b0 hn1 b5 eln hno w t m, Or.inl ⟨rfl, rfl⟩⟩
    have := lf_run (ρ := rh15) (n := 15) (S := H) (p_write_no (T := fun i => H (rh15 i)) l0 ht2 h3 hno w t m)
    rw [this, pu_self]
  · have hth : th = 0 := by
      rcases Nat.lt_or_ge th 1 with q | q
      · omega
      · exact absurd (Or.inl (by rw [show th = 1 by omega])) hno
    subst hth
    have hl2 : ln < 150 := by
      rcases Nat.lt_or_ge ln 150 with q | q
      · exact q
      · exact absurd (Or.inr ⟨rfl, by omega⟩) hno
    refine ⟨_, _, ?_, p_notes_yes b0 hn1 hb2 b5 eln hl2 w t m, Or.inr ⟨ln, rfl, hl2, eln, rfl, rfl⟩⟩
    have := lf_run (ρ := rh15) (n := 15) (S := H) (p_write_yes (T := fun i => H (rh15 i)) hT1 l0 ht2 h3 hl2 w t m)
    rw [this, pu_up rh15_inj (i := 2) (by decide), pu1 rh15_inj (i := 1) (by decide)]
    show some (0, up (up H 2 (bk4 (H 2) ln ((H 36).getD 2 0) w t m)) 36 ((H 36).set 3 (nI (ln + 1)))) = _
    rw [hb1, p2]
theorem bk4_len (l : List Int32) (ln : Nat) (d w t m : Int32) : (bk4 l ln d w t m).length = l.length := by simp only [bk4, List.length_set]
theorem wr_no {H B : Bk} {th np nc nt : Nat} {ks : Nat → List Nat} {wh : Nat → Nat} (h : HR H B th np nc nt ks wh) (w t m : Int32) : ∃ H' B', lf rh15 15 (gX0_write w t m) H = some (0, H') ∧ gX11_notes w t m B = some (0, B') ∧ HR H' B' th np nc nt ks wh ∧ HF H H' B B' := by
  obtain ⟨H', B', h1, h2, h3⟩ := wr_ex h w t m
  refine ⟨H', B', h1, h2, ?_⟩
  rcases h3 with ⟨rfl, rfl⟩ | ⟨ln, rfl, hln, e, rfl, rfl⟩
  · exact ⟨h, HF_rfl _ _⟩
  · have hb := h.2.2.1
    have hl : (bk4 (B 6) ln ((B 1).getD 0 0) w t m).length = 600 := by rw [bk4_len]; exact hb.2
    refine ⟨HR_line h (by omega) hl rfl rfl, HF_0 (HG_trans (HG_trans (HG_H (k := 2) (by omega) (by rw [hl, hb.1, hb.2])) (HG_H (k := 36) (by omega) (by rw [List.length_set, up_ne _ _ (by omega)]))) (HG_trans (HG_B (k := 6) (by omega) (by rw [hl, hb.2])) (HG_B (k := 1) (by omega) (by rw [List.length_set, up_ne _ _ (by omega)])))) h.2.1.2⟩
theorem irm_e (x : Int32) : irm x 1000 = irm x (nI 1000) := rfl
theorem p_hap_t {W : Bk} {n : Nat} (l0 : (W 0).length = 19) (h0 : (W 0).getD 0 0 = nI 1) (hn : n ≤ 1000) : gX9_happens (nI n) W = some (if n < 500 then 0 else nI 1, W) := by
  unfold gX9_happens
  by_cases h5 : n < 500
  · simp (disch := first | omega | (simp only [up_ap, List.length_set, Nat.reduceEqDiff, reduceIte]; omega)) only [bd_pr, pr_ap, jn_eq, lt_eq, bd_bd, bd_ite, ite_ap, bd_ld, bd_sv, bd_la, bd_sa, bd_ln, bd_rz0, bd_rz1, rz_n0, rz_n1, e_lit2, nI_z, nI_eq0, nI_0eq, nI_le0, nI_lt0, nI_0lt, nI_0le, e_001, e_n10, e_n1lt, bd_la0, bd_sa0, bd_rz00, rz_0, rz_1, b2i_0, Int32.add_zero, Int32.zero_add, nI_add, nI_pred2, pk_sub, pk_mul, pk_div, e_nz, nI_eq, nI_leI, nI_ltI, e_nm1, e_nm2, up_ap, gd_set_ne, gd_set_same, List.length_set, Nat.add_sub_cancel, Nat.reduceEqDiff, Nat.reduceAdd, Nat.reduceMul, Nat.reduceSub, Nat.reduceLT, Nat.reduceLeDiff, reduceIte, Nat.not_lt_zero, not_true_eq_false, not_false_eq_true, and_true, true_and, and_false, false_and, h0, Nat_1_le_0, h5]
  · simp (disch := first | omega | (simp only [up_ap, List.length_set, Nat.reduceEqDiff, reduceIte]; omega)) only [bd_pr, pr_ap, jn_eq, lt_eq, bd_bd, bd_ite, ite_ap, bd_ld, bd_sv, bd_la, bd_sa, bd_ln, bd_rz0, bd_rz1, rz_n0, rz_n1, e_lit2, nI_z, nI_eq0, nI_0eq, nI_le0, nI_lt0, nI_0lt, nI_0le, e_001, e_n10, e_n1lt, bd_la0, bd_sa0, bd_rz00, rz_0, rz_1, b2i_0, Int32.add_zero, Int32.zero_add, nI_add, nI_pred2, pk_sub, pk_mul, pk_div, e_nz, nI_eq, nI_leI, nI_ltI, e_nm1, e_nm2, up_ap, gd_set_ne, gd_set_same, List.length_set, Nat.add_sub_cancel, Nat.reduceEqDiff, Nat.reduceAdd, Nat.reduceMul, Nat.reduceSub, Nat.reduceLT, Nat.reduceLeDiff, reduceIte, Nat.not_lt_zero, not_true_eq_false, not_false_eq_true, and_true, true_and, and_false, false_and, h0, Nat_1_le_0, h5]
theorem p_hap_0 {W : Bk} {x : Int32} (l0 : (W 0).length = 19) (h0 : (W 0).getD 0 0 = 0) (hx : x ≤ 0) : gX9_happens x W = some (0, W) := by
  unfold gX9_happens
  simp (disch := first | omega | (simp only [up_ap, List.length_set, Nat.reduceEqDiff, reduceIte]; omega)) only [bd_pr, pr_ap, jn_eq, lt_eq, bd_bd, bd_ite, ite_ap, bd_ld, bd_sv, bd_la, bd_sa, bd_ln, bd_rz0, bd_rz1, rz_n0, rz_n1, e_lit2, nI_z, nI_eq0, nI_0eq, nI_le0, nI_lt0, nI_0lt, nI_0le, e_001, e_n10, e_n1lt, bd_la0, bd_sa0, bd_rz00, rz_0, rz_1, b2i_0, Int32.add_zero, Int32.zero_add, nI_add, nI_pred2, pk_sub, pk_mul, pk_div, e_nz, nI_eq, nI_leI, nI_ltI, e_nm1, e_nm2, up_ap, gd_set_ne, gd_set_same, List.length_set, Nat.add_sub_cancel, Nat.reduceEqDiff, Nat.reduceAdd, Nat.reduceMul, Nat.reduceSub, Nat.reduceLT, Nat.reduceLeDiff, reduceIte, Nat.not_lt_zero, not_true_eq_false, not_false_eq_true, and_true, true_and, and_false, false_and, h0, hx]
theorem p_hap_d {W : Bk} {x d v u : Int32} (l0 : (W 0).length = 19) (h0 : (W 0).getD 0 0 = 0) (hx : ¬ x ≤ 0) (h1 : (W 0).getD 1 0 = d) (hv : nI 1664525 * d + nI 1013904223 = v) (hu : irm (ish v (nI 8)) (nI 1000) = u) : gX9_happens x W = some (if x ≤ u then 0 else nI 1, up W 0 ((W 0).set 1 v)) := by
  unfold gX9_happens gX9_drawThousand
  by_cases hxu : x ≤ u
  · simp (disch := first | omega | (simp only [up_ap, List.length_set, Nat.reduceEqDiff, reduceIte]; omega)) only [bd_pr, pr_ap, jn_eq, lt_eq, bd_bd, bd_ite, ite_ap, bd_ld, bd_sv, bd_la, bd_sa, bd_ln, bd_rz0, bd_rz1, rz_n0, rz_n1, e_lit2, nI_z, nI_eq0, nI_0eq, nI_le0, nI_lt0, nI_0lt, nI_0le, e_001, e_n10, e_n1lt, bd_la0, bd_sa0, bd_rz00, rz_0, rz_1, b2i_0, Int32.add_zero, Int32.zero_add, nI_add, nI_pred2, pk_sub, pk_mul, pk_div, e_nz, nI_eq, nI_leI, nI_ltI, e_nm1, e_nm2, up_ap, gd_set_ne, gd_set_same, List.length_set, Nat.add_sub_cancel, Nat.reduceEqDiff, Nat.reduceAdd, Nat.reduceMul, Nat.reduceSub, Nat.reduceLT, Nat.reduceLeDiff, reduceIte, Nat.not_lt_zero, not_true_eq_false, not_false_eq_true, and_true, true_and, and_false, false_and, h0, h1, hx, hv, hu, hxu]
  · simp (disch := first | omega | (simp only [up_ap, List.length_set, Nat.reduceEqDiff, reduceIte]; omega)) only [bd_pr, pr_ap, jn_eq, lt_eq, bd_bd, bd_ite, ite_ap, bd_ld, bd_sv, bd_la, bd_sa, bd_ln, bd_rz0, bd_rz1, rz_n0, rz_n1, e_lit2, nI_z, nI_eq0, nI_0eq, nI_le0, nI_lt0, nI_0lt, nI_0le, e_001, e_n10, e_n1lt, bd_la0, bd_sa0, bd_rz00, rz_0, rz_1, b2i_0, Int32.add_zero, Int32.zero_add, nI_add, nI_pred2, pk_sub, pk_mul, pk_div, e_nz, nI_eq, nI_leI, nI_ltI, e_nm1, e_nm2, up_ap, gd_set_ne, gd_set_same, List.length_set, Nat.add_sub_cancel, Nat.reduceEqDiff, Nat.reduceAdd, Nat.reduceMul, Nat.reduceSub, Nat.reduceLT, Nat.reduceLeDiff, reduceIte, Nat.not_lt_zero, not_true_eq_false, not_false_eq_true, and_true, true_and, and_false, false_and, h0, h1, hx, hv, hu, hxu]
theorem hap {H B : Bk} {th np nc nt : Nat} {ks : Nat → List Nat} {wh : Nat → Nat} (h : HR H B th np nc nt ks wh) {x : Int32} (hx0 : 0 ≤ x) (hx1 : x ≤ 1000) : ∃ r H' B', lf rh12 13 (gX9_happens x) H = some (r, H') ∧ gX11_happens x B = some (r, B') ∧ (r = 0 ∨ r = nI 1) ∧ HR H' B' th np nc nt ks wh ∧ HF H H' B B' := by
  obtain ⟨⟨l0, -⟩, ⟨hn1, hn2, hn3, hn4⟩, ⟨p1, p2, p3, p4, p5, p6⟩, -⟩ := HR_W h
  obtain ⟨hW, ⟨ht1, ht2⟩, ⟨hb1, hb2⟩, ⟨b0, b5, b6, b7, b8⟩, -⟩ := id h
  have w0 : ((fun i => H (rh12 i)) 0).length = 19 := l0
  have w00 : ((fun i => H (rh12 i)) 0).getD 0 0 = nI th := ht2
  have w01 : ((fun i => H (rh12 i)) 0).getD 1 0 = (B 1).getD 1 0 := p1
  by_cases hth : th = 1
  · subst hth
    obtain ⟨n, hn, rfl⟩ := wi_rng (n := 1000) (by decide) ⟨hx0, hx1⟩
    by_cases h5 : n < 500
    · have h6 : 2 * n < 1000 := by omega
      refine ⟨0, H, B, ?_, ?_, Or.inl rfl, h, HF_rfl _ _⟩
      · have e := p_hap_t (W := fun i => H (rh12 i)) w0 w00 hn
        rw [if_pos h5] at e
        rw [lf_run e, pu_self]
      · unfold gX11_happens
        simp (disch := first | omega | (simp only [up_ap, List.length_set, Nat.reduceEqDiff, reduceIte]; omega)) only [bd_pr, pr_ap, jn_eq, lt_eq, bd_bd, bd_ite, ite_ap, bd_ld, bd_sv, bd_la, bd_sa, bd_ln, bd_rz0, bd_rz1, rz_n0, rz_n1, e_lit2, nI_z, nI_eq0, nI_0eq, nI_le0, nI_lt0, nI_0lt, nI_0le, e_001, e_n10, e_n1lt, bd_la0, bd_sa0, bd_rz00, rz_0, rz_1, b2i_0, Int32.add_zero, Int32.zero_add, nI_add, nI_pred2, pk_sub, pk_mul, pk_div, e_nz, nI_eq, nI_leI, nI_ltI, e_nm1, e_nm2, up_ap, gd_set_ne, gd_set_same, List.length_set, Nat.add_sub_cancel, Nat.reduceEqDiff, Nat.reduceAdd, Nat.reduceMul, Nat.reduceSub, Nat.reduceLT, Nat.reduceLeDiff, reduceIte, Nat.not_lt_zero, not_true_eq_false, not_false_eq_true, and_true, true_and, and_false, false_and, b5, Nat_1_le_0, h6]
    · have h6 : ¬ 2 * n < 1000 := by omega
      refine ⟨nI 1, H, B, ?_, ?_, Or.inr rfl, h, HF_rfl _ _⟩
      · have e := p_hap_t (W := fun i => H (rh12 i)) w0 w00 hn
        rw [if_neg h5] at e
        rw [lf_run e, pu_self]
      · unfold gX11_happens
        simp (disch := first | omega | (simp only [up_ap, List.length_set, Nat.reduceEqDiff, reduceIte]; omega)) only [bd_pr, pr_ap, jn_eq, lt_eq, bd_bd, bd_ite, ite_ap, bd_ld, bd_sv, bd_la, bd_sa, bd_ln, bd_rz0, bd_rz1, rz_n0, rz_n1, e_lit2, nI_z, nI_eq0, nI_0eq, nI_le0, nI_lt0, nI_0lt, nI_0le, e_001, e_n10, e_n1lt, bd_la0, bd_sa0, bd_rz00, rz_0, rz_1, b2i_0, Int32.add_zero, Int32.zero_add, nI_add, nI_pred2, pk_sub, pk_mul, pk_div, e_nz, nI_eq, nI_leI, nI_ltI, e_nm1, e_nm2, up_ap, gd_set_ne, gd_set_same, List.length_set, Nat.add_sub_cancel, Nat.reduceEqDiff, Nat.reduceAdd, Nat.reduceMul, Nat.reduceSub, Nat.reduceLT, Nat.reduceLeDiff, reduceIte, Nat.not_lt_zero, not_true_eq_false, not_false_eq_true, and_true, true_and, and_false, false_and, b5, Nat_1_le_0, h6]
  · have hth0 : th = 0 := by omega
    subst hth0
    by_cases hx : x ≤ 0
    · refine ⟨0, H, B, ?_, ?_, Or.inl rfl, h, HF_rfl _ _⟩
      · have e := p_hap_0 (W := fun i => H (rh12 i)) w0 w00 hx
        rw [lf_run e, pu_self]
      · unfold gX11_happens
        simp (disch := first | omega | (simp only [up_ap, List.length_set, Nat.reduceEqDiff, reduceIte]; omega)) only [bd_pr, pr_ap, jn_eq, lt_eq, bd_bd, bd_ite, ite_ap, bd_ld, bd_sv, bd_la, bd_sa, bd_ln, bd_rz0, bd_rz1, rz_n0, rz_n1, e_lit2, nI_z, nI_eq0, nI_0eq, nI_le0, nI_lt0, nI_0lt, nI_0le, e_001, e_n10, e_n1lt, bd_la0, bd_sa0, bd_rz00, rz_0, rz_1, b2i_0, Int32.add_zero, Int32.zero_add, nI_add, nI_pred2, pk_sub, pk_mul, pk_div, e_nz, nI_eq, nI_leI, nI_ltI, e_nm1, e_nm2, up_ap, gd_set_ne, gd_set_same, List.length_set, Nat.add_sub_cancel, Nat.reduceEqDiff, Nat.reduceAdd, Nat.reduceMul, Nat.reduceSub, Nat.reduceLT, Nat.reduceLeDiff, reduceIte, Nat.not_lt_zero, not_true_eq_false, not_false_eq_true, and_true, true_and, and_false, false_and, b5, hx]
    · obtain ⟨v, hv⟩ : ∃ v, nI 1664525 * (B 1).getD 1 0 + nI 1013904223 = v := ⟨_, rfl⟩
      obtain ⟨u, hu⟩ : ∃ u, irm (ish v (nI 8)) (nI 1000) = u := ⟨_, rfl⟩
      have hW2 := WR_draw hW v
      have hW3 : WR (up (fun i => H (rh12 i)) 0 (((fun i => H (rh12 i)) 0).set 1 v)) ((B 1).set 1 v) (B 4) (B 5) np nc nt ks wh := hW2
      have hR := HR_world h hW3 (by rw [up_same, gd_set_ne (by decide)]; exact w00)
      have hF : HF H (pu rh12 13 (up (fun i => H (rh12 i)) 0 (((fun i => H (rh12 i)) 0).set 1 v)) H) B (up B 1 ((B 1).set 1 v)) := HF_0 (HG_trans HG_pu (HG_B (Or.inl rfl) List.length_set)) ht2
      by_cases hxu : x ≤ u
      · refine ⟨0, _, _, ?_, ?_, Or.inl rfl, hR, hF⟩
        · have e := p_hap_d (W := fun i => H (rh12 i)) w0 w00 hx w01 hv hu
          rw [if_pos hxu] at e
          rw [lf_run e]
        · unfold gX11_happens gX11_draw
          simp (disch := first | omega | (simp only [up_ap, List.length_set, Nat.reduceEqDiff, reduceIte]; omega)) only [bd_pr, pr_ap, jn_eq, lt_eq, bd_bd, bd_ite, ite_ap, bd_ld, bd_sv, bd_la, bd_sa, bd_ln, bd_rz0, bd_rz1, rz_n0, rz_n1, e_lit2, nI_z, nI_eq0, nI_0eq, nI_le0, nI_lt0, nI_0lt, nI_0le, e_001, e_n10, e_n1lt, bd_la0, bd_sa0, bd_rz00, rz_0, rz_1, b2i_0, Int32.add_zero, Int32.zero_add, nI_add, nI_pred2, pk_sub, pk_mul, pk_div, e_nz, nI_eq, nI_leI, nI_ltI, e_nm1, e_nm2, up_ap, gd_set_ne, gd_set_same, List.length_set, Nat.add_sub_cancel, Nat.reduceEqDiff, Nat.reduceAdd, Nat.reduceMul, Nat.reduceSub, Nat.reduceLT, Nat.reduceLeDiff, reduceIte, Nat.not_lt_zero, not_true_eq_false, not_false_eq_true, and_true, true_and, and_false, false_and, b5, hx, hv, hu, hxu]
      · refine ⟨nI 1, _, _, ?_, ?_, Or.inr rfl, hR, hF⟩
        · have e := p_hap_d (W := fun i => H (rh12 i)) w0 w00 hx w01 hv hu
          rw [if_neg hxu] at e
          rw [lf_run e]
        · unfold gX11_happens gX11_draw
          simp (disch := first | omega | (simp only [up_ap, List.length_set, Nat.reduceEqDiff, reduceIte]; omega)) only [bd_pr, pr_ap, jn_eq, lt_eq, bd_bd, bd_ite, ite_ap, bd_ld, bd_sv, bd_la, bd_sa, bd_ln, bd_rz0, bd_rz1, rz_n0, rz_n1, e_lit2, nI_z, nI_eq0, nI_0eq, nI_le0, nI_lt0, nI_0lt, nI_0le, e_001, e_n10, e_n1lt, bd_la0, bd_sa0, bd_rz00, rz_0, rz_1, b2i_0, Int32.add_zero, Int32.zero_add, nI_add, nI_pred2, pk_sub, pk_mul, pk_div, e_nz, nI_eq, nI_leI, nI_ltI, e_nm1, e_nm2, up_ap, gd_set_ne, gd_set_same, List.length_set, Nat.add_sub_cancel, Nat.reduceEqDiff, Nat.reduceAdd, Nat.reduceMul, Nat.reduceSub, Nat.reduceLT, Nat.reduceLeDiff, reduceIte, Nat.not_lt_zero, not_true_eq_false, not_false_eq_true, and_true, true_and, and_false, false_and, b5, hx, hv, hu, hxu]
