/-! PURE: a day -/
set_option maxHeartbeats 200000 in
theorem due_h {H B : Bk} {th np nc nt : Nat} {ks : Nat → List Nat} {wh : Nat → Nat} (h : HR H B th np nc nt ks wh) {t : Nat} (ht : t < nt) : ∃ r H1 H' B', gX1_isTold (nI t) H = some (r, H1) ∧ gX1_settle (nI t) r H1 = some (0, H') ∧ gX11_comesDue (nI t) B = some (r, B') ∧ (r = 0 ∨ r = nI 1) ∧ DR H B th np nc nt H' B' := by
  obtain ⟨⟨l0, l1, l2, l3, l4, l5, l6, l7, l8, l9, l10, l11, l12⟩, ⟨hn1, hn2, hn3, hn4⟩, ⟨p1, p2, p3, p4, p5, p6⟩, he, ⟨s1, s2, s3, s4, s5, s6, s7⟩, hod, ho, hd, hw, ⟨k1, k2, k3⟩⟩ := HR_W h
  obtain ⟨o, hoo, eo⟩ := ho t ht
  have c8 : (H 44).getD t 0 = nI o := by rw [hod.1]; exact eo
  have m4 : (B 4).length = 20 := by rw [← hod.1]; exact l8
  obtain ⟨b1, b2, b3, b4⟩ := k2 t ht
  have hhold : gX9_holderOf (nI t) (fun i => H (rh12 i)) = some (if wh t = 0 then -nI 1 else (B 1).getD (39 + (wh t - 1)) 0, fun i => H (rh12 i)) := p_holderOf h.1 ht
  have hin : gX11_inCloth (nI t) B = some (nI (wh t) - nI 1, B) := by
    unfold gX11_inCloth
    simp (disch := first | omega | (simp only [up_ap, List.length_set, Nat.reduceEqDiff, reduceIte]; omega)) only [bd_pr, pr_ap, jn_eq, lt_eq, bd_bd, bd_ite, ite_ap, bd_ld, bd_sv, bd_la, bd_sa, bd_ln, bd_rz0, bd_rz1, rz_n0, rz_n1, e_lit2, nI_z, nI_eq0, nI_0eq, nI_le0, nI_lt0, nI_0lt, nI_0le, e_001, e_n10, e_n1lt, bd_la0, bd_sa0, bd_rz00, rz_0, rz_1, b2i_0, Int32.add_zero, Int32.zero_add, nI_add, nI_pred2, pk_sub, pk_mul, pk_div, e_nz, nI_eq, nI_leI, nI_ltI, e_nm1, e_nm2, up_ap, gd_set_ne, gd_set_same, List.length_set, Nat.add_sub_cancel, Nat.reduceEqDiff, Nat.reduceAdd, Nat.reduceMul, Nat.reduceSub, Nat.reduceLT, Nat.reduceLeDiff, reduceIte, Nat.not_lt_zero, not_true_eq_false, not_false_eq_true, and_true, true_and, and_false, false_and, b2]
    first | done | rfl
  by_cases hq : wh t = 0
  · obtain ⟨H', B', g1, g2, g3⟩ := settle_no h ht (r1 := -nI 1) (by rw [hq, e_01])
    rw [if_pos hq] at hhold
    rw [hq, e_01] at hin
    refine ⟨0, H, H', B', ?_, g1, ?_, Or.inl rfl, g3⟩
    · unfold gX1_isTold
      rw [bd_lf0 _ hhold]; rfl
    · rw [due_eq, bd_some hin]
      simp (disch := first | omega | (simp only [up_ap, List.length_set, Nat.reduceEqDiff, reduceIte]; omega)) only [bd_pr, pr_ap, jn_eq, lt_eq, bd_bd, bd_ite, ite_ap, bd_ld, bd_sv, bd_la, bd_sa, bd_ln, bd_rz0, bd_rz1, rz_n0, rz_n1, e_lit2, nI_z, nI_eq0, nI_0eq, nI_le0, nI_lt0, nI_0lt, nI_0le, e_001, e_n10, e_n1lt, bd_la0, bd_sa0, bd_rz00, rz_0, rz_1, b2i_0, Int32.add_zero, Int32.zero_add, nI_add, nI_pred2, pk_sub, pk_mul, pk_div, e_nz, nI_eq, nI_leI, nI_ltI, e_nm1, e_nm2, up_ap, gd_set_ne, gd_set_same, List.length_set, Nat.add_sub_cancel, Nat.reduceEqDiff, Nat.reduceAdd, Nat.reduceMul, Nat.reduceSub, Nat.reduceLT, Nat.reduceLeDiff, reduceIte, Nat.not_lt_zero, not_true_eq_false, not_false_eq_true, and_true, true_and, and_false, false_and]
      exact g2
  · obtain ⟨c, hc⟩ : ∃ c, wh t = c + 1 := ⟨wh t - 1, by omega⟩
    have hcn : c < nc := by omega
    obtain ⟨w, hww, ew⟩ := hw c hcn
    rw [if_neg hq, hc] at hhold
    have hhold : gX9_holderOf (nI t) (fun i => H (rh12 i)) = some (nI w, fun i => H (rh12 i)) := by rw [hhold]; rw [show c + 1 - 1 = c from rfl, ew]
    rw [hc, nI_pred2] at hin
    rw [hc, nI_pred2] at b3
    by_cases hwo : w = o
    · obtain ⟨H', B', g1, g2, g3⟩ := settle_yes h ht (r1 := nI c) (by rw [hc, nI_pred2])
      refine ⟨nI 1, H, H', B', ?_, g1, ?_, Or.inr rfl, g3⟩
      · unfold gX1_isTold
        rw [bd_lf0 _ hhold]
        simp (disch := first | omega | (simp only [up_ap, List.length_set, Nat.reduceEqDiff, reduceIte]; omega)) only [bd_pr, pr_ap, jn_eq, lt_eq, bd_bd, bd_ite, ite_ap, bd_ld, bd_sv, bd_la, bd_sa, bd_ln, bd_rz0, bd_rz1, rz_n0, rz_n1, e_lit2, nI_z, nI_eq0, nI_0eq, nI_le0, nI_lt0, nI_0lt, nI_0le, e_001, e_n10, e_n1lt, bd_la0, bd_sa0, bd_rz00, rz_0, rz_1, b2i_0, Int32.add_zero, Int32.zero_add, nI_add, nI_pred2, pk_sub, pk_mul, pk_div, e_nz, nI_eq, nI_leI, nI_ltI, e_nm1, e_nm2, up_ap, gd_set_ne, gd_set_same, List.length_set, Nat.add_sub_cancel, Nat.reduceEqDiff, Nat.reduceAdd, Nat.reduceMul, Nat.reduceSub, Nat.reduceLT, Nat.reduceLeDiff, reduceIte, Nat.not_lt_zero, not_true_eq_false, not_false_eq_true, and_true, true_and, and_false, false_and, c8, hwo]
      · rw [due_eq, bd_some hin]
        simp (disch := first | omega | (simp only [up_ap, List.length_set, Nat.reduceEqDiff, reduceIte]; omega)) only [bd_pr, pr_ap, jn_eq, lt_eq, bd_bd, bd_ite, ite_ap, bd_ld, bd_sv, bd_la, bd_sa, bd_ln, bd_rz0, bd_rz1, rz_n0, rz_n1, e_lit2, nI_z, nI_eq0, nI_0eq, nI_le0, nI_lt0, nI_0lt, nI_0le, e_001, e_n10, e_n1lt, bd_la0, bd_sa0, bd_rz00, rz_0, rz_1, b2i_0, Int32.add_zero, Int32.zero_add, nI_add, nI_pred2, pk_sub, pk_mul, pk_div, e_nz, nI_eq, nI_leI, nI_ltI, e_nm1, e_nm2, up_ap, gd_set_ne, gd_set_same, List.length_set, Nat.add_sub_cancel, Nat.reduceEqDiff, Nat.reduceAdd, Nat.reduceMul, Nat.reduceSub, Nat.reduceLT, Nat.reduceLeDiff, reduceIte, Nat.not_lt_zero, not_true_eq_false, not_false_eq_true, and_true, true_and, and_false, false_and, ew, eo, hwo]
        exact g2
    · obtain ⟨v, s35, s9, b21, g1, g2, g3, g4, g5, g6, g7⟩ := ask_tells h ht hcn hc
      have h1 := HR_scratch h g4 g3 g3 g5
      have z9 : (H 9).length = 400 := h.2.2.2.2.1.1.2.2.2.2.2.2
      have z35 := h.2.2.2.2.2.2.2
      have hF1 : HF H (up (up H 35 s35) 9 s9) B (up (up B 20 s35) 21 b21) := HF_trans (HF_trans (HF_H (k := 35) (by omega) (by rw [g3, z35.2.1])) (HF_H (k := 9) (by omega) (by rw [g4, up_ne _ _ (by omega), z9]))) (HF_trans (HF_B (k := 20) (by omega) (by rw [g3, z35.2.2.1])) (HF_B (k := 21) (by omega) (by rw [g5, up_ne _ _ (by omega), z35.2.2.2])))
      obtain ⟨rr, H2, B2, y1, y2, y3, y4, y5⟩ := hap h1 (x := v) g6 g7
      rcases y3 with rfl | rfl
      · obtain ⟨H', B', q1, q2, ks', wh', q3, q4⟩ := settle_no y4 ht (r1 := nI c) (by rw [hc, nI_pred2])
        refine ⟨0, H2, H', B', ?_, q1, ?_, Or.inl rfl, ks', wh', q3, HF_trans hF1 (HF_trans y5 q4)⟩
        · unfold gX1_isTold
          rw [bd_lf0 _ hhold]
          simp (disch := first | omega | (simp only [up_ap, List.length_set, Nat.reduceEqDiff, reduceIte]; omega)) only [bd_pr, pr_ap, jn_eq, lt_eq, bd_bd, bd_ite, ite_ap, bd_ld, bd_sv, bd_la, bd_sa, bd_ln, bd_rz0, bd_rz1, rz_n0, rz_n1, e_lit2, nI_z, nI_eq0, nI_0eq, nI_le0, nI_lt0, nI_0lt, nI_0le, e_001, e_n10, e_n1lt, bd_la0, bd_sa0, bd_rz00, rz_0, rz_1, b2i_0, Int32.add_zero, Int32.zero_add, nI_add, nI_pred2, pk_sub, pk_mul, pk_div, e_nz, nI_eq, nI_leI, nI_ltI, e_nm1, e_nm2, up_ap, gd_set_ne, gd_set_same, List.length_set, Nat.add_sub_cancel, Nat.reduceEqDiff, Nat.reduceAdd, Nat.reduceMul, Nat.reduceSub, Nat.reduceLT, Nat.reduceLeDiff, reduceIte, Nat.not_lt_zero, not_true_eq_false, not_false_eq_true, and_true, true_and, and_false, false_and, c8, hwo, b3]
          rw [bd_some g1, bd_some y1]
          simp (disch := first | omega | (simp only [up_ap, List.length_set, Nat.reduceEqDiff, reduceIte]; omega)) only [bd_pr, pr_ap, jn_eq, lt_eq, bd_bd, bd_ite, ite_ap, bd_ld, bd_sv, bd_la, bd_sa, bd_ln, bd_rz0, bd_rz1, rz_n0, rz_n1, e_lit2, nI_z, nI_eq0, nI_0eq, nI_le0, nI_lt0, nI_0lt, nI_0le, e_001, e_n10, e_n1lt, bd_la0, bd_sa0, bd_rz00, rz_0, rz_1, b2i_0, Int32.add_zero, Int32.zero_add, nI_add, nI_pred2, pk_sub, pk_mul, pk_div, e_nz, nI_eq, nI_leI, nI_ltI, e_nm1, e_nm2, up_ap, gd_set_ne, gd_set_same, List.length_set, Nat.add_sub_cancel, Nat.reduceEqDiff, Nat.reduceAdd, Nat.reduceMul, Nat.reduceSub, Nat.reduceLT, Nat.reduceLeDiff, reduceIte, Nat.not_lt_zero, not_true_eq_false, not_false_eq_true, and_true, true_and, and_false, false_and]
        · rw [due_eq, bd_some hin]
          simp (disch := first | omega | (simp only [up_ap, List.length_set, Nat.reduceEqDiff, reduceIte]; omega)) only [bd_pr, pr_ap, jn_eq, lt_eq, bd_bd, bd_ite, ite_ap, bd_ld, bd_sv, bd_la, bd_sa, bd_ln, bd_rz0, bd_rz1, rz_n0, rz_n1, e_lit2, nI_z, nI_eq0, nI_0eq, nI_le0, nI_lt0, nI_0lt, nI_0le, e_001, e_n10, e_n1lt, bd_la0, bd_sa0, bd_rz00, rz_0, rz_1, b2i_0, Int32.add_zero, Int32.zero_add, nI_add, nI_pred2, pk_sub, pk_mul, pk_div, e_nz, nI_eq, nI_leI, nI_ltI, e_nm1, e_nm2, up_ap, gd_set_ne, gd_set_same, List.length_set, Nat.add_sub_cancel, Nat.reduceEqDiff, Nat.reduceAdd, Nat.reduceMul, Nat.reduceSub, Nat.reduceLT, Nat.reduceLeDiff, reduceIte, Nat.not_lt_zero, not_true_eq_false, not_false_eq_true, and_true, true_and, and_false, false_and, ew, eo, hwo]
          rw [bd_some g2, bd_some y2]
          simp (disch := first | omega | (simp only [up_ap, List.length_set, Nat.reduceEqDiff, reduceIte]; omega)) only [bd_pr, pr_ap, jn_eq, lt_eq, bd_bd, bd_ite, ite_ap, bd_ld, bd_sv, bd_la, bd_sa, bd_ln, bd_rz0, bd_rz1, rz_n0, rz_n1, e_lit2, nI_z, nI_eq0, nI_0eq, nI_le0, nI_lt0, nI_0lt, nI_0le, e_001, e_n10, e_n1lt, bd_la0, bd_sa0, bd_rz00, rz_0, rz_1, b2i_0, Int32.add_zero, Int32.zero_add, nI_add, nI_pred2, pk_sub, pk_mul, pk_div, e_nz, nI_eq, nI_leI, nI_ltI, e_nm1, e_nm2, up_ap, gd_set_ne, gd_set_same, List.length_set, Nat.add_sub_cancel, Nat.reduceEqDiff, Nat.reduceAdd, Nat.reduceMul, Nat.reduceSub, Nat.reduceLT, Nat.reduceLeDiff, reduceIte, Nat.not_lt_zero, not_true_eq_false, not_false_eq_true, and_true, true_and, and_false, false_and]
          exact q2
      · obtain ⟨H', B', q1, q2, ks', wh', q3, q4⟩ := settle_yes y4 ht (r1 := nI c) (by rw [hc, nI_pred2])
        refine ⟨nI 1, H2, H', B', ?_, q1, ?_, Or.inr rfl, ks', wh', q3, HF_trans hF1 (HF_trans y5 q4)⟩
        · unfold gX1_isTold
          rw [bd_lf0 _ hhold]
          simp (disch := first | omega | (simp only [up_ap, List.length_set, Nat.reduceEqDiff, reduceIte]; omega)) only [bd_pr, pr_ap, jn_eq, lt_eq, bd_bd, bd_ite, ite_ap, bd_ld, bd_sv, bd_la, bd_sa, bd_ln, bd_rz0, bd_rz1, rz_n0, rz_n1, e_lit2, nI_z, nI_eq0, nI_0eq, nI_le0, nI_lt0, nI_0lt, nI_0le, e_001, e_n10, e_n1lt, bd_la0, bd_sa0, bd_rz00, rz_0, rz_1, b2i_0, Int32.add_zero, Int32.zero_add, nI_add, nI_pred2, pk_sub, pk_mul, pk_div, e_nz, nI_eq, nI_leI, nI_ltI, e_nm1, e_nm2, up_ap, gd_set_ne, gd_set_same, List.length_set, Nat.add_sub_cancel, Nat.reduceEqDiff, Nat.reduceAdd, Nat.reduceMul, Nat.reduceSub, Nat.reduceLT, Nat.reduceLeDiff, reduceIte, Nat.not_lt_zero, not_true_eq_false, not_false_eq_true, and_true, true_and, and_false, false_and, c8, hwo, b3]
          rw [bd_some g1, bd_some y1]
          simp (disch := first | omega | (simp only [up_ap, List.length_set, Nat.reduceEqDiff, reduceIte]; omega)) only [bd_pr, pr_ap, jn_eq, lt_eq, bd_bd, bd_ite, ite_ap, bd_ld, bd_sv, bd_la, bd_sa, bd_ln, bd_rz0, bd_rz1, rz_n0, rz_n1, e_lit2, nI_z, nI_eq0, nI_0eq, nI_le0, nI_lt0, nI_0lt, nI_0le, e_001, e_n10, e_n1lt, bd_la0, bd_sa0, bd_rz00, rz_0, rz_1, b2i_0, Int32.add_zero, Int32.zero_add, nI_add, nI_pred2, pk_sub, pk_mul, pk_div, e_nz, nI_eq, nI_leI, nI_ltI, e_nm1, e_nm2, up_ap, gd_set_ne, gd_set_same, List.length_set, Nat.add_sub_cancel, Nat.reduceEqDiff, Nat.reduceAdd, Nat.reduceMul, Nat.reduceSub, Nat.reduceLT, Nat.reduceLeDiff, reduceIte, Nat.not_lt_zero, not_true_eq_false, not_false_eq_true, and_true, true_and, and_false, false_and, Nat_1_le_0]
        · rw [due_eq, bd_some hin]
          simp (disch := first | omega | (simp only [up_ap, List.length_set, Nat.reduceEqDiff, reduceIte]; omega)) only [bd_pr, pr_ap, jn_eq, lt_eq, bd_bd, bd_ite, ite_ap, bd_ld, bd_sv, bd_la, bd_sa, bd_ln, bd_rz0, bd_rz1, rz_n0, rz_n1, e_lit2, nI_z, nI_eq0, nI_0eq, nI_le0, nI_lt0, nI_0lt, nI_0le, e_001, e_n10, e_n1lt, bd_la0, bd_sa0, bd_rz00, rz_0, rz_1, b2i_0, Int32.add_zero, Int32.zero_add, nI_add, nI_pred2, pk_sub, pk_mul, pk_div, e_nz, nI_eq, nI_leI, nI_ltI, e_nm1, e_nm2, up_ap, gd_set_ne, gd_set_same, List.length_set, Nat.add_sub_cancel, Nat.reduceEqDiff, Nat.reduceAdd, Nat.reduceMul, Nat.reduceSub, Nat.reduceLT, Nat.reduceLeDiff, reduceIte, Nat.not_lt_zero, not_true_eq_false, not_false_eq_true, and_true, true_and, and_false, false_and, ew, eo, hwo]
          rw [bd_some g2, bd_some y2]
          simp (disch := first | omega | (simp only [up_ap, List.length_set, Nat.reduceEqDiff, reduceIte]; omega)) only [bd_pr, pr_ap, jn_eq, lt_eq, bd_bd, bd_ite, ite_ap, bd_ld, bd_sv, bd_la, bd_sa, bd_ln, bd_rz0, bd_rz1, rz_n0, rz_n1, e_lit2, nI_z, nI_eq0, nI_0eq, nI_le0, nI_lt0, nI_0lt, nI_0le, e_001, e_n10, e_n1lt, bd_la0, bd_sa0, bd_rz00, rz_0, rz_1, b2i_0, Int32.add_zero, Int32.zero_add, nI_add, nI_pred2, pk_sub, pk_mul, pk_div, e_nz, nI_eq, nI_leI, nI_ltI, e_nm1, e_nm2, up_ap, gd_set_ne, gd_set_same, List.length_set, Nat.add_sub_cancel, Nat.reduceEqDiff, Nat.reduceAdd, Nat.reduceMul, Nat.reduceSub, Nat.reduceLT, Nat.reduceLeDiff, reduceIte, Nat.not_lt_zero, not_true_eq_false, not_false_eq_true, and_true, true_and, and_false, false_and, Nat_1_le_0]
          exact q2
def pd3B : (Int32 × Int32 → MM Int32) → Int32 × Int32 → MM Int32 := fun (self11 : Int32 × Int32 → MM Int32) (s12 : Int32 × Int32) =>
  bd (ld 36 6) fun v13 =>
  (if v13 ≤ s12.2 then
  bd (ld 36 2) fun v14 =>
  bd (sv 36 2 (v14 + 1)) fun _ =>
  pr s12.1
  else
  bd (la 48 s12.2) fun v15 =>
  jn (fun (a17 : Int32) =>
  lt (s12.2 + 1) fun y18 =>
  self11 (a17, y18)) (fun j16 =>
  (if v15 = 0 then
  bd (la 45 s12.2) fun v19 =>
  bd (ld 36 2) fun v20 =>
  (if v19 = v20 then
  bd (gX1_isTold s12.2) fun r21 =>
  bd (gX1_settle s12.2 r21) fun r22 =>
  jn (fun (a24 : Int32) =>
  lt (s12.1 + a24) fun y25 =>
  j16 y25) (fun j23 =>
  (if r21 = 0 then
  j23 0
  else
  j23 1))
  else
  j16 s12.1)
  else
  j16 s12.1)))
def pd3 : MM Int32 := loopC 100000 (pd3B) (0, 0)
def pd2B : (Int32 → MM Int32) → Int32 → MM Int32 := fun (self6 : Int32 → MM Int32) (s7 : Int32) =>
  bd (ld 10 0) fun v8 =>
  jn (fun (a10 : Unit) =>
  (pd3)) (fun j9 =>
  (if v8 ≤ s7 then
  j9 ()
  else
  (if 16 ≤ s7 then
  j9 ()
  else
  bd (la 11 s7) fun v26 =>
  bd (ld 36 2) fun v27 =>
  jn (fun (a29 : Unit) =>
  lt (s7 + 1) fun y30 =>
  self6 y30) (fun j28 =>
  (if v26 = v27 then
  bd (la 12 s7) fun v31 =>
  bd (la 13 s7) fun v32 =>
  bd (la 14 s7) fun v33 =>
  bd (gX1_doDeed v31 v32 v33) fun r34 =>
  j28 ()
  else
  j28 ())))))
def pd2 : MM Int32 := loopC 100000 (pd2B) 0
def pd1B : (Int32 → MM Int32) → Int32 → MM Int32 := fun (self1 : Int32 → MM Int32) (s2 : Int32) =>
  bd (ld 15 0) fun v3 =>
  jn (fun (a5 : Unit) =>
  (pd2)) (fun j4 =>
  (if v3 ≤ s2 then
  j4 ()
  else
  (if 16 ≤ s2 then
  j4 ()
  else
  bd (la 18 s2) fun v35 =>
  bd (la 16 s2) fun v36 =>
  bd (ld 36 2) fun v37 =>
  jn (fun (a39 : Unit) =>
  lt (s2 + 1) fun y40 =>
  self1 y40) (fun j38 =>
  (if v36 = v37 then
  bd (lf rh12 13 (gX9_hasPerson v35)) fun r41 =>
  (if r41 = 0 then
  j38 ()
  else
  bd (la 19 s2) fun v42 =>
  bd (sa 37 v35 v42) fun _ =>
  j38 ())
  else
  j38 ())))))
def pd1 : MM Int32 := loopC 100000 (pd1B) 0
theorem pd_eq : gX1_passDay =
  (pd1) := rfl
def gb3B : (Int32 × Int32 → MM Int32) → Int32 × Int32 → MM Int32 := fun (self7 : Int32 × Int32 → MM Int32) (s8 : Int32 × Int32) =>
  bd (ld 0 8) fun v9 =>
  (if v9 ≤ s8.2 then
  bd (la 1 0) fun v10 =>
  bd (sa 1 0 (v10 + 1)) fun _ =>
  pr s8.1
  else
  bd (gX11_isOpen s8.2) fun r11 =>
  jn (fun (a13 : Int32) =>
  lt (s8.2 + 1) fun y14 =>
  self7 (a13, y14)) (fun j12 =>
  (if r11 = 0 then
  j12 s8.1
  else
  bd (la 5 s8.2) fun v15 =>
  bd (la 1 0) fun v16 =>
  (if v15 = v16 then
  bd (gX11_comesDue s8.2) fun r17 =>
  (if r17 = 0 then
  j12 s8.1
  else
  lt (s8.1 + 1) fun y18 =>
  j12 y18)
  else
  j12 s8.1))))
def gb3 : MM Int32 := loopC 100000 (gb3B) (0, 0)
def gb2B : (Int32 → MM Int32) → Int32 → MM Int32 := fun (self4 : Int32 → MM Int32) (s5 : Int32) =>
  bd (ld 0 35) fun v6 =>
  (if (4 * v6) ≤ s5 then
  (gb3)
  else
  bd (la 17 s5) fun v19 =>
  bd (la 1 0) fun v20 =>
  jn (fun (a22 : Unit) =>
  lt (s5 + 4) fun y23 =>
  self4 y23) (fun j21 =>
  (if v19 = v20 then
  bd (la 17 (s5 + 1)) fun v24 =>
  bd (la 17 (s5 + 2)) fun v25 =>
  bd (la 17 (s5 + 3)) fun v26 =>
  bd (gX11_does v24 v25 v26) fun r27 =>
  j21 ()
  else
  j21 ())))
def gb2 : MM Int32 := loopC 100000 (gb2B) 0
def gb1B : (Int32 → MM Int32) → Int32 → MM Int32 := fun (self1 : Int32 → MM Int32) (s2 : Int32) =>
  bd (ld 0 37) fun v3 =>
  (if (3 * v3) ≤ s2 then
  (gb2)
  else
  bd (la 18 s2) fun v28 =>
  bd (la 1 0) fun v29 =>
  jn (fun (a31 : Unit) =>
  lt (s2 + 3) fun y32 =>
  self1 y32) (fun j30 =>
  (if v28 = v29 then
  bd (la 18 (s2 + 1)) fun v33 =>
  bd (la 18 (s2 + 2)) fun v34 =>
  bd (sa 1 (3 + v33) v34) fun _ =>
  j30 ()
  else
  j30 ())))
def gb1 : MM Int32 := loopC 100000 (gb1B) 0
theorem gb_eq : gX11_goesBy =
  (gb1) := rfl
set_option maxHeartbeats 200000 in
theorem day3_h {H B A B1 : Bk} {th np nc nt : Nat} (hS : HS H B th np nc nt) (hn4 : nt ≤ 20) (hDR : DR H B th np nc nt A B1) : J2 (pd3 A) (gb3 B1) (fun r A' r' B' => r = r' ∧ DR H B th np nc nt A' B') := by
  unfold pd3 gb3
  refine loopJ nt (fun j s A t B' => s = t ∧ s.2 = nI j ∧ DR H B th np nc nt A B') _ (fun j s A t B' hj hI => ?_) (fun s A t B' hI f1 f2 => ?_) (by omega) (by omega) ⟨rfl, rfl, hDR⟩
  · obtain ⟨rfl, hs2, ks', wh', hI, hF⟩ := hI
    obtain ⟨cn, i⟩ := s
    subst hs2
    obtain ⟨⟨l0, l1, l2, l3, l4, l5, l6, l7, l8, l9, l10, l11, l12⟩, ⟨hn1, hn2, hn3, -⟩, ⟨p1, p2, p3, p4, p5, p6⟩, -, ⟨s1, s2, s3, s4, s5, s6, s7⟩, hod, -⟩ := HR_W hI
    have u0l : (B' 0).length = 68 := hI.2.2.2.1.1
    have u8 : (B' 0).getD 8 0 = nI nt := hI.2.2.2.1.2.2.2.2
    have e7 := s7 j (by omega)
    have m5 : (B' 5).length = 20 := by rw [← hod.2]; exact l9
    have e45 : (A 45).getD j 0 = (B' 5).getD j 0 := by rw [hod.2]
    have n1 : ¬ nt ≤ j := by omega
    by_cases hq1 : (B' 1).getD (163 + j) 0 = 0
    · by_cases hq2 : (B' 5).getD j 0 = (B' 1).getD 0 0
      · obtain ⟨r, H1, H2, B2, g1, g2, g3, g4, ks2, wh2, g5, g6⟩ := due_h hI hj
        rcases g4 with rfl | rfl
        · refine ⟨(cn, nI (j + 1)), _, (cn, nI (j + 1)), _, fun f => ?_, fun f => ?_, rfl, rfl, ks2, wh2, g5, HF_trans hF g6⟩
          · unfold pd3B
            simp (disch := first | omega | (simp only [up_ap, List.length_set, Nat.reduceEqDiff, reduceIte]; omega)) only [bd_pr, pr_ap, jn_eq, lt_eq, bd_bd, bd_ite, ite_ap, bd_ld, bd_sv, bd_la, bd_sa, bd_ln, bd_rz0, bd_rz1, rz_n0, rz_n1, e_lit2, nI_z, nI_eq0, nI_0eq, nI_le0, nI_lt0, nI_0lt, nI_0le, e_001, e_n10, e_n1lt, bd_la0, bd_sa0, bd_rz00, rz_0, rz_1, b2i_0, Int32.add_zero, Int32.zero_add, nI_add, nI_pred2, pk_sub, pk_mul, pk_div, e_nz, nI_eq, nI_leI, nI_ltI, e_nm1, e_nm2, up_ap, gd_set_ne, gd_set_same, List.length_set, Nat.add_sub_cancel, Nat.reduceEqDiff, Nat.reduceAdd, Nat.reduceMul, Nat.reduceSub, Nat.reduceLT, Nat.reduceLeDiff, reduceIte, Nat.not_lt_zero, not_true_eq_false, not_false_eq_true, and_true, true_and, and_false, false_and, p6, n1, e7, hq1, e45, p2, hq2]
            rw [bd_some g1, bd_some g2]
            simp (disch := first | omega | (simp only [up_ap, List.length_set, Nat.reduceEqDiff, reduceIte]; omega)) only [bd_pr, pr_ap, jn_eq, lt_eq, bd_bd, bd_ite, ite_ap, bd_ld, bd_sv, bd_la, bd_sa, bd_ln, bd_rz0, bd_rz1, rz_n0, rz_n1, e_lit2, nI_z, nI_eq0, nI_0eq, nI_le0, nI_lt0, nI_0lt, nI_0le, e_001, e_n10, e_n1lt, bd_la0, bd_sa0, bd_rz00, rz_0, rz_1, b2i_0, Int32.add_zero, Int32.zero_add, nI_add, nI_pred2, pk_sub, pk_mul, pk_div, e_nz, nI_eq, nI_leI, nI_ltI, e_nm1, e_nm2, up_ap, gd_set_ne, gd_set_same, List.length_set, Nat.add_sub_cancel, Nat.reduceEqDiff, Nat.reduceAdd, Nat.reduceMul, Nat.reduceSub, Nat.reduceLT, Nat.reduceLeDiff, reduceIte, Nat.not_lt_zero, not_true_eq_false, not_false_eq_true, and_true, true_and, and_false, false_and]
          · unfold gb3B
            simp (disch := first | omega | (simp only [up_ap, List.length_set, Nat.reduceEqDiff, reduceIte]; omega)) only [bd_pr, pr_ap, jn_eq, lt_eq, bd_bd, bd_ite, ite_ap, bd_ld, bd_sv, bd_la, bd_sa, bd_ln, bd_rz0, bd_rz1, rz_n0, rz_n1, e_lit2, nI_z, nI_eq0, nI_0eq, nI_le0, nI_lt0, nI_0lt, nI_0le, e_001, e_n10, e_n1lt, bd_la0, bd_sa0, bd_rz00, rz_0, rz_1, b2i_0, Int32.add_zero, Int32.zero_add, nI_add, nI_pred2, pk_sub, pk_mul, pk_div, e_nz, nI_eq, nI_leI, nI_ltI, e_nm1, e_nm2, up_ap, gd_set_ne, gd_set_same, List.length_set, Nat.add_sub_cancel, Nat.reduceEqDiff, Nat.reduceAdd, Nat.reduceMul, Nat.reduceSub, Nat.reduceLT, Nat.reduceLeDiff, reduceIte, Nat.not_lt_zero, not_true_eq_false, not_false_eq_true, and_true, true_and, and_false, false_and, gX11_isOpen, u8, n1, hq1, hq2, Nat_1_le_0]
            rw [bd_some g3]
            simp (disch := first | omega | (simp only [up_ap, List.length_set, Nat.reduceEqDiff, reduceIte]; omega)) only [bd_pr, pr_ap, jn_eq, lt_eq, bd_bd, bd_ite, ite_ap, bd_ld, bd_sv, bd_la, bd_sa, bd_ln, bd_rz0, bd_rz1, rz_n0, rz_n1, e_lit2, nI_z, nI_eq0, nI_0eq, nI_le0, nI_lt0, nI_0lt, nI_0le, e_001, e_n10, e_n1lt, bd_la0, bd_sa0, bd_rz00, rz_0, rz_1, b2i_0, Int32.add_zero, Int32.zero_add, nI_add, nI_pred2, pk_sub, pk_mul, pk_div, e_nz, nI_eq, nI_leI, nI_ltI, e_nm1, e_nm2, up_ap, gd_set_ne, gd_set_same, List.length_set, Nat.add_sub_cancel, Nat.reduceEqDiff, Nat.reduceAdd, Nat.reduceMul, Nat.reduceSub, Nat.reduceLT, Nat.reduceLeDiff, reduceIte, Nat.not_lt_zero, not_true_eq_false, not_false_eq_true, and_true, true_and, and_false, false_and]
        · refine ⟨(cn + nI 1, nI (j + 1)), _, (cn + nI 1, nI (j + 1)), _, fun f => ?_, fun f => ?_, rfl, rfl, ks2, wh2, g5, HF_trans hF g6⟩
          · unfold pd3B
            simp (disch := first | omega | (simp only [up_ap, List.length_set, Nat.reduceEqDiff, reduceIte]; omega)) only [bd_pr, pr_ap, jn_eq, lt_eq, bd_bd, bd_ite, ite_ap, bd_ld, bd_sv, bd_la, bd_sa, bd_ln, bd_rz0, bd_rz1, rz_n0, rz_n1, e_lit2, nI_z, nI_eq0, nI_0eq, nI_le0, nI_lt0, nI_0lt, nI_0le, e_001, e_n10, e_n1lt, bd_la0, bd_sa0, bd_rz00, rz_0, rz_1, b2i_0, Int32.add_zero, Int32.zero_add, nI_add, nI_pred2, pk_sub, pk_mul, pk_div, e_nz, nI_eq, nI_leI, nI_ltI, e_nm1, e_nm2, up_ap, gd_set_ne, gd_set_same, List.length_set, Nat.add_sub_cancel, Nat.reduceEqDiff, Nat.reduceAdd, Nat.reduceMul, Nat.reduceSub, Nat.reduceLT, Nat.reduceLeDiff, reduceIte, Nat.not_lt_zero, not_true_eq_false, not_false_eq_true, and_true, true_and, and_false, false_and, p6, n1, e7, hq1, e45, p2, hq2]
            rw [bd_some g1, bd_some g2]
            simp (disch := first | omega | (simp only [up_ap, List.length_set, Nat.reduceEqDiff, reduceIte]; omega)) only [bd_pr, pr_ap, jn_eq, lt_eq, bd_bd, bd_ite, ite_ap, bd_ld, bd_sv, bd_la, bd_sa, bd_ln, bd_rz0, bd_rz1, rz_n0, rz_n1, e_lit2, nI_z, nI_eq0, nI_0eq, nI_le0, nI_lt0, nI_0lt, nI_0le, e_001, e_n10, e_n1lt, bd_la0, bd_sa0, bd_rz00, rz_0, rz_1, b2i_0, Int32.add_zero, Int32.zero_add, nI_add, nI_pred2, pk_sub, pk_mul, pk_div, e_nz, nI_eq, nI_leI, nI_ltI, e_nm1, e_nm2, up_ap, gd_set_ne, gd_set_same, List.length_set, Nat.add_sub_cancel, Nat.reduceEqDiff, Nat.reduceAdd, Nat.reduceMul, Nat.reduceSub, Nat.reduceLT, Nat.reduceLeDiff, reduceIte, Nat.not_lt_zero, not_true_eq_false, not_false_eq_true, and_true, true_and, and_false, false_and, Nat_1_le_0]
          · unfold gb3B
            simp (disch := first | omega | (simp only [up_ap, List.length_set, Nat.reduceEqDiff, reduceIte]; omega)) only [bd_pr, pr_ap, jn_eq, lt_eq, bd_bd, bd_ite, ite_ap, bd_ld, bd_sv, bd_la, bd_sa, bd_ln, bd_rz0, bd_rz1, rz_n0, rz_n1, e_lit2, nI_z, nI_eq0, nI_0eq, nI_le0, nI_lt0, nI_0lt, nI_0le, e_001, e_n10, e_n1lt, bd_la0, bd_sa0, bd_rz00, rz_0, rz_1, b2i_0, Int32.add_zero, Int32.zero_add, nI_add, nI_pred2, pk_sub, pk_mul, pk_div, e_nz, nI_eq, nI_leI, nI_ltI, e_nm1, e_nm2, up_ap, gd_set_ne, gd_set_same, List.length_set, Nat.add_sub_cancel, Nat.reduceEqDiff, Nat.reduceAdd, Nat.reduceMul, Nat.reduceSub, Nat.reduceLT, Nat.reduceLeDiff, reduceIte, Nat.not_lt_zero, not_true_eq_false, not_false_eq_true, and_true, true_and, and_false, false_and, gX11_isOpen, u8, n1, hq1, hq2, Nat_1_le_0]
            rw [bd_some g3]
            simp (disch := first | omega | (simp only [up_ap, List.length_set, Nat.reduceEqDiff, reduceIte]; omega)) only [bd_pr, pr_ap, jn_eq, lt_eq, bd_bd, bd_ite, ite_ap, bd_ld, bd_sv, bd_la, bd_sa, bd_ln, bd_rz0, bd_rz1, rz_n0, rz_n1, e_lit2, nI_z, nI_eq0, nI_0eq, nI_le0, nI_lt0, nI_0lt, nI_0le, e_001, e_n10, e_n1lt, bd_la0, bd_sa0, bd_rz00, rz_0, rz_1, b2i_0, Int32.add_zero, Int32.zero_add, nI_add, nI_pred2, pk_sub, pk_mul, pk_div, e_nz, nI_eq, nI_leI, nI_ltI, e_nm1, e_nm2, up_ap, gd_set_ne, gd_set_same, List.length_set, Nat.add_sub_cancel, Nat.reduceEqDiff, Nat.reduceAdd, Nat.reduceMul, Nat.reduceSub, Nat.reduceLT, Nat.reduceLeDiff, reduceIte, Nat.not_lt_zero, not_true_eq_false, not_false_eq_true, and_true, true_and, and_false, false_and, Nat_1_le_0]
      · refine ⟨(cn, nI (j + 1)), _, (cn, nI (j + 1)), _, fun f => ?_, fun f => ?_, rfl, rfl, ks', wh', hI, hF⟩
        · unfold pd3B
          simp (disch := first | omega | (simp only [up_ap, List.length_set, Nat.reduceEqDiff, reduceIte]; omega)) only [bd_pr, pr_ap, jn_eq, lt_eq, bd_bd, bd_ite, ite_ap, bd_ld, bd_sv, bd_la, bd_sa, bd_ln, bd_rz0, bd_rz1, rz_n0, rz_n1, e_lit2, nI_z, nI_eq0, nI_0eq, nI_le0, nI_lt0, nI_0lt, nI_0le, e_001, e_n10, e_n1lt, bd_la0, bd_sa0, bd_rz00, rz_0, rz_1, b2i_0, Int32.add_zero, Int32.zero_add, nI_add, nI_pred2, pk_sub, pk_mul, pk_div, e_nz, nI_eq, nI_leI, nI_ltI, e_nm1, e_nm2, up_ap, gd_set_ne, gd_set_same, List.length_set, Nat.add_sub_cancel, Nat.reduceEqDiff, Nat.reduceAdd, Nat.reduceMul, Nat.reduceSub, Nat.reduceLT, Nat.reduceLeDiff, reduceIte, Nat.not_lt_zero, not_true_eq_false, not_false_eq_true, and_true, true_and, and_false, false_and, p6, n1, e7, hq1, e45, p2, hq2]
        · unfold gb3B
          simp (disch := first | omega | (simp only [up_ap, List.length_set, Nat.reduceEqDiff, reduceIte]; omega)) only [bd_pr, pr_ap, jn_eq, lt_eq, bd_bd, bd_ite, ite_ap, bd_ld, bd_sv, bd_la, bd_sa, bd_ln, bd_rz0, bd_rz1, rz_n0, rz_n1, e_lit2, nI_z, nI_eq0, nI_0eq, nI_le0, nI_lt0, nI_0lt, nI_0le, e_001, e_n10, e_n1lt, bd_la0, bd_sa0, bd_rz00, rz_0, rz_1, b2i_0, Int32.add_zero, Int32.zero_add, nI_add, nI_pred2, pk_sub, pk_mul, pk_div, e_nz, nI_eq, nI_leI, nI_ltI, e_nm1, e_nm2, up_ap, gd_set_ne, gd_set_same, List.length_set, Nat.add_sub_cancel, Nat.reduceEqDiff, Nat.reduceAdd, Nat.reduceMul, Nat.reduceSub, Nat.reduceLT, Nat.reduceLeDiff, reduceIte, Nat.not_lt_zero, not_true_eq_false, not_false_eq_true, and_true, true_and, and_false, false_and, gX11_isOpen, u8, n1, hq1, hq2, Nat_1_le_0]
    · refine ⟨(cn, nI (j + 1)), _, (cn, nI (j + 1)), _, fun f => ?_, fun f => ?_, rfl, rfl, ks', wh', hI, hF⟩
      · unfold pd3B
        simp (disch := first | omega | (simp only [up_ap, List.length_set, Nat.reduceEqDiff, reduceIte]; omega)) only [bd_pr, pr_ap, jn_eq, lt_eq, bd_bd, bd_ite, ite_ap, bd_ld, bd_sv, bd_la, bd_sa, bd_ln, bd_rz0, bd_rz1, rz_n0, rz_n1, e_lit2, nI_z, nI_eq0, nI_0eq, nI_le0, nI_lt0, nI_0lt, nI_0le, e_001, e_n10, e_n1lt, bd_la0, bd_sa0, bd_rz00, rz_0, rz_1, b2i_0, Int32.add_zero, Int32.zero_add, nI_add, nI_pred2, pk_sub, pk_mul, pk_div, e_nz, nI_eq, nI_leI, nI_ltI, e_nm1, e_nm2, up_ap, gd_set_ne, gd_set_same, List.length_set, Nat.add_sub_cancel, Nat.reduceEqDiff, Nat.reduceAdd, Nat.reduceMul, Nat.reduceSub, Nat.reduceLT, Nat.reduceLeDiff, reduceIte, Nat.not_lt_zero, not_true_eq_false, not_false_eq_true, and_true, true_and, and_false, false_and, p6, n1, e7, hq1]
      · unfold gb3B
        simp (disch := first | omega | (simp only [up_ap, List.length_set, Nat.reduceEqDiff, reduceIte]; omega)) only [bd_pr, pr_ap, jn_eq, lt_eq, bd_bd, bd_ite, ite_ap, bd_ld, bd_sv, bd_la, bd_sa, bd_ln, bd_rz0, bd_rz1, rz_n0, rz_n1, e_lit2, nI_z, nI_eq0, nI_0eq, nI_le0, nI_lt0, nI_0lt, nI_0le, e_001, e_n10, e_n1lt, bd_la0, bd_sa0, bd_rz00, rz_0, rz_1, b2i_0, Int32.add_zero, Int32.zero_add, nI_add, nI_pred2, pk_sub, pk_mul, pk_div, e_nz, nI_eq, nI_leI, nI_ltI, e_nm1, e_nm2, up_ap, gd_set_ne, gd_set_same, List.length_set, Nat.add_sub_cancel, Nat.reduceEqDiff, Nat.reduceAdd, Nat.reduceMul, Nat.reduceSub, Nat.reduceLT, Nat.reduceLeDiff, reduceIte, Nat.not_lt_zero, not_true_eq_false, not_false_eq_true, and_true, true_and, and_false, false_and, gX11_isOpen, u8, n1, hq1]
  · obtain ⟨rfl, hs2, ks', wh', hI, hF⟩ := hI
    obtain ⟨cn, i⟩ := s
    subst hs2
    obtain ⟨⟨l0, -⟩, ⟨hn1, -⟩, ⟨p1, p2, p3, p4, p5, p6⟩, -⟩ := HR_W hI
    have u0l : (B' 0).length = 68 := hI.2.2.2.1.1
    have u8 : (B' 0).getD 8 0 = nI nt := hI.2.2.2.1.2.2.2.2
    have hR : HR (up A 36 ((A 36).set 2 ((B' 1).getD 0 0 + nI 1))) (up B' 1 ((B' 1).set 0 ((B' 1).getD 0 0 + nI 1))) th np nc nt ks' wh' := HR_cell (k := 0) hI (by decide) (WR_day hI.1 _) (fun _ => by rw [gd_set_ne (by decide)]; exact hI.2.1.2)
    have hF2 : HF A (up A 36 ((A 36).set 2 ((B' 1).getD 0 0 + nI 1))) B' (up B' 1 ((B' 1).set 0 ((B' 1).getD 0 0 + nI 1))) := ⟨HG_trans (HG_H (k := 36) (by omega) List.length_set) (HG_B (Or.inl rfl) List.length_set), fun q => ⟨up_ne _ _ (by decide), by rw [up_same, gd_set_ne (by decide)]; exact q⟩⟩
    refine ⟨cn, _, cn, _, ?_, ?_, rfl, ks', wh', hR, HF_trans hF hF2⟩
    · unfold pd3B
      simp (disch := first | omega | (simp only [up_ap, List.length_set, Nat.reduceEqDiff, reduceIte]; omega)) only [bd_pr, pr_ap, jn_eq, lt_eq, bd_bd, bd_ite, ite_ap, bd_ld, bd_sv, bd_la, bd_sa, bd_ln, bd_rz0, bd_rz1, rz_n0, rz_n1, e_lit2, nI_z, nI_eq0, nI_0eq, nI_le0, nI_lt0, nI_0lt, nI_0le, e_001, e_n10, e_n1lt, bd_la0, bd_sa0, bd_rz00, rz_0, rz_1, b2i_0, Int32.add_zero, Int32.zero_add, nI_add, nI_pred2, pk_sub, pk_mul, pk_div, e_nz, nI_eq, nI_leI, nI_ltI, e_nm1, e_nm2, up_ap, gd_set_ne, gd_set_same, List.length_set, Nat.add_sub_cancel, Nat.reduceEqDiff, Nat.reduceAdd, Nat.reduceMul, Nat.reduceSub, Nat.reduceLT, Nat.reduceLeDiff, reduceIte, Nat.not_lt_zero, not_true_eq_false, not_false_eq_true, and_true, true_and, and_false, false_and, p6, Nat.le_refl, p2]
    · unfold gb3B
      simp (disch := first | omega | (simp only [up_ap, List.length_set, Nat.reduceEqDiff, reduceIte]; omega)) only [bd_pr, pr_ap, jn_eq, lt_eq, bd_bd, bd_ite, ite_ap, bd_ld, bd_sv, bd_la, bd_sa, bd_ln, bd_rz0, bd_rz1, rz_n0, rz_n1, e_lit2, nI_z, nI_eq0, nI_0eq, nI_le0, nI_lt0, nI_0lt, nI_0le, e_001, e_n10, e_n1lt, bd_la0, bd_sa0, bd_rz00, rz_0, rz_1, b2i_0, Int32.add_zero, Int32.zero_add, nI_add, nI_pred2, pk_sub, pk_mul, pk_div, e_nz, nI_eq, nI_leI, nI_ltI, e_nm1, e_nm2, up_ap, gd_set_ne, gd_set_same, List.length_set, Nat.add_sub_cancel, Nat.reduceEqDiff, Nat.reduceAdd, Nat.reduceMul, Nat.reduceSub, Nat.reduceLT, Nat.reduceLeDiff, reduceIte, Nat.not_lt_zero, not_true_eq_false, not_false_eq_true, and_true, true_and, and_false, false_and, u8, Nat.le_refl]
set_option maxHeartbeats 200000 in
theorem day2_h {H B A B1 : Bk} {th np nc nt : Nat} (hS : HS H B th np nc nt) (hn4 : nt ≤ 20) (hDR : DR H B th np nc nt A B1) : J2 (pd2 A) (gb2 B1) (fun r A' r' B' => r = r' ∧ DR H B th np nc nt A' B') := by
  obtain ⟨⟨b0, b5, b6, b7, b8⟩, -, ⟨hdl, nd, hnd, ed0, edm, ed⟩, -⟩ := id hS
  obtain ⟨d0, d1, d2, d3, d4, dd⟩ := hdl
  unfold pd2 gb2
  refine loopJ nd (fun j s A t B' => s = nI j ∧ t = nI (4 * j) ∧ DR H B th np nc nt A B') _ (fun j s A t B' hj hI => ?_) (fun s A t B' hI f1 f2 => ?_) (by omega) (by omega) ⟨rfl, rfl, hDR⟩
  · obtain ⟨rfl, rfl, ks', wh', hI, hF⟩ := hI
    have p2 := (HR_W hI).2.2.1.2.1
    have l0 := (HR_W hI).1.1
    have hn1 := (HR_W hI).2.1.1
    obtain ⟨x1, x2, x3, x4, w, a, b, hw4, ew, ea, eb, v0, v1, v2⟩ := ed j hj
    have y0 : A 10 = H 10 := hF.1.1 10 (by decide) (by decide) (by decide) (by decide)
    have y1 : A 11 = H 11 := hF.1.1 11 (by decide) (by decide) (by decide) (by decide)
    have y2 : A 12 = H 12 := hF.1.1 12 (by decide) (by decide) (by decide) (by decide)
    have y3 : A 13 = H 13 := hF.1.1 13 (by decide) (by decide) (by decide) (by decide)
    have y4 : A 14 = H 14 := hF.1.1 14 (by decide) (by decide) (by decide) (by decide)
    have z0 : B' 0 = B 0 := hF.1.2.2.2.1 0 (by decide) (by decide) (by decide) (by decide)
    have z17 : B' 17 = B 17 := hF.1.2.2.2.1 17 (by decide) (by decide) (by decide) (by decide)
    have t0 : (A 10).getD 0 0 = nI nd := by rw [y0]; exact ed0
    have t0l : (A 10).length = 5 := by rw [y0]; exact d0
    have t1l : (A 11).length = 16 := by rw [y1]; exact d1
    have t2l : (A 12).length = 16 := by rw [y2]; exact d2
    have t3l : (A 13).length = 16 := by rw [y3]; exact d3
    have t4l : (A 14).length = 16 := by rw [y4]; exact d4
    have t1 : (A 11).getD j 0 = (B 17).getD (4 * j) 0 := by rw [y1]; exact x1
    have t2 : (A 12).getD j 0 = nI w := by rw [y2]; exact x2.trans ew
    have t3 : (A 13).getD j 0 = nI a := by rw [y3]; exact x3.trans ea
    have t4 : (A 14).getD j 0 = nI b := by rw [y4]; exact x4.trans eb
    have u0l : (B' 0).length = 68 := by rw [z0]; exact b0
    have u0 : (B' 0).getD 35 0 = nI nd := by rw [z0]; exact edm
    have u17 : (B' 17).length = 128 := by rw [z17]; exact dd
    have n1 : ¬ nd ≤ j := by omega
    have n2 : ¬ 16 ≤ j := by omega
    have n3 : ¬ 4 * nd ≤ 4 * j := by omega
    have n4 : 4 * (j + 1) = 4 * j + 4 := by omega
    by_cases hq : (B 17).getD (4 * j) 0 = (B' 1).getD 0 0
    · obtain ⟨H', B2, g1, g2, ks2, wh2, g3, g4⟩ := does_h hI (fun _ => rfl) hw4 v0 v1 v2
      refine ⟨_, _, _, _, fun f => ?_, fun f => ?_, rfl, rfl, ks2, wh2, g3, HF_trans hF g4⟩
      · unfold pd2B
        simp (disch := first | omega | (simp only [up_ap, List.length_set, Nat.reduceEqDiff, reduceIte]; omega)) only [bd_pr, pr_ap, jn_eq, lt_eq, bd_bd, bd_ite, ite_ap, bd_ld, bd_sv, bd_la, bd_sa, bd_ln, bd_rz0, bd_rz1, rz_n0, rz_n1, e_lit2, nI_z, nI_eq0, nI_0eq, nI_le0, nI_lt0, nI_0lt, nI_0le, e_001, e_n10, e_n1lt, bd_la0, bd_sa0, bd_rz00, rz_0, rz_1, b2i_0, Int32.add_zero, Int32.zero_add, nI_add, nI_pred2, pk_sub, pk_mul, pk_div, e_nz, nI_eq, nI_leI, nI_ltI, e_nm1, e_nm2, up_ap, gd_set_ne, gd_set_same, List.length_set, Nat.add_sub_cancel, Nat.reduceEqDiff, Nat.reduceAdd, Nat.reduceMul, Nat.reduceSub, Nat.reduceLT, Nat.reduceLeDiff, reduceIte, Nat.not_lt_zero, not_true_eq_false, not_false_eq_true, and_true, true_and, and_false, false_and, t0, t1, t2, t3, t4, n1, n2, p2, hq]
        rw [bd_some g1]
      · unfold gb2B
        simp (disch := first | omega | (simp only [up_ap, List.length_set, Nat.reduceEqDiff, reduceIte]; omega)) only [bd_pr, pr_ap, jn_eq, lt_eq, bd_bd, bd_ite, ite_ap, bd_ld, bd_sv, bd_la, bd_sa, bd_ln, bd_rz0, bd_rz1, rz_n0, rz_n1, e_lit2, nI_z, nI_eq0, nI_0eq, nI_le0, nI_lt0, nI_0lt, nI_0le, e_001, e_n10, e_n1lt, bd_la0, bd_sa0, bd_rz00, rz_0, rz_1, b2i_0, Int32.add_zero, Int32.zero_add, nI_add, nI_pred2, pk_sub, pk_mul, pk_div, e_nz, nI_eq, nI_leI, nI_ltI, e_nm1, e_nm2, up_ap, gd_set_ne, gd_set_same, List.length_set, Nat.add_sub_cancel, Nat.reduceEqDiff, Nat.reduceAdd, Nat.reduceMul, Nat.reduceSub, Nat.reduceLT, Nat.reduceLeDiff, reduceIte, Nat.not_lt_zero, not_true_eq_false, not_false_eq_true, and_true, true_and, and_false, false_and, u0, n3, z17, hq, ew, ea, eb, n4]
        rw [bd_some g2]
    · refine ⟨_, _, _, _, fun f => ?_, fun f => ?_, rfl, rfl, ks', wh', hI, hF⟩
      · unfold pd2B
        simp (disch := first | omega | (simp only [up_ap, List.length_set, Nat.reduceEqDiff, reduceIte]; omega)) only [bd_pr, pr_ap, jn_eq, lt_eq, bd_bd, bd_ite, ite_ap, bd_ld, bd_sv, bd_la, bd_sa, bd_ln, bd_rz0, bd_rz1, rz_n0, rz_n1, e_lit2, nI_z, nI_eq0, nI_0eq, nI_le0, nI_lt0, nI_0lt, nI_0le, e_001, e_n10, e_n1lt, bd_la0, bd_sa0, bd_rz00, rz_0, rz_1, b2i_0, Int32.add_zero, Int32.zero_add, nI_add, nI_pred2, pk_sub, pk_mul, pk_div, e_nz, nI_eq, nI_leI, nI_ltI, e_nm1, e_nm2, up_ap, gd_set_ne, gd_set_same, List.length_set, Nat.add_sub_cancel, Nat.reduceEqDiff, Nat.reduceAdd, Nat.reduceMul, Nat.reduceSub, Nat.reduceLT, Nat.reduceLeDiff, reduceIte, Nat.not_lt_zero, not_true_eq_false, not_false_eq_true, and_true, true_and, and_false, false_and, t0, t1, n1, n2, p2, hq]
      · unfold gb2B
        simp (disch := first | omega | (simp only [up_ap, List.length_set, Nat.reduceEqDiff, reduceIte]; omega)) only [bd_pr, pr_ap, jn_eq, lt_eq, bd_bd, bd_ite, ite_ap, bd_ld, bd_sv, bd_la, bd_sa, bd_ln, bd_rz0, bd_rz1, rz_n0, rz_n1, e_lit2, nI_z, nI_eq0, nI_0eq, nI_le0, nI_lt0, nI_0lt, nI_0le, e_001, e_n10, e_n1lt, bd_la0, bd_sa0, bd_rz00, rz_0, rz_1, b2i_0, Int32.add_zero, Int32.zero_add, nI_add, nI_pred2, pk_sub, pk_mul, pk_div, e_nz, nI_eq, nI_leI, nI_ltI, e_nm1, e_nm2, up_ap, gd_set_ne, gd_set_same, List.length_set, Nat.add_sub_cancel, Nat.reduceEqDiff, Nat.reduceAdd, Nat.reduceMul, Nat.reduceSub, Nat.reduceLT, Nat.reduceLeDiff, reduceIte, Nat.not_lt_zero, not_true_eq_false, not_false_eq_true, and_true, true_and, and_false, false_and, u0, n3, z17, hq, n4]
  · obtain ⟨rfl, rfl, hDR⟩ := hI
    obtain ⟨ks', wh', hI, hF⟩ := id hDR
    have y0 : A 10 = H 10 := hF.1.1 10 (by decide) (by decide) (by decide) (by decide)
    have z0 : B' 0 = B 0 := hF.1.2.2.2.1 0 (by decide) (by decide) (by decide) (by decide)
    have t0 : (A 10).getD 0 0 = nI nd := by rw [y0]; exact ed0
    have t0l : (A 10).length = 5 := by rw [y0]; exact d0
    have u0l : (B' 0).length = 68 := by rw [z0]; exact b0
    have u0 : (B' 0).getD 35 0 = nI nd := by rw [z0]; exact edm
    have e1 : pd2B f1 (nI nd) A = pd3 A := by
      unfold pd2B
      simp (disch := first | omega | (simp only [up_ap, List.length_set, Nat.reduceEqDiff, reduceIte]; omega)) only [bd_pr, pr_ap, jn_eq, lt_eq, bd_bd, bd_ite, ite_ap, bd_ld, bd_sv, bd_la, bd_sa, bd_ln, bd_rz0, bd_rz1, rz_n0, rz_n1, e_lit2, nI_z, nI_eq0, nI_0eq, nI_le0, nI_lt0, nI_0lt, nI_0le, e_001, e_n10, e_n1lt, bd_la0, bd_sa0, bd_rz00, rz_0, rz_1, b2i_0, Int32.add_zero, Int32.zero_add, nI_add, nI_pred2, pk_sub, pk_mul, pk_div, e_nz, nI_eq, nI_leI, nI_ltI, e_nm1, e_nm2, up_ap, gd_set_ne, gd_set_same, List.length_set, Nat.add_sub_cancel, Nat.reduceEqDiff, Nat.reduceAdd, Nat.reduceMul, Nat.reduceSub, Nat.reduceLT, Nat.reduceLeDiff, reduceIte, Nat.not_lt_zero, not_true_eq_false, not_false_eq_true, and_true, true_and, and_false, false_and, t0, Nat.le_refl]
    have e2 : gb2B f2 (nI (4 * nd)) B' = gb3 B' := by
      unfold gb2B
      simp (disch := first | omega | (simp only [up_ap, List.length_set, Nat.reduceEqDiff, reduceIte]; omega)) only [bd_pr, pr_ap, jn_eq, lt_eq, bd_bd, bd_ite, ite_ap, bd_ld, bd_sv, bd_la, bd_sa, bd_ln, bd_rz0, bd_rz1, rz_n0, rz_n1, e_lit2, nI_z, nI_eq0, nI_0eq, nI_le0, nI_lt0, nI_0lt, nI_0le, e_001, e_n10, e_n1lt, bd_la0, bd_sa0, bd_rz00, rz_0, rz_1, b2i_0, Int32.add_zero, Int32.zero_add, nI_add, nI_pred2, pk_sub, pk_mul, pk_div, e_nz, nI_eq, nI_leI, nI_ltI, e_nm1, e_nm2, up_ap, gd_set_ne, gd_set_same, List.length_set, Nat.add_sub_cancel, Nat.reduceEqDiff, Nat.reduceAdd, Nat.reduceMul, Nat.reduceSub, Nat.reduceLT, Nat.reduceLeDiff, reduceIte, Nat.not_lt_zero, not_true_eq_false, not_false_eq_true, and_true, true_and, and_false, false_and, u0, Nat.le_refl]
    rw [e1, e2]
    exact day3_h hS hn4 hDR
set_option maxHeartbeats 200000 in
theorem day1_h {H B A B1 : Bk} {th np nc nt : Nat} (hS : HS H B th np nc nt) (hn4 : nt ≤ 20) (hDR : DR H B th np nc nt A B1) : J2 (pd1 A) (gb1 B1) (fun r A' r' B' => r = r' ∧ DR H B th np nc nt A' B') := by
  obtain ⟨⟨b0, b5, b6, b7, b8⟩, -, -, ⟨hml, nm, hnm, em0, emm, em⟩, -⟩ := id hS
  obtain ⟨m0, m1, m2, m3, m4, mm⟩ := hml
  unfold pd1 gb1
  refine loopJ nm (fun j s A t B' => s = nI j ∧ t = nI (3 * j) ∧ DR H B th np nc nt A B') _ (fun j s A t B' hj hI => ?_) (fun s A t B' hI f1 f2 => ?_) (by omega) (by omega) ⟨rfl, rfl, hDR⟩
  · obtain ⟨rfl, rfl, ks', wh', hI, hF⟩ := hI
    obtain ⟨⟨l0, l1, l2, l3, l4, l5, l6, l7, l8, l9, l10, l11, l12⟩, ⟨hn1, hn2, hn3, -⟩, ⟨p1, p2, p3, p4, p5, p6⟩, -⟩ := HR_W hI
    obtain ⟨x1, x2, x3, a, ha, ea⟩ := em j hj
    have y0 : A 15 = H 15 := hF.1.1 15 (by decide) (by decide) (by decide) (by decide)
    have y1 : A 16 = H 16 := hF.1.1 16 (by decide) (by decide) (by decide) (by decide)
    have y3 : A 18 = H 18 := hF.1.1 18 (by decide) (by decide) (by decide) (by decide)
    have y4 : A 19 = H 19 := hF.1.1 19 (by decide) (by decide) (by decide) (by decide)
    have z0 : B' 0 = B 0 := hF.1.2.2.2.1 0 (by decide) (by decide) (by decide) (by decide)
    have z18 : B' 18 = B 18 := hF.1.2.2.2.1 18 (by decide) (by decide) (by decide) (by decide)
    have t0 : (A 15).getD 0 0 = nI nm := by rw [y0]; exact em0
    have t0l : (A 15).length = 5 := by rw [y0]; exact m0
    have t1l : (A 16).length = 16 := by rw [y1]; exact m1
    have t3l : (A 18).length = 16 := by rw [y3]; exact m3
    have t4l : (A 19).length = 16 := by rw [y4]; exact m4
    have t1 : (A 16).getD j 0 = (B 18).getD (3 * j) 0 := by rw [y1]; exact x1
    have t3 : (A 18).getD j 0 = nI a := by rw [y3]; exact x2.trans ea
    have t4 : (A 19).getD j 0 = (B 18).getD (3 * j + 2) 0 := by rw [y4]; exact x3
    have u0l : (B' 0).length = 68 := by rw [z0]; exact b0
    have u0 : (B' 0).getD 37 0 = nI nm := by rw [z0]; exact emm
    have u18 : (B' 18).length = 96 := by rw [z18]; exact mm
    have n1 : ¬ nm ≤ j := by omega
    have n2 : ¬ 16 ≤ j := by omega
    have n3 : ¬ 3 * nm ≤ 3 * j := by omega
    have n4 : 3 * (j + 1) = 3 * j + 3 := by omega
    by_cases hq : (B 18).getD (3 * j) 0 = (B' 1).getD 0 0
    · have hR : HR (up A 37 ((A 37).set a ((B 18).getD (3 * j + 2) 0))) (up B' 1 ((B' 1).set (3 + a) ((B 18).getD (3 * j + 2) 0))) th np nc nt ks' wh' := HR_cell (k := 1) hI (by decide) (WR_mind hI.1 (show a < 12 by omega) _) (fun q => by omega)
      have hF2 : HF A (up A 37 ((A 37).set a ((B 18).getD (3 * j + 2) 0))) B' (up B' 1 ((B' 1).set (3 + a) ((B 18).getD (3 * j + 2) 0))) := HF_trans (HF_H (k := 37) (by omega) List.length_set) (HF_B (Or.inl rfl) List.length_set)
      have hpers : gX9_hasPerson (nI a) (fun i => A (rh12 i)) = some (nI 1, fun i => A (rh12 i)) := t_hasPerson (W := fun i => A (rh12 i)) l0 p4 ha (by omega)
      refine ⟨_, _, _, _, fun f => ?_, fun f => ?_, rfl, rfl, ks', wh', hR, HF_trans hF hF2⟩
      · unfold pd1B
        simp (disch := first | omega | (simp only [up_ap, List.length_set, Nat.reduceEqDiff, reduceIte]; omega)) only [bd_pr, pr_ap, jn_eq, lt_eq, bd_bd, bd_ite, ite_ap, bd_ld, bd_sv, bd_la, bd_sa, bd_ln, bd_rz0, bd_rz1, rz_n0, rz_n1, e_lit2, nI_z, nI_eq0, nI_0eq, nI_le0, nI_lt0, nI_0lt, nI_0le, e_001, e_n10, e_n1lt, bd_la0, bd_sa0, bd_rz00, rz_0, rz_1, b2i_0, Int32.add_zero, Int32.zero_add, nI_add, nI_pred2, pk_sub, pk_mul, pk_div, e_nz, nI_eq, nI_leI, nI_ltI, e_nm1, e_nm2, up_ap, gd_set_ne, gd_set_same, List.length_set, Nat.add_sub_cancel, Nat.reduceEqDiff, Nat.reduceAdd, Nat.reduceMul, Nat.reduceSub, Nat.reduceLT, Nat.reduceLeDiff, reduceIte, Nat.not_lt_zero, not_true_eq_false, not_false_eq_true, and_true, true_and, and_false, false_and, t0, t1, t3, t4, n1, n2, p2, hq]
        rw [bd_lf0 _ hpers]
        simp (disch := first | omega | (simp only [up_ap, List.length_set, Nat.reduceEqDiff, reduceIte]; omega)) only [bd_pr, pr_ap, jn_eq, lt_eq, bd_bd, bd_ite, ite_ap, bd_ld, bd_sv, bd_la, bd_sa, bd_ln, bd_rz0, bd_rz1, rz_n0, rz_n1, e_lit2, nI_z, nI_eq0, nI_0eq, nI_le0, nI_lt0, nI_0lt, nI_0le, e_001, e_n10, e_n1lt, bd_la0, bd_sa0, bd_rz00, rz_0, rz_1, b2i_0, Int32.add_zero, Int32.zero_add, nI_add, nI_pred2, pk_sub, pk_mul, pk_div, e_nz, nI_eq, nI_leI, nI_ltI, e_nm1, e_nm2, up_ap, gd_set_ne, gd_set_same, List.length_set, Nat.add_sub_cancel, Nat.reduceEqDiff, Nat.reduceAdd, Nat.reduceMul, Nat.reduceSub, Nat.reduceLT, Nat.reduceLeDiff, reduceIte, Nat.not_lt_zero, not_true_eq_false, not_false_eq_true, and_true, true_and, and_false, false_and, Nat_1_le_0, t4]
      · unfold gb1B
        simp (disch := first | omega | (simp only [up_ap, List.length_set, Nat.reduceEqDiff, reduceIte]; omega)) only [bd_pr, pr_ap, jn_eq, lt_eq, bd_bd, bd_ite, ite_ap, bd_ld, bd_sv, bd_la, bd_sa, bd_ln, bd_rz0, bd_rz1, rz_n0, rz_n1, e_lit2, nI_z, nI_eq0, nI_0eq, nI_le0, nI_lt0, nI_0lt, nI_0le, e_001, e_n10, e_n1lt, bd_la0, bd_sa0, bd_rz00, rz_0, rz_1, b2i_0, Int32.add_zero, Int32.zero_add, nI_add, nI_pred2, pk_sub, pk_mul, pk_div, e_nz, nI_eq, nI_leI, nI_ltI, e_nm1, e_nm2, up_ap, gd_set_ne, gd_set_same, List.length_set, Nat.add_sub_cancel, Nat.reduceEqDiff, Nat.reduceAdd, Nat.reduceMul, Nat.reduceSub, Nat.reduceLT, Nat.reduceLeDiff, reduceIte, Nat.not_lt_zero, not_true_eq_false, not_false_eq_true, and_true, true_and, and_false, false_and, u0, n3, z18, hq, ea, n4]
    · refine ⟨_, _, _, _, fun f => ?_, fun f => ?_, rfl, rfl, ks', wh', hI, hF⟩
      · unfold pd1B
        simp (disch := first | omega | (simp only [up_ap, List.length_set, Nat.reduceEqDiff, reduceIte]; omega)) only [bd_pr, pr_ap, jn_eq, lt_eq, bd_bd, bd_ite, ite_ap, bd_ld, bd_sv, bd_la, bd_sa, bd_ln, bd_rz0, bd_rz1, rz_n0, rz_n1, e_lit2, nI_z, nI_eq0, nI_0eq, nI_le0, nI_lt0, nI_0lt, nI_0le, e_001, e_n10, e_n1lt, bd_la0, bd_sa0, bd_rz00, rz_0, rz_1, b2i_0, Int32.add_zero, Int32.zero_add, nI_add, nI_pred2, pk_sub, pk_mul, pk_div, e_nz, nI_eq, nI_leI, nI_ltI, e_nm1, e_nm2, up_ap, gd_set_ne, gd_set_same, List.length_set, Nat.add_sub_cancel, Nat.reduceEqDiff, Nat.reduceAdd, Nat.reduceMul, Nat.reduceSub, Nat.reduceLT, Nat.reduceLeDiff, reduceIte, Nat.not_lt_zero, not_true_eq_false, not_false_eq_true, and_true, true_and, and_false, false_and, t0, t1, t3, t4, n1, n2, p2, hq]
      · unfold gb1B
        simp (disch := first | omega | (simp only [up_ap, List.length_set, Nat.reduceEqDiff, reduceIte]; omega)) only [bd_pr, pr_ap, jn_eq, lt_eq, bd_bd, bd_ite, ite_ap, bd_ld, bd_sv, bd_la, bd_sa, bd_ln, bd_rz0, bd_rz1, rz_n0, rz_n1, e_lit2, nI_z, nI_eq0, nI_0eq, nI_le0, nI_lt0, nI_0lt, nI_0le, e_001, e_n10, e_n1lt, bd_la0, bd_sa0, bd_rz00, rz_0, rz_1, b2i_0, Int32.add_zero, Int32.zero_add, nI_add, nI_pred2, pk_sub, pk_mul, pk_div, e_nz, nI_eq, nI_leI, nI_ltI, e_nm1, e_nm2, up_ap, gd_set_ne, gd_set_same, List.length_set, Nat.add_sub_cancel, Nat.reduceEqDiff, Nat.reduceAdd, Nat.reduceMul, Nat.reduceSub, Nat.reduceLT, Nat.reduceLeDiff, reduceIte, Nat.not_lt_zero, not_true_eq_false, not_false_eq_true, and_true, true_and, and_false, false_and, u0, n3, z18, hq, ea, n4]
  · obtain ⟨rfl, rfl, hDR⟩ := hI
    obtain ⟨ks', wh', hI, hF⟩ := id hDR
    have y0 : A 15 = H 15 := hF.1.1 15 (by decide) (by decide) (by decide) (by decide)
    have z0 : B' 0 = B 0 := hF.1.2.2.2.1 0 (by decide) (by decide) (by decide) (by decide)
    have t0 : (A 15).getD 0 0 = nI nm := by rw [y0]; exact em0
    have t0l : (A 15).length = 5 := by rw [y0]; exact m0
    have u0l : (B' 0).length = 68 := by rw [z0]; exact b0
    have u0 : (B' 0).getD 37 0 = nI nm := by rw [z0]; exact emm
    have e1 : pd1B f1 (nI nm) A = pd2 A := by
      unfold pd1B
      simp (disch := first | omega | (simp only [up_ap, List.length_set, Nat.reduceEqDiff, reduceIte]; omega)) only [bd_pr, pr_ap, jn_eq, lt_eq, bd_bd, bd_ite, ite_ap, bd_ld, bd_sv, bd_la, bd_sa, bd_ln, bd_rz0, bd_rz1, rz_n0, rz_n1, e_lit2, nI_z, nI_eq0, nI_0eq, nI_le0, nI_lt0, nI_0lt, nI_0le, e_001, e_n10, e_n1lt, bd_la0, bd_sa0, bd_rz00, rz_0, rz_1, b2i_0, Int32.add_zero, Int32.zero_add, nI_add, nI_pred2, pk_sub, pk_mul, pk_div, e_nz, nI_eq, nI_leI, nI_ltI, e_nm1, e_nm2, up_ap, gd_set_ne, gd_set_same, List.length_set, Nat.add_sub_cancel, Nat.reduceEqDiff, Nat.reduceAdd, Nat.reduceMul, Nat.reduceSub, Nat.reduceLT, Nat.reduceLeDiff, reduceIte, Nat.not_lt_zero, not_true_eq_false, not_false_eq_true, and_true, true_and, and_false, false_and, t0, Nat.le_refl]
    have e2 : gb1B f2 (nI (3 * nm)) B' = gb2 B' := by
      unfold gb1B
      simp (disch := first | omega | (simp only [up_ap, List.length_set, Nat.reduceEqDiff, reduceIte]; omega)) only [bd_pr, pr_ap, jn_eq, lt_eq, bd_bd, bd_ite, ite_ap, bd_ld, bd_sv, bd_la, bd_sa, bd_ln, bd_rz0, bd_rz1, rz_n0, rz_n1, e_lit2, nI_z, nI_eq0, nI_0eq, nI_le0, nI_lt0, nI_0lt, nI_0le, e_001, e_n10, e_n1lt, bd_la0, bd_sa0, bd_rz00, rz_0, rz_1, b2i_0, Int32.add_zero, Int32.zero_add, nI_add, nI_pred2, pk_sub, pk_mul, pk_div, e_nz, nI_eq, nI_leI, nI_ltI, e_nm1, e_nm2, up_ap, gd_set_ne, gd_set_same, List.length_set, Nat.add_sub_cancel, Nat.reduceEqDiff, Nat.reduceAdd, Nat.reduceMul, Nat.reduceSub, Nat.reduceLT, Nat.reduceLeDiff, reduceIte, Nat.not_lt_zero, not_true_eq_false, not_false_eq_true, and_true, true_and, and_false, false_and, u0, Nat.le_refl]
    rw [e1, e2]
    exact day2_h hS hn4 hDR
theorem day_h {H B : Bk} {th np nc nt : Nat} {ks : Nat → List Nat} {wh : Nat → Nat} (h : HR H B th np nc nt ks wh) : ∃ r H' B', gX1_passDay H = some (r, H') ∧ gX11_goesBy B = some (r, B') ∧ DR H B th np nc nt H' B' := by
  have key : J2 (gX1_passDay H) (gX11_goesBy B) (fun r A' r' B' => r = r' ∧ DR H B th np nc nt A' B') := day1_h h.2.2.2 h.1.2.1.2.2.2 ⟨ks, wh, h, HF_rfl _ _⟩
  obtain ⟨r, A', r', B', g1, g2, rfl, g3⟩ := key
  exact ⟨r, A', B', g1, g2, g3⟩
