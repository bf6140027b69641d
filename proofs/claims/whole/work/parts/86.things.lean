/-! PURE: cloths, things, what is set by hand -/
theorem p_addCloth {W : Bk} {np nc p : Nat} (hl : WL W) (hc : nc < 14) (hp : p < np) (hnp : np ≤ 12) (p4 : (W 0).getD 4 0 = nI np) (p5 : (W 0).getD 5 0 = nI nc) : gX9_addCloth (nI p) W = some (nI nc, up (up (up (up W 4 ((W 4).set nc (nI p))) 5 ((W 5).set nc (nI 0))) 6 ((W 6).set nc (nI 0))) 0 ((W 0).set 5 (nI (nc + 1)))) := by
  obtain ⟨l0, l1, l2, l3, l4, l5, l6, l7, l8, l9, l10, l11, l12⟩ := hl
  unfold gX9_addCloth
  rw [bd_some (t_hasPerson l0 p4 hp (by omega))]
  simp (disch := first | omega | (simp only [up_ap, List.length_set, Nat.reduceEqDiff, reduceIte]; omega)) only [bd_pr, pr_ap, jn_eq, lt_eq, bd_bd, bd_ite, ite_ap, bd_ld, bd_sv, bd_la, bd_sa, bd_ln, bd_rz0, bd_rz1, rz_n0, rz_n1, e_lit2, nI_z, nI_eq0, nI_0eq, nI_le0, nI_lt0, nI_0lt, nI_0le, e_001, e_n10, e_n1lt, bd_la0, bd_sa0, bd_rz00, rz_0, rz_1, b2i_0, Int32.add_zero, Int32.zero_add, nI_add, nI_pred2, pk_sub, pk_mul, pk_div, e_nz, nI_eq, nI_leI, nI_ltI, e_nm1, e_nm2, up_ap, gd_set_ne, gd_set_same, List.length_set, Nat.add_sub_cancel, Nat.reduceEqDiff, Nat.reduceAdd, Nat.reduceMul, Nat.reduceSub, Nat.reduceLT, Nat.reduceLeDiff, reduceIte, Nat.not_lt_zero, not_true_eq_false, not_false_eq_true, and_true, true_and, and_false, false_and, Nat_1_le_0, p5, hc]
theorem p_addThing {W : Bk} {np nt p d : Nat} (hl : WL W) (hc : nt < 20) (hp : p < np) (hnp : np ≤ 12) (p4 : (W 0).getD 4 0 = nI np) (p6 : (W 0).getD 6 0 = nI nt) : gX9_addThing (nI p) (nI d) W = some (nI nt, up (up (up (up (up (up W 8 ((W 8).set nt (nI p))) 9 ((W 9).set nt (nI d))) 10 ((W 10).set nt (-nI 1))) 11 ((W 11).set nt (nI 0))) 12 ((W 12).set nt (nI 0))) 0 ((W 0).set 6 (nI (nt + 1)))) := by
  obtain ⟨l0, l1, l2, l3, l4, l5, l6, l7, l8, l9, l10, l11, l12⟩ := hl
  unfold gX9_addThing
  rw [bd_some (t_hasPerson l0 p4 hp (by omega))]
  simp (disch := first | omega | (simp only [up_ap, List.length_set, Nat.reduceEqDiff, reduceIte]; omega)) only [bd_pr, pr_ap, jn_eq, lt_eq, bd_bd, bd_ite, ite_ap, bd_ld, bd_sv, bd_la, bd_sa, bd_ln, bd_rz0, bd_rz1, rz_n0, rz_n1, e_lit2, nI_z, nI_eq0, nI_0eq, nI_le0, nI_lt0, nI_0lt, nI_0le, e_001, e_n10, e_n1lt, bd_la0, bd_sa0, bd_rz00, rz_0, rz_1, b2i_0, Int32.add_zero, Int32.zero_add, nI_add, nI_pred2, pk_sub, pk_mul, pk_div, e_nz, nI_eq, nI_leI, nI_ltI, e_nm1, e_nm2, up_ap, gd_set_ne, gd_set_same, List.length_set, Nat.add_sub_cancel, Nat.reduceEqDiff, Nat.reduceAdd, Nat.reduceMul, Nat.reduceSub, Nat.reduceLT, Nat.reduceLeDiff, reduceIte, Nat.not_lt_zero, not_true_eq_false, not_false_eq_true, and_true, true_and, and_false, false_and, Nat_1_le_0, p6, hc]
/-- the reference's row with the four knots of a new cloth taken out -/
def ck4 (c : Nat) (w : List Int32) : Nat → List Int32 := fo (fun i x => x.set (67 + 4 * c + i) 0) w
theorem ck4_len (c : Nat) (w : List Int32) (n : Nat) : (ck4 c w n).length = w.length := fo_len (fun i x => List.length_set) w n
theorem ck4_get (c : Nat) (w : List Int32) (hw : 71 + 4 * c ≤ w.length) : ∀ n, n ≤ 4 → ∀ q, (ck4 c w n).getD q 0 = if 67 + 4 * c ≤ q ∧ q < 67 + 4 * c + n then 0 else w.getD q 0
  | 0, _, q => by rw [if_neg (by omega)]; rfl
  | n + 1, hn, q => by
    have hl := ck4_len c w n
    show ((ck4 c w n).set (67 + 4 * c + n) 0).getD q 0 = _
    by_cases hq : q = 67 + 4 * c + n
    · subst hq
      rw [gd_set_same (by omega), if_pos (by omega)]
    · rw [gd_set_ne (fun z => hq z.symm), ck4_get c w hw n (by omega)]
      by_cases h4 : 67 + 4 * c ≤ q ∧ q < 67 + 4 * c + n
      · rw [if_pos h4, if_pos (by omega)]
      · rw [if_neg h4, if_neg (by omega)]
def mc1B : (Int32 → MM Int32) → Int32 → MM Int32 := fun (self7 : Int32 → MM Int32) (s8 : Int32) =>
  (if 4 ≤ s8 then
  bd (ld 0 7) fun v9 =>
  bd (sv 0 7 (v9 + 1)) fun _ =>
  bd (sv 0 3 0) fun _ =>
  bd (ld 0 7) fun v10 =>
  pr (v10 - 1)
  else
  bd (ld 0 7) fun v11 =>
  bd (sa 1 ((67 + (4 * v11)) + s8) 0) fun _ =>
  lt (s8 + 1) fun y12 =>
  self7 y12)
def mc1 : MM Int32 := loopC 100000 (mc1B) 0
theorem mc_eq (x1 : Int32) : gX11_cloth x1 =
  bd (sv 0 0 0) fun _ =>
  bd (gX11_isPerson x1) fun r1 =>
  jn (fun (a3 : Unit) =>
  pr ((-1))) (fun j2 =>
  (if r1 = 0 then
  j2 ()
  else
  bd (ld 0 7) fun v4 =>
  (if v4 = 14 then
  j2 ()
  else
  bd (ld 0 7) fun v5 =>
  bd (sa 1 (39 + v5) x1) fun _ =>
  bd (ld 0 7) fun v6 =>
  bd (sa 1 (53 + v6) 0) fun _ =>
  (mc1)))) := rfl
set_option maxHeartbeats 400000 in
theorem op_cloth {A B : Bk} (h : R A B) (x : Int32) : ∃ r A' B', gX10_cloth x A = some (r, A') ∧ gX11_cloth x B = some (r, B') ∧ R A' B' := by
  have hb0 := R_B0 h
  have hRt := R_told h
  obtain ⟨⟨np, nc, nt, ks, wh, hH, hU⟩, -⟩ := id h
  obtain ⟨hW, hw0⟩ := R_W hH
  have hau : (A 0).length = 10 := hU.1
  obtain ⟨hl, ⟨hn1, hn2, hn3, hn4⟩, ⟨p1, p2, p3, p4, p5, p6⟩, he, ⟨s1, s2, s3, s4, s5, s6, s7⟩, hod, ho, hd, hw, ⟨k1, k2, k3⟩⟩ := id hW
  obtain ⟨l0, l1, l2, l3, l4, l5, l6, l7, l8, l9, l10, l11, l12⟩ := id hl
  have b6 : (B 0).getD 6 0 = nI np := hH.1.2.2.2.1.2.2.1
  have b7 : (B 0).getD 7 0 = nI nc := hH.1.2.2.2.1.2.2.2.1
  have b8 : (B 0).getD 8 0 = nI nt := hH.1.2.2.2.1.2.2.2.2
  have m4 : (B 4).length = 20 := by rw [← hod.1]; exact l8
  have m5 : (B 5).length = 20 := by rw [← hod.2]; exact l9
  by_cases hx : 0 ≤ x ∧ x < nI np
  · obtain ⟨p, hp, rfl⟩ := in_rng (by omega) hx
    have hbp : ∀ z : List Int32, gX11_isPerson (nI p) (up B 0 ((B 0).set 0 0)) = some (nI 1, up B 0 ((B 0).set 0 0)) := fun _ => t_isPerson (W := up B 0 ((B 0).set 0 0)) (by rw [up_same, List.length_set]; exact hb0) (by rw [up_same, gd_set_ne (by decide)]; exact b6) hp (by omega)
    by_cases hf : nc = 14
    · have g1 : lf rh23 13 (gX9_addCloth (nI p)) A = some (-nI 1, A) := by
        have e : ∀ W : Bk, WL W → (W 0).getD 4 0 = nI np → (W 0).getD 5 0 = nI nc → gX9_addCloth (nI p) W = some (-nI 1, W) := fun W w0 w4 w5 => by
          have l0 := w0.1
          unfold gX9_addCloth
          rw [bd_some (t_hasPerson l0 w4 hp (by omega))]
          simp (disch := first | omega | (simp only [up_ap, List.length_set, Nat.reduceEqDiff, reduceIte]; omega)) only [bd_pr, pr_ap, jn_eq, lt_eq, bd_bd, bd_ite, ite_ap, bd_ld, bd_sv, bd_la, bd_sa, bd_ln, bd_rz0, bd_rz1, rz_n0, rz_n1, e_lit2, nI_z, nI_eq0, nI_0eq, nI_le0, nI_lt0, nI_0lt, nI_0le, e_001, e_n10, e_n1lt, bd_la0, bd_sa0, bd_rz00, rz_0, rz_1, b2i_0, Int32.add_zero, Int32.zero_add, nI_add, nI_pred2, pk_sub, pk_mul, pk_div, e_nz, nI_eq, nI_leI, nI_ltI, e_nm1, e_nm2, up_ap, gd_set_ne, gd_set_same, List.length_set, Nat.add_sub_cancel, Nat.reduceEqDiff, Nat.reduceAdd, Nat.reduceMul, Nat.reduceSub, Nat.reduceLT, Nat.reduceLeDiff, reduceIte, Nat.not_lt_zero, not_true_eq_false, not_false_eq_true, and_true, true_and, and_false, false_and, Nat_1_le_0, w5, hf]
        rw [lf_run (e _ hl p4 p5), pu_self]
      refine ⟨-nI 1, A, _, ?_, ?_, hRt⟩
      · unfold gX10_cloth
        rw [bd_some g1]
        simp (disch := first | omega | (simp only [up_ap, List.length_set, Nat.reduceEqDiff, reduceIte]; omega)) only [bd_pr, pr_ap, jn_eq, lt_eq, bd_bd, bd_ite, ite_ap, bd_ld, bd_sv, bd_la, bd_sa, bd_ln, bd_rz0, bd_rz1, rz_n0, rz_n1, e_lit2, nI_z, nI_eq0, nI_0eq, nI_le0, nI_lt0, nI_0lt, nI_0le, e_001, e_n10, e_n1lt, bd_la0, bd_sa0, bd_rz00, rz_0, rz_1, b2i_0, Int32.add_zero, Int32.zero_add, nI_add, nI_pred2, pk_sub, pk_mul, pk_div, e_nz, nI_eq, nI_leI, nI_ltI, e_nm1, e_nm2, up_ap, gd_set_ne, gd_set_same, List.length_set, Nat.add_sub_cancel, Nat.reduceEqDiff, Nat.reduceAdd, Nat.reduceMul, Nat.reduceSub, Nat.reduceLT, Nat.reduceLeDiff, reduceIte, Nat.not_lt_zero, not_true_eq_false, not_false_eq_true, and_true, true_and, and_false, false_and, gX10_forgetUndosFor]
      · unfold gX11_cloth
        rw [told0 _ hb0, bd_some (hbp [])]
        simp (disch := first | omega | (simp only [up_ap, List.length_set, Nat.reduceEqDiff, reduceIte]; omega)) only [bd_pr, pr_ap, jn_eq, lt_eq, bd_bd, bd_ite, ite_ap, bd_ld, bd_sv, bd_la, bd_sa, bd_ln, bd_rz0, bd_rz1, rz_n0, rz_n1, e_lit2, nI_z, nI_eq0, nI_0eq, nI_le0, nI_lt0, nI_0lt, nI_0le, e_001, e_n10, e_n1lt, bd_la0, bd_sa0, bd_rz00, rz_0, rz_1, b2i_0, Int32.add_zero, Int32.zero_add, nI_add, nI_pred2, pk_sub, pk_mul, pk_div, e_nz, nI_eq, nI_leI, nI_ltI, e_nm1, e_nm2, up_ap, gd_set_ne, gd_set_same, List.length_set, Nat.add_sub_cancel, Nat.reduceEqDiff, Nat.reduceAdd, Nat.reduceMul, Nat.reduceSub, Nat.reduceLT, Nat.reduceLeDiff, reduceIte, Nat.not_lt_zero, not_true_eq_false, not_false_eq_true, and_true, true_and, and_false, false_and, Nat_1_le_0, b7, hf]
    · have hc : nc < 14 := by omega
      obtain ⟨W', hW'⟩ : ∃ W', W' = up (up (up (up (fun i => A (rh23 i)) 4 ((A 6).set nc (nI p))) 5 ((A 7).set nc (nI 0))) 6 ((A 8).set nc (nI 0))) 0 ((A 2).set 5 (nI (nc + 1))) := ⟨_, rfl⟩
      have g1 : lf rh23 13 (gX9_addCloth (nI p)) A = some (nI nc, pu rh23 13 W' A) := by
        rw [lf_run (p_addCloth (W := fun i => A (rh23 i)) hl hc hp hn2 p4 p5), hW']; rfl
      obtain ⟨nw, hnw⟩ : ∃ nw, nw = ck4 nc (((B 1).set (39 + nc) (nI p)).set (53 + nc) 0) 4 := ⟨_, rfl⟩
      have hnl : nw.length = 183 := by rw [hnw, ck4_len]; simp only [List.length_set]; exact hn1
      have hWR : WR W' nw (B 4) (B 5) np (nc + 1) nt (fun x => if x = nc then [] else ks x) wh := by
        rw [hW']
        refine WR_cloth hW hc hp hnl (fun k => ?_)
        rw [hnw, ck4_get _ _ (by simp only [List.length_set]; omega) 4 (by omega)]
        by_cases q3 : 67 + 4 * nc ≤ k ∧ k < 67 + 4 * nc + 4
        · rw [if_pos q3, if_neg (by omega), if_neg (by omega), if_pos (by omega)]; rfl
        · rw [if_neg q3]
          by_cases q1 : k = 39 + nc
          · rw [if_pos q1, q1, gd_set_ne (by omega), gd_set_same (by omega)]
          · rw [if_neg q1]
            by_cases q2 : k = 53 + nc
            · rw [if_pos q2, q2, gd_set_same (by rw [List.length_set]; omega)]; rfl
            · rw [if_neg q2, if_neg (by omega), gd_set_ne (by omega), gd_set_ne (by omega)]
      have hpu0 : pu rh23 13 W' A 0 = A 0 := pu_out (fun i hi => by rw [rh23_v i hi]; omega) _ _
      refine ⟨nI nc, up (pu rh23 13 W' A) 0 ((A 0).set 5 0), up (up B 1 nw) 0 ((((B 0).set 0 0).set 7 (nI (nc + 1))).set 3 0), ?_, ?_, ?_⟩
      · unfold gX10_cloth
        rw [bd_some g1]
        simp (disch := first | omega | (simp only [up_ap, List.length_set, Nat.reduceEqDiff, reduceIte, hpu0]; omega)) only [bd_pr, pr_ap, jn_eq, lt_eq, bd_bd, bd_ite, ite_ap, bd_ld, bd_sv, bd_la, bd_sa, bd_ln, bd_rz0, bd_rz1, rz_n0, rz_n1, e_lit2, nI_z, nI_eq0, nI_0eq, nI_le0, nI_lt0, nI_0lt, nI_0le, e_001, e_n10, e_n1lt, bd_la0, bd_sa0, bd_rz00, rz_0, rz_1, b2i_0, Int32.add_zero, Int32.zero_add, nI_add, nI_pred2, pk_sub, pk_mul, pk_div, e_nz, nI_eq, nI_leI, nI_ltI, e_nm1, e_nm2, up_ap, gd_set_ne, gd_set_same, List.length_set, Nat.add_sub_cancel, Nat.reduceEqDiff, Nat.reduceAdd, Nat.reduceMul, Nat.reduceSub, Nat.reduceLT, Nat.reduceLeDiff, reduceIte, Nat.not_lt_zero, not_true_eq_false, not_false_eq_true, and_true, true_and, and_false, false_and, gX10_forgetUndosFor, hpu0]
      · rw [mc_eq, told0 _ hb0, bd_some (hbp [])]
        simp (disch := first | omega | (simp only [up_ap, List.length_set, Nat.reduceEqDiff, reduceIte]; omega)) only [bd_pr, pr_ap, jn_eq, lt_eq, bd_bd, bd_ite, ite_ap, bd_ld, bd_sv, bd_la, bd_sa, bd_ln, bd_rz0, bd_rz1, rz_n0, rz_n1, e_lit2, nI_z, nI_eq0, nI_0eq, nI_le0, nI_lt0, nI_0lt, nI_0le, e_001, e_n10, e_n1lt, bd_la0, bd_sa0, bd_rz00, rz_0, rz_1, b2i_0, Int32.add_zero, Int32.zero_add, nI_add, nI_pred2, pk_sub, pk_mul, pk_div, e_nz, nI_eq, nI_leI, nI_ltI, e_nm1, e_nm2, up_ap, gd_set_ne, gd_set_same, List.length_set, Nat.add_sub_cancel, Nat.reduceEqDiff, Nat.reduceAdd, Nat.reduceMul, Nat.reduceSub, Nat.reduceLT, Nat.reduceLeDiff, reduceIte, Nat.not_lt_zero, not_true_eq_false, not_false_eq_true, and_true, true_and, and_false, false_and, Nat_1_le_0, b7, hf, up_up]
        unfold mc1
        refine loopF 4 (fun j => nI j) (fun j => up (up B 0 ((B 0).set 0 0)) 1 (ck4 nc (((B 1).set (39 + nc) (nI p)).set (53 + nc) 0) j)) rfl rfl (fun j hj self => ?_) (fun self => ?_) (by omega)
        · have hl4 := ck4_len nc (((B 1).set (39 + nc) (nI p)).set (53 + nc) 0) j
          simp only [List.length_set] at hl4
          have n4 : ¬ 4 ≤ j := by omega
          have e : ck4 nc (((B 1).set (39 + nc) (nI p)).set (53 + nc) 0) (j + 1) = (ck4 nc (((B 1).set (39 + nc) (nI p)).set (53 + nc) 0) j).set (67 + 4 * nc + j) 0 := rfl
          rw [e]
          unfold mc1B
          simp (disch := first | omega | (simp only [up_ap, List.length_set, Nat.reduceEqDiff, reduceIte, hl4]; omega)) only [bd_pr, pr_ap, jn_eq, lt_eq, bd_bd, bd_ite, ite_ap, bd_ld, bd_sv, bd_la, bd_sa, bd_ln, bd_rz0, bd_rz1, rz_n0, rz_n1, e_lit2, nI_z, nI_eq0, nI_0eq, nI_le0, nI_lt0, nI_0lt, nI_0le, e_001, e_n10, e_n1lt, bd_la0, bd_sa0, bd_rz00, rz_0, rz_1, b2i_0, Int32.add_zero, Int32.zero_add, nI_add, nI_pred2, pk_sub, pk_mul, pk_div, e_nz, nI_eq, nI_leI, nI_ltI, e_nm1, e_nm2, up_ap, gd_set_ne, gd_set_same, List.length_set, Nat.add_sub_cancel, Nat.reduceEqDiff, Nat.reduceAdd, Nat.reduceMul, Nat.reduceSub, Nat.reduceLT, Nat.reduceLeDiff, reduceIte, Nat.not_lt_zero, not_true_eq_false, not_false_eq_true, and_true, true_and, and_false, false_and, n4, b7, up_up]
        · unfold mc1B
          simp (disch := first | omega | (simp only [up_ap, List.length_set, Nat.reduceEqDiff, reduceIte]; omega)) only [bd_pr, pr_ap, jn_eq, lt_eq, bd_bd, bd_ite, ite_ap, bd_ld, bd_sv, bd_la, bd_sa, bd_ln, bd_rz0, bd_rz1, rz_n0, rz_n1, e_lit2, nI_z, nI_eq0, nI_0eq, nI_le0, nI_lt0, nI_0lt, nI_0le, e_001, e_n10, e_n1lt, bd_la0, bd_sa0, bd_rz00, rz_0, rz_1, b2i_0, Int32.add_zero, Int32.zero_add, nI_add, nI_pred2, pk_sub, pk_mul, pk_div, e_nz, nI_eq, nI_leI, nI_ltI, e_nm1, e_nm2, up_ap, gd_set_ne, gd_set_same, List.length_set, Nat.add_sub_cancel, Nat.reduceEqDiff, Nat.reduceAdd, Nat.reduceMul, Nat.reduceSub, Nat.reduceLT, Nat.reduceLeDiff, reduceIte, Nat.not_lt_zero, not_true_eq_false, not_false_eq_true, and_true, true_and, and_false, false_and, b7, up_up, Nat.le_refl]
          rw [up_comm B (i := 0) (j := 1) (by decide), hnw]
          simp (disch := first | omega | (simp only [up_ap, List.length_set, Nat.reduceEqDiff, reduceIte]; omega)) only [bd_pr, pr_ap, jn_eq, lt_eq, bd_bd, bd_ite, ite_ap, bd_ld, bd_sv, bd_la, bd_sa, bd_ln, bd_rz0, bd_rz1, rz_n0, rz_n1, e_lit2, nI_z, nI_eq0, nI_0eq, nI_le0, nI_lt0, nI_0lt, nI_0le, e_001, e_n10, e_n1lt, bd_la0, bd_sa0, bd_rz00, rz_0, rz_1, b2i_0, Int32.add_zero, Int32.zero_add, nI_add, nI_pred2, pk_sub, pk_mul, pk_div, e_nz, nI_eq, nI_leI, nI_ltI, e_nm1, e_nm2, up_ap, gd_set_ne, gd_set_same, List.length_set, Nat.add_sub_cancel, Nat.reduceEqDiff, Nat.reduceAdd, Nat.reduceMul, Nat.reduceSub, Nat.reduceLT, Nat.reduceLeDiff, reduceIte, Nat.not_lt_zero, not_true_eq_false, not_false_eq_true, and_true, true_and, and_false, false_and, up_up]
      · refine R_W0 h hH hU (Nat.le_refl _) (by omega) (Nat.le_refl _) (B' := up (up B 1 nw) 0 ((((B 0).set 0 0).set 7 (nI (nc + 1))).set 3 0)) hWR (by rw [hW', up_same, gd_set_ne (by decide)]; exact hw0) (fun i a b c d e => by simp only [up_ap, if_neg b, if_neg c, if_neg d, if_neg e]) (by rw [up_same]; simp only [List.length_set]; exact hb0) (fun s hs => ?_) (by rw [up_same, gd_set_same (by simp only [List.length_set]; omega)]) ?_ ?_ ?_
        · rw [up_same, gd_set_ne (fun q => by subst q; exact absurd hs (by decide)), gd_set_ne (fun q => by subst q; exact absurd hs (by decide)), gd_set_ne (fun q => by subst q; exact absurd hs (by decide))]
        · rw [up_same, gd_set_ne (by decide), gd_set_ne (by decide), gd_set_ne (by decide)]; exact b6
        · rw [up_same, gd_set_ne (by decide), gd_set_same (by simp only [List.length_set]; omega)]
        · rw [up_same, gd_set_ne (by decide), gd_set_ne (by decide), gd_set_ne (by decide)]; exact b8
  · have g1 : lf rh23 13 (gX9_addCloth x) A = some (-nI 1, A) := by
      have e : ∀ W : Bk, (W 0).length = 19 → (W 0).getD 4 0 = nI np → gX9_addCloth x W = some (-nI 1, W) := fun W w0 w4 => by
        unfold gX9_addCloth
        rw [bd_some (f_hasPerson w0 w4 hx)]
        simp (disch := first | omega | (simp only [up_ap, List.length_set, Nat.reduceEqDiff, reduceIte]; omega)) only [bd_pr, pr_ap, jn_eq, lt_eq, bd_bd, bd_ite, ite_ap, bd_ld, bd_sv, bd_la, bd_sa, bd_ln, bd_rz0, bd_rz1, rz_n0, rz_n1, e_lit2, nI_z, nI_eq0, nI_0eq, nI_le0, nI_lt0, nI_0lt, nI_0le, e_001, e_n10, e_n1lt, bd_la0, bd_sa0, bd_rz00, rz_0, rz_1, b2i_0, Int32.add_zero, Int32.zero_add, nI_add, nI_pred2, pk_sub, pk_mul, pk_div, e_nz, nI_eq, nI_leI, nI_ltI, e_nm1, e_nm2, up_ap, gd_set_ne, gd_set_same, List.length_set, Nat.add_sub_cancel, Nat.reduceEqDiff, Nat.reduceAdd, Nat.reduceMul, Nat.reduceSub, Nat.reduceLT, Nat.reduceLeDiff, reduceIte, Nat.not_lt_zero, not_true_eq_false, not_false_eq_true, and_true, true_and, and_false, false_and]
      rw [lf_run (e _ l0 p4), pu_self]
    have hbp : gX11_isPerson x (up B 0 ((B 0).set 0 0)) = some (nI 0, up B 0 ((B 0).set 0 0)) := f_isPerson (W := up B 0 ((B 0).set 0 0)) (by rw [up_same, List.length_set]; exact hb0) (by rw [up_same, gd_set_ne (by decide)]; exact b6) hx
    refine ⟨-nI 1, A, _, ?_, ?_, hRt⟩
    · unfold gX10_cloth
      rw [bd_some g1]
      simp (disch := first | omega | (simp only [up_ap, List.length_set, Nat.reduceEqDiff, reduceIte]; omega)) only [bd_pr, pr_ap, jn_eq, lt_eq, bd_bd, bd_ite, ite_ap, bd_ld, bd_sv, bd_la, bd_sa, bd_ln, bd_rz0, bd_rz1, rz_n0, rz_n1, e_lit2, nI_z, nI_eq0, nI_0eq, nI_le0, nI_lt0, nI_0lt, nI_0le, e_001, e_n10, e_n1lt, bd_la0, bd_sa0, bd_rz00, rz_0, rz_1, b2i_0, Int32.add_zero, Int32.zero_add, nI_add, nI_pred2, pk_sub, pk_mul, pk_div, e_nz, nI_eq, nI_leI, nI_ltI, e_nm1, e_nm2, up_ap, gd_set_ne, gd_set_same, List.length_set, Nat.add_sub_cancel, Nat.reduceEqDiff, Nat.reduceAdd, Nat.reduceMul, Nat.reduceSub, Nat.reduceLT, Nat.reduceLeDiff, reduceIte, Nat.not_lt_zero, not_true_eq_false, not_false_eq_true, and_true, true_and, and_false, false_and, gX10_forgetUndosFor]
    · unfold gX11_cloth
      rw [told0 _ hb0, bd_some hbp]
      simp (disch := first | omega | (simp only [up_ap, List.length_set, Nat.reduceEqDiff, reduceIte]; omega)) only [bd_pr, pr_ap, jn_eq, lt_eq, bd_bd, bd_ite, ite_ap, bd_ld, bd_sv, bd_la, bd_sa, bd_ln, bd_rz0, bd_rz1, rz_n0, rz_n1, e_lit2, nI_z, nI_eq0, nI_0eq, nI_le0, nI_lt0, nI_0lt, nI_0le, e_001, e_n10, e_n1lt, bd_la0, bd_sa0, bd_rz00, rz_0, rz_1, b2i_0, Int32.add_zero, Int32.zero_add, nI_add, nI_pred2, pk_sub, pk_mul, pk_div, e_nz, nI_eq, nI_leI, nI_ltI, e_nm1, e_nm2, up_ap, gd_set_ne, gd_set_same, List.length_set, Nat.add_sub_cancel, Nat.reduceEqDiff, Nat.reduceAdd, Nat.reduceMul, Nat.reduceSub, Nat.reduceLT, Nat.reduceLeDiff, reduceIte, Nat.not_lt_zero, not_true_eq_false, not_false_eq_true, and_true, true_and, and_false, false_and]
set_option maxHeartbeats 400000 in
theorem op_thing {A B : Bk} (h : R A B) (x y : Int32) : ∃ r A' B', gX10_thing x y A = some (r, A') ∧ gX11_thing x y B = some (r, B') ∧ R A' B' := by
  have hb0 := R_B0 h
  have hRt := R_told h
  obtain ⟨⟨np, nc, nt, ks, wh, hH, hU⟩, -⟩ := id h
  obtain ⟨hW, hw0⟩ := R_W hH
  have hau : (A 0).length = 10 := hU.1
  obtain ⟨hl, ⟨hn1, hn2, hn3, hn4⟩, ⟨p1, p2, p3, p4, p5, p6⟩, he, ⟨s1, s2, s3, s4, s5, s6, s7⟩, hod, ho, hd, hw, ⟨k1, k2, k3⟩⟩ := id hW
  obtain ⟨l0, l1, l2, l3, l4, l5, l6, l7, l8, l9, l10, l11, l12⟩ := id hl
  have b6 : (B 0).getD 6 0 = nI np := hH.1.2.2.2.1.2.2.1
  have b7 : (B 0).getD 7 0 = nI nc := hH.1.2.2.2.1.2.2.2.1
  have b8 : (B 0).getD 8 0 = nI nt := hH.1.2.2.2.1.2.2.2.2
  have m4 : (B 4).length = 20 := by rw [← hod.1]; exact l8
  have m5 : (B 5).length = 20 := by rw [← hod.2]; exact l9
  have hiw : gX10_thing x y A = if 0 ≤ y ∧ y ≤ nI 999 then bd (lf rh23 13 (gX9_addThing x y)) (fun r2 => bd (gX10_forgetUndosFor r2) fun r3 => pr r3) A else some (-nI 1, A) := by
    unfold gX10_thing
    rw [bd_iw]
    by_cases hy : 0 ≤ y ∧ y ≤ 999
    · have hy' : 0 ≤ y ∧ y ≤ nI 999 := hy
      rw [if_pos hy', b2i_t hy, if_neg (by decide)]
    · have hy' : ¬ (0 ≤ y ∧ y ≤ nI 999) := hy
      rw [if_neg hy', b2i_f hy, if_pos (by decide)]; rfl
  by_cases hx : 0 ≤ x ∧ x < nI np
  · obtain ⟨p, hp, rfl⟩ := in_rng (by omega) hx
    have hbp : gX11_isPerson (nI p) (up B 0 ((B 0).set 0 0)) = some (nI 1, up B 0 ((B 0).set 0 0)) := t_isPerson (W := up B 0 ((B 0).set 0 0)) (by rw [up_same, List.length_set]; exact hb0) (by rw [up_same, gd_set_ne (by decide)]; exact b6) hp (by omega)
    by_cases hy : 0 ≤ y ∧ y ≤ nI 999
    · rw [if_pos hy] at hiw
      obtain ⟨d, hd9, rfl⟩ := wi_rng (by decide) hy
      by_cases hf : nt = 20
      · have g1 : lf rh23 13 (gX9_addThing (nI p) (nI d)) A = some (-nI 1, A) := by
          have e : ∀ W : Bk, WL W → (W 0).getD 4 0 = nI np → (W 0).getD 6 0 = nI nt → gX9_addThing (nI p) (nI d) W = some (-nI 1, W) := fun W w0 w4 w6 => by
            have l0 := w0.1
            unfold gX9_addThing
            rw [bd_some (t_hasPerson l0 w4 hp (by omega))]
            simp (disch := first | omega | (simp only [up_ap, List.length_set, Nat.reduceEqDiff, reduceIte]; omega)) only [bd_pr, pr_ap, jn_eq, lt_eq, bd_bd, bd_ite, ite_ap, bd_ld, bd_sv, bd_la, bd_sa, bd_ln, bd_rz0, bd_rz1, rz_n0, rz_n1, e_lit2, nI_z, nI_eq0, nI_0eq, nI_le0, nI_lt0, nI_0lt, nI_0le, e_001, e_n10, e_n1lt, bd_la0, bd_sa0, bd_rz00, rz_0, rz_1, b2i_0, Int32.add_zero, Int32.zero_add, nI_add, nI_pred2, pk_sub, pk_mul, pk_div, e_nz, nI_eq, nI_leI, nI_ltI, e_nm1, e_nm2, up_ap, gd_set_ne, gd_set_same, List.length_set, Nat.add_sub_cancel, Nat.reduceEqDiff, Nat.reduceAdd, Nat.reduceMul, Nat.reduceSub, Nat.reduceLT, Nat.reduceLeDiff, reduceIte, Nat.not_lt_zero, not_true_eq_false, not_false_eq_true, and_true, true_and, and_false, false_and, Nat_1_le_0, w6, hf]
          rw [lf_run (e _ hl p4 p6), pu_self]
        refine ⟨-nI 1, A, _, ?_, ?_, hRt⟩
        · rw [hiw, bd_some g1]
          simp (disch := first | omega | (simp only [up_ap, List.length_set, Nat.reduceEqDiff, reduceIte]; omega)) only [bd_pr, pr_ap, jn_eq, lt_eq, bd_bd, bd_ite, ite_ap, bd_ld, bd_sv, bd_la, bd_sa, bd_ln, bd_rz0, bd_rz1, rz_n0, rz_n1, e_lit2, nI_z, nI_eq0, nI_0eq, nI_le0, nI_lt0, nI_0lt, nI_0le, e_001, e_n10, e_n1lt, bd_la0, bd_sa0, bd_rz00, rz_0, rz_1, b2i_0, Int32.add_zero, Int32.zero_add, nI_add, nI_pred2, pk_sub, pk_mul, pk_div, e_nz, nI_eq, nI_leI, nI_ltI, e_nm1, e_nm2, up_ap, gd_set_ne, gd_set_same, List.length_set, Nat.add_sub_cancel, Nat.reduceEqDiff, Nat.reduceAdd, Nat.reduceMul, Nat.reduceSub, Nat.reduceLT, Nat.reduceLeDiff, reduceIte, Nat.not_lt_zero, not_true_eq_false, not_false_eq_true, and_true, true_and, and_false, false_and, gX10_forgetUndosFor]
        · unfold gX11_thing
          rw [told0 _ hb0, bd_some hbp]
          simp (disch := first | omega | (simp only [up_ap, List.length_set, Nat.reduceEqDiff, reduceIte]; omega)) only [bd_pr, pr_ap, jn_eq, lt_eq, bd_bd, bd_ite, ite_ap, bd_ld, bd_sv, bd_la, bd_sa, bd_ln, bd_rz0, bd_rz1, rz_n0, rz_n1, e_lit2, nI_z, nI_eq0, nI_0eq, nI_le0, nI_lt0, nI_0lt, nI_0le, e_001, e_n10, e_n1lt, bd_la0, bd_sa0, bd_rz00, rz_0, rz_1, b2i_0, Int32.add_zero, Int32.zero_add, nI_add, nI_pred2, pk_sub, pk_mul, pk_div, e_nz, nI_eq, nI_leI, nI_ltI, e_nm1, e_nm2, up_ap, gd_set_ne, gd_set_same, List.length_set, Nat.add_sub_cancel, Nat.reduceEqDiff, Nat.reduceAdd, Nat.reduceMul, Nat.reduceSub, Nat.reduceLT, Nat.reduceLeDiff, reduceIte, Nat.not_lt_zero, not_true_eq_false, not_false_eq_true, and_true, true_and, and_false, false_and, Nat_1_le_0]
          rw [bd_in, b2i_t hy]
          simp (disch := first | omega | (simp only [up_ap, List.length_set, Nat.reduceEqDiff, reduceIte]; omega)) only [bd_pr, pr_ap, jn_eq, lt_eq, bd_bd, bd_ite, ite_ap, bd_ld, bd_sv, bd_la, bd_sa, bd_ln, bd_rz0, bd_rz1, rz_n0, rz_n1, e_lit2, nI_z, nI_eq0, nI_0eq, nI_le0, nI_lt0, nI_0lt, nI_0le, e_001, e_n10, e_n1lt, bd_la0, bd_sa0, bd_rz00, rz_0, rz_1, b2i_0, Int32.add_zero, Int32.zero_add, nI_add, nI_pred2, pk_sub, pk_mul, pk_div, e_nz, nI_eq, nI_leI, nI_ltI, e_nm1, e_nm2, up_ap, gd_set_ne, gd_set_same, List.length_set, Nat.add_sub_cancel, Nat.reduceEqDiff, Nat.reduceAdd, Nat.reduceMul, Nat.reduceSub, Nat.reduceLT, Nat.reduceLeDiff, reduceIte, Nat.not_lt_zero, not_true_eq_false, not_false_eq_true, and_true, true_and, and_false, false_and, Nat_1_le_0, b8, hf]
      · have hc : nt < 20 := by omega
        obtain ⟨W', hW'⟩ : ∃ W', W' = up (up (up (up (up (up (fun i => A (rh23 i)) 8 ((A 10).set nt (nI p))) 9 ((A 11).set nt (nI d))) 10 ((A 12).set nt (-nI 1))) 11 ((A 13).set nt (nI 0))) 12 ((A 14).set nt (nI 0))) 0 ((A 2).set 6 (nI (nt + 1))) := ⟨_, rfl⟩
        have g1 : lf rh23 13 (gX9_addThing (nI p) (nI d)) A = some (nI nt, pu rh23 13 W' A) := by
          rw [lf_run (p_addThing (W := fun i => A (rh23 i)) hl hc hp hn2 p4 p6), hW']; rfl
        have hWR : WR W' ((((B 1).set (123 + nt) (nI 0)).set (143 + nt) (nI 0)).set (163 + nt) (nI 0)) ((B 4).set nt (nI p)) ((B 5).set nt (nI d)) np nc (nt + 1) ks (fun x => if x = nt then 0 else wh x) := by
          rw [hW']
          exact WR_thing hW hc hp hd9
        have hpu0 : pu rh23 13 W' A 0 = A 0 := pu_out (fun i hi => by rw [rh23_v i hi]; omega) _ _
        refine ⟨nI nt, up (pu rh23 13 W' A) 0 ((A 0).set 5 0), up (up (up (up B 4 ((B 4).set nt (nI p))) 5 ((B 5).set nt (nI d))) 1 ((((B 1).set (123 + nt) (nI 0)).set (143 + nt) (nI 0)).set (163 + nt) (nI 0))) 0 ((((B 0).set 0 0).set 8 (nI (nt + 1))).set 3 0), ?_, ?_, ?_⟩
        · rw [hiw, bd_some g1]
          simp (disch := first | omega | (simp only [up_ap, List.length_set, Nat.reduceEqDiff, reduceIte, hpu0]; omega)) only [bd_pr, pr_ap, jn_eq, lt_eq, bd_bd, bd_ite, ite_ap, bd_ld, bd_sv, bd_la, bd_sa, bd_ln, bd_rz0, bd_rz1, rz_n0, rz_n1, e_lit2, nI_z, nI_eq0, nI_0eq, nI_le0, nI_lt0, nI_0lt, nI_0le, e_001, e_n10, e_n1lt, bd_la0, bd_sa0, bd_rz00, rz_0, rz_1, b2i_0, Int32.add_zero, Int32.zero_add, nI_add, nI_pred2, pk_sub, pk_mul, pk_div, e_nz, nI_eq, nI_leI, nI_ltI, e_nm1, e_nm2, up_ap, gd_set_ne, gd_set_same, List.length_set, Nat.add_sub_cancel, Nat.reduceEqDiff, Nat.reduceAdd, Nat.reduceMul, Nat.reduceSub, Nat.reduceLT, Nat.reduceLeDiff, reduceIte, Nat.not_lt_zero, not_true_eq_false, not_false_eq_true, and_true, true_and, and_false, false_and, gX10_forgetUndosFor, hpu0]
        · unfold gX11_thing
          rw [told0 _ hb0, bd_some hbp]
          simp (disch := first | omega | (simp only [up_ap, List.length_set, Nat.reduceEqDiff, reduceIte]; omega)) only [bd_pr, pr_ap, jn_eq, lt_eq, bd_bd, bd_ite, ite_ap, bd_ld, bd_sv, bd_la, bd_sa, bd_ln, bd_rz0, bd_rz1, rz_n0, rz_n1, e_lit2, nI_z, nI_eq0, nI_0eq, nI_le0, nI_lt0, nI_0lt, nI_0le, e_001, e_n10, e_n1lt, bd_la0, bd_sa0, bd_rz00, rz_0, rz_1, b2i_0, Int32.add_zero, Int32.zero_add, nI_add, nI_pred2, pk_sub, pk_mul, pk_div, e_nz, nI_eq, nI_leI, nI_ltI, e_nm1, e_nm2, up_ap, gd_set_ne, gd_set_same, List.length_set, Nat.add_sub_cancel, Nat.reduceEqDiff, Nat.reduceAdd, Nat.reduceMul, Nat.reduceSub, Nat.reduceLT, Nat.reduceLeDiff, reduceIte, Nat.not_lt_zero, not_true_eq_false, not_false_eq_true, and_true, true_and, and_false, false_and, Nat_1_le_0]
          rw [bd_in, b2i_t hy]
          simp (disch := first | omega | (simp only [up_ap, List.length_set, Nat.reduceEqDiff, reduceIte]; omega)) only [bd_pr, pr_ap, jn_eq, lt_eq, bd_bd, bd_ite, ite_ap, bd_ld, bd_sv, bd_la, bd_sa, bd_ln, bd_rz0, bd_rz1, rz_n0, rz_n1, e_lit2, nI_z, nI_eq0, nI_0eq, nI_le0, nI_lt0, nI_0lt, nI_0le, e_001, e_n10, e_n1lt, bd_la0, bd_sa0, bd_rz00, rz_0, rz_1, b2i_0, Int32.add_zero, Int32.zero_add, nI_add, nI_pred2, pk_sub, pk_mul, pk_div, e_nz, nI_eq, nI_leI, nI_ltI, e_nm1, e_nm2, up_ap, gd_set_ne, gd_set_same, List.length_set, Nat.add_sub_cancel, Nat.reduceEqDiff, Nat.reduceAdd, Nat.reduceMul, Nat.reduceSub, Nat.reduceLT, Nat.reduceLeDiff, reduceIte, Nat.not_lt_zero, not_true_eq_false, not_false_eq_true, and_true, true_and, and_false, false_and, Nat_1_le_0, b8, hf, up_up]
          congr 2
          funext i
          simp only [up_ap]
          by_cases q0 : i = 0
          · simp [q0]
          · by_cases q1 : i = 1
            · simp [q1]
            · by_cases q4 : i = 4
              · simp [q4]
              · by_cases q5 : i = 5
                · simp [q5]
                · simp [q0, q1, q4, q5]
        · refine R_W0 h hH hU (Nat.le_refl _) (Nat.le_refl _) (by omega) (B' := up (up (up (up B 4 ((B 4).set nt (nI p))) 5 ((B 5).set nt (nI d))) 1 ((((B 1).set (123 + nt) (nI 0)).set (143 + nt) (nI 0)).set (163 + nt) (nI 0))) 0 ((((B 0).set 0 0).set 8 (nI (nt + 1))).set 3 0)) hWR (by rw [hW', up_same, gd_set_ne (by decide)]; exact hw0) (fun i a b c d e => by simp only [up_ap, if_neg b, if_neg c, if_neg d, if_neg e]) (by rw [up_same]; simp only [List.length_set]; exact hb0) (fun s hs => ?_) (by rw [up_same, gd_set_same (by simp only [List.length_set]; omega)]) ?_ ?_ ?_
          · rw [up_same, gd_set_ne (fun q => by subst q; exact absurd hs (by decide)), gd_set_ne (fun q => by subst q; exact absurd hs (by decide)), gd_set_ne (fun q => by subst q; exact absurd hs (by decide))]
          · rw [up_same, gd_set_ne (by decide), gd_set_ne (by decide), gd_set_ne (by decide)]; exact b6
          · rw [up_same, gd_set_ne (by decide), gd_set_ne (by decide), gd_set_ne (by decide)]; exact b7
          · rw [up_same, gd_set_ne (by decide), gd_set_same (by simp only [List.length_set]; omega)]
    · rw [if_neg hy] at hiw
      refine ⟨-nI 1, A, _, hiw, ?_, hRt⟩
      unfold gX11_thing
      rw [told0 _ hb0, bd_some hbp]
      simp (disch := first | omega | (simp only [up_ap, List.length_set, Nat.reduceEqDiff, reduceIte]; omega)) only [bd_pr, pr_ap, jn_eq, lt_eq, bd_bd, bd_ite, ite_ap, bd_ld, bd_sv, bd_la, bd_sa, bd_ln, bd_rz0, bd_rz1, rz_n0, rz_n1, e_lit2, nI_z, nI_eq0, nI_0eq, nI_le0, nI_lt0, nI_0lt, nI_0le, e_001, e_n10, e_n1lt, bd_la0, bd_sa0, bd_rz00, rz_0, rz_1, b2i_0, Int32.add_zero, Int32.zero_add, nI_add, nI_pred2, pk_sub, pk_mul, pk_div, e_nz, nI_eq, nI_leI, nI_ltI, e_nm1, e_nm2, up_ap, gd_set_ne, gd_set_same, List.length_set, Nat.add_sub_cancel, Nat.reduceEqDiff, Nat.reduceAdd, Nat.reduceMul, Nat.reduceSub, Nat.reduceLT, Nat.reduceLeDiff, reduceIte, Nat.not_lt_zero, not_true_eq_false, not_false_eq_true, and_true, true_and, and_false, false_and, Nat_1_le_0]
      rw [bd_in, b2i_f hy]
      simp (disch := first | omega | (simp only [up_ap, List.length_set, Nat.reduceEqDiff, reduceIte]; omega)) only [bd_pr, pr_ap, jn_eq, lt_eq, bd_bd, bd_ite, ite_ap, bd_ld, bd_sv, bd_la, bd_sa, bd_ln, bd_rz0, bd_rz1, rz_n0, rz_n1, e_lit2, nI_z, nI_eq0, nI_0eq, nI_le0, nI_lt0, nI_0lt, nI_0le, e_001, e_n10, e_n1lt, bd_la0, bd_sa0, bd_rz00, rz_0, rz_1, b2i_0, Int32.add_zero, Int32.zero_add, nI_add, nI_pred2, pk_sub, pk_mul, pk_div, e_nz, nI_eq, nI_leI, nI_ltI, e_nm1, e_nm2, up_ap, gd_set_ne, gd_set_same, List.length_set, Nat.add_sub_cancel, Nat.reduceEqDiff, Nat.reduceAdd, Nat.reduceMul, Nat.reduceSub, Nat.reduceLT, Nat.reduceLeDiff, reduceIte, Nat.not_lt_zero, not_true_eq_false, not_false_eq_true, and_true, true_and, and_false, false_and]
  · have g1 : lf rh23 13 (gX9_addThing x y) A = some (-nI 1, A) := by
      have e : ∀ W : Bk, (W 0).length = 19 → (W 0).getD 4 0 = nI np → gX9_addThing x y W = some (-nI 1, W) := fun W w0 w4 => by
        unfold gX9_addThing
        rw [bd_some (f_hasPerson w0 w4 hx)]
        simp (disch := first | omega | (simp only [up_ap, List.length_set, Nat.reduceEqDiff, reduceIte]; omega)) only [bd_pr, pr_ap, jn_eq, lt_eq, bd_bd, bd_ite, ite_ap, bd_ld, bd_sv, bd_la, bd_sa, bd_ln, bd_rz0, bd_rz1, rz_n0, rz_n1, e_lit2, nI_z, nI_eq0, nI_0eq, nI_le0, nI_lt0, nI_0lt, nI_0le, e_001, e_n10, e_n1lt, bd_la0, bd_sa0, bd_rz00, rz_0, rz_1, b2i_0, Int32.add_zero, Int32.zero_add, nI_add, nI_pred2, pk_sub, pk_mul, pk_div, e_nz, nI_eq, nI_leI, nI_ltI, e_nm1, e_nm2, up_ap, gd_set_ne, gd_set_same, List.length_set, Nat.add_sub_cancel, Nat.reduceEqDiff, Nat.reduceAdd, Nat.reduceMul, Nat.reduceSub, Nat.reduceLT, Nat.reduceLeDiff, reduceIte, Nat.not_lt_zero, not_true_eq_false, not_false_eq_true, and_true, true_and, and_false, false_and]
      rw [lf_run (e _ l0 p4), pu_self]
    have hbp : gX11_isPerson x (up B 0 ((B 0).set 0 0)) = some (nI 0, up B 0 ((B 0).set 0 0)) := f_isPerson (W := up B 0 ((B 0).set 0 0)) (by rw [up_same, List.length_set]; exact hb0) (by rw [up_same, gd_set_ne (by decide)]; exact b6) hx
    refine ⟨-nI 1, A, _, ?_, ?_, hRt⟩
    · rw [hiw]
      by_cases hy : 0 ≤ y ∧ y ≤ nI 999
      · rw [if_pos hy, bd_some g1]
        simp (disch := first | omega | (simp only [up_ap, List.length_set, Nat.reduceEqDiff, reduceIte]; omega)) only [bd_pr, pr_ap, jn_eq, lt_eq, bd_bd, bd_ite, ite_ap, bd_ld, bd_sv, bd_la, bd_sa, bd_ln, bd_rz0, bd_rz1, rz_n0, rz_n1, e_lit2, nI_z, nI_eq0, nI_0eq, nI_le0, nI_lt0, nI_0lt, nI_0le, e_001, e_n10, e_n1lt, bd_la0, bd_sa0, bd_rz00, rz_0, rz_1, b2i_0, Int32.add_zero, Int32.zero_add, nI_add, nI_pred2, pk_sub, pk_mul, pk_div, e_nz, nI_eq, nI_leI, nI_ltI, e_nm1, e_nm2, up_ap, gd_set_ne, gd_set_same, List.length_set, Nat.add_sub_cancel, Nat.reduceEqDiff, Nat.reduceAdd, Nat.reduceMul, Nat.reduceSub, Nat.reduceLT, Nat.reduceLeDiff, reduceIte, Nat.not_lt_zero, not_true_eq_false, not_false_eq_true, and_true, true_and, and_false, false_and, gX10_forgetUndosFor]
      · rw [if_neg hy]
    · unfold gX11_thing
      rw [told0 _ hb0, bd_some hbp]
      simp (disch := first | omega | (simp only [up_ap, List.length_set, Nat.reduceEqDiff, reduceIte]; omega)) only [bd_pr, pr_ap, jn_eq, lt_eq, bd_bd, bd_ite, ite_ap, bd_ld, bd_sv, bd_la, bd_sa, bd_ln, bd_rz0, bd_rz1, rz_n0, rz_n1, e_lit2, nI_z, nI_eq0, nI_0eq, nI_le0, nI_lt0, nI_0lt, nI_0le, e_001, e_n10, e_n1lt, bd_la0, bd_sa0, bd_rz00, rz_0, rz_1, b2i_0, Int32.add_zero, Int32.zero_add, nI_add, nI_pred2, pk_sub, pk_mul, pk_div, e_nz, nI_eq, nI_leI, nI_ltI, e_nm1, e_nm2, up_ap, gd_set_ne, gd_set_same, List.length_set, Nat.add_sub_cancel, Nat.reduceEqDiff, Nat.reduceAdd, Nat.reduceMul, Nat.reduceSub, Nat.reduceLT, Nat.reduceLeDiff, reduceIte, Nat.not_lt_zero, not_true_eq_false, not_false_eq_true, and_true, true_and, and_false, false_and]
