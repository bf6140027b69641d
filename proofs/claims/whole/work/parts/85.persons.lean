/-! PURE: persons, cloths, things, what is set by hand -/
theorem rh23_v : ∀ i, i < 13 → rh23 i = 2 + i := by decide +kernel
theorem rh23_inj : ∀ i j, i < 13 → j < 13 → rh23 i = rh23 j → i = j := fun i j hi hj h => by
  rw [rh23_v i hi, rh23_v j hj] at h; omega
theorem rh24_12 : ∀ i, i < 13 → rh24 (rh12 i) = rh23 i := by decide +kernel
theorem rh24_h : ∀ i, i < 36 → i ≠ 0 → rh24 i = 14 + i := by decide +kernel
/-- the world alone is another, nothing can be undone -/
theorem R_W0 {A B B' W' : Bk} {np nc nt np' nc' nt' : Nat} {ks ks' : Nat → List Nat} {wh wh' : Nat → Nat} (h : R A B) (hH : HH (fun i => A (rh24 i)) B np nc nt ks wh) (hU : UD A B np nc nt) (h1 : np ≤ np') (h2 : nc ≤ nc') (h3 : nt ≤ nt') (hW : WR W' (B' 1) (B' 4) (B' 5) np' nc' nt' ks' wh') (hw0 : (W' 0).getD 0 0 = 0)
    (eB : ∀ i, i < 38 → i ≠ 0 → i ≠ 1 → i ≠ 4 → i ≠ 5 → B' i = B i) (e0 : (B' 0).length = 68) (es : ∀ k, k ∈ [5, 13, 33, 34, 35, 37, 39, 43, 52, 54, 57, 61, 65] → (B' 0).getD k 0 = (B 0).getD k 0) (e3 : (B' 0).getD 3 0 = 0) (e6 : (B' 0).getD 6 0 = nI np') (e7 : (B' 0).getD 7 0 = nI nc') (e8 : (B' 0).getD 8 0 = nI nt') :
    R (up (pu rh23 13 W' A) 0 ((A 0).set 5 0)) B' := by
  obtain ⟨A', hA'⟩ : ∃ x, x = up (pu rh23 13 W' A) 0 ((A 0).set 5 0) := ⟨_, rfl⟩
  have a0 : A' 0 = (A 0).set 5 0 := by rw [hA', up_same]
  have aW : ∀ i, i < 13 → A' (rh23 i) = W' i := fun i hi => by
    rw [hA', up_ne _ _ (by rw [rh23_v i hi]; omega)]
    exact pu_in rh23_inj hi W' A
  have aO : ∀ j, j ≠ 0 → ¬ (2 ≤ j ∧ j < 15) → A' j = A j := fun j hj hj2 => by
    rw [hA', up_ne _ _ hj]
    exact pu_out (fun i hi => by rw [rh23_v i hi]; omega) _ _
  rw [← hA']
  obtain ⟨-, hT, hI, hA, hB⟩ := h
  obtain ⟨⟨-, ⟨-, -⟩, ⟨hb1, hb2⟩, ⟨b0, b5, -, -, -⟩, hlaw, hdeeds, hminds, hfr, hz1, hz2, hz3⟩, hTT⟩ := hH
  have aH : ∀ i, i < 36 → i ≠ 0 → A' (rh24 i) = A (rh24 i) := fun i hi h0 => aO _ (by rw [rh24_h i hi h0]; omega) (by rw [rh24_h i hi h0]; omega)
  have hWR : WR (fun i => A' (rh24 (rh12 i))) (B' 1) (B' 4) (B' 5) np' nc' nt' ks' wh' := WR_congr hW (fun i hi => by
    show A' (rh24 (rh12 i)) = W' i
    rw [rh24_12 i hi]; exact aW i hi)
  have u36 : A' (rh24 36) = W' 0 := by
    have := aW 0 (by decide)
    exact this
  have hHS : HS (fun i => A' (rh24 i)) B' 0 np' nc' nt' := by
    refine ⟨⟨e0, by rw [es 5 (by decide)]; exact b5, e6, e7, e8⟩, ?_, ?_, ?_, ?_, ?_, ?_, ?_⟩
    · unfold RLaw at *
      simp only [Nat.reduceAdd, aH 3 (by decide) (by decide), aH 4 (by decide) (by decide), aH 5 (by decide) (by decide), aH 6 (by decide) (by decide), aH 7 (by decide) (by decide), aH 8 (by decide) (by decide), aH 9 (by decide) (by decide), eB 9 (by decide) (by decide) (by decide) (by decide) (by decide), eB 10 (by decide) (by decide) (by decide) (by decide) (by decide), eB 11 (by decide) (by decide) (by decide) (by decide) (by decide), eB 12 (by decide) (by decide) (by decide) (by decide) (by decide), eB 13 (by decide) (by decide) (by decide) (by decide) (by decide), eB 14 (by decide) (by decide) (by decide) (by decide) (by decide), eB 15 (by decide) (by decide) (by decide) (by decide) (by decide)]
      exact hlaw
    · unfold RDeeds at *
      simp only [Nat.reduceAdd, aH 10 (by decide) (by decide), aH 11 (by decide) (by decide), aH 12 (by decide) (by decide), aH 13 (by decide) (by decide), aH 14 (by decide) (by decide), eB 17 (by decide) (by decide) (by decide) (by decide) (by decide), es 35 (by decide)]
      obtain ⟨q1, n, q2, q3, q4, q5⟩ := hdeeds
      refine ⟨q1, n, q2, q3, q4, fun i hi => ?_⟩
      obtain ⟨x1, x2, x3, x4, w, a, b, y1, y2, y3, y4, y5, y6, y7⟩ := q5 i hi
      exact ⟨x1, x2, x3, x4, w, a, b, y1, y2, y3, y4, fun q => by have := y5 q; omega, fun q => by have := y6 q; omega, fun q => by have := y7 q; omega⟩
    · unfold RMinds at *
      simp only [Nat.reduceAdd, aH 15 (by decide) (by decide), aH 16 (by decide) (by decide), aH 17 (by decide) (by decide), aH 18 (by decide) (by decide), aH 19 (by decide) (by decide), eB 18 (by decide) (by decide) (by decide) (by decide) (by decide), es 37 (by decide)]
      obtain ⟨q1, n, q2, q3, q4, q5⟩ := hminds
      refine ⟨q1, n, q2, q3, q4, fun i hi => ?_⟩
      obtain ⟨x1, x2, x3, a, y1, y2⟩ := q5 i hi
      exact ⟨x1, x2, x3, a, by omega, y2⟩
    · unfold RFr at *
      simp only [Nat.reduceAdd, aH 20 (by decide) (by decide), aH 21 (by decide) (by decide), aH 22 (by decide) (by decide), aH 23 (by decide) (by decide), aH 24 (by decide) (by decide), eB 19 (by decide) (by decide) (by decide) (by decide) (by decide), es 39 (by decide)]
      obtain ⟨q1, n, q2, q3, q4, q5, q6⟩ := hfr
      refine ⟨q1, n, q2, q3, q4, fun i hi => ?_, q6⟩
      obtain ⟨a, b, x1, x2, x3, x4, x5⟩ := q5 i hi
      exact ⟨a, b, x1, x2, by omega, by omega, x5⟩
    · show (A' (rh24 35)).length = 9
      rw [aH 35 (by decide) (by decide)]; exact hz1
    · rw [eB 20 (by decide) (by decide) (by decide) (by decide) (by decide)]; exact hz2
    · rw [eB 21 (by decide) (by decide) (by decide) (by decide) (by decide)]; exact hz3
  refine ⟨⟨np', nc', nt', ks', wh', ⟨⟨hWR, ⟨by decide, ?_⟩, ⟨?_, ?_⟩, hHS⟩, ?_⟩, UD_zero hU (by rw [a0, List.length_set]) (by rw [a0, gd_set_same (by rw [hU.1]; decide)]) (aO 112 (by decide) (by decide)) (fun j hj hj2 => aO j (by omega) (by omega)) (by rw [eB 2 (by decide) (by decide) (by decide) (by decide) (by decide)]) e3⟩, ?_, ?_, ?_, ?_⟩
  · show (A' (rh24 36)).getD 0 0 = nI 0
    rw [u36, hw0]; rfl
  · show A' (rh24 2) = B' 6
    rw [aH 2 (by decide) (by decide), eB 6 (by decide) (by decide) (by decide) (by decide) (by decide)]; exact hb1
  · rw [eB 6 (by decide) (by decide) (by decide) (by decide) (by decide)]; exact hb2
  · unfold TT at *
    simp only [aH 25 (by decide) (by decide), aH 26 (by decide) (by decide), aH 27 (by decide) (by decide), aH 28 (by decide) (by decide), aH 29 (by decide) (by decide), aH 30 (by decide) (by decide), aH 31 (by decide) (by decide), aH 32 (by decide) (by decide), aH 33 (by decide) (by decide), aH 34 (by decide) (by decide), es 43 (by decide), es 52 (by decide), es 54 (by decide), es 57 (by decide), es 61 (by decide), eB 22 (by decide) (by decide) (by decide) (by decide) (by decide), eB 29 (by decide) (by decide) (by decide) (by decide) (by decide), eB 30 (by decide) (by decide) (by decide) (by decide) (by decide), eB 32 (by decide) (by decide) (by decide) (by decide) (by decide), eB 35 (by decide) (by decide) (by decide) (by decide) (by decide)]
    exact hTT
  · exact TP_congr hT (aO 113 (by decide) (by decide)) (aO 114 (by decide) (by decide)) (eB 7 (by decide) (by decide) (by decide) (by decide) (by decide)) (es 13 (by decide)) (es 33 (by decide)) (es 34 (by decide))
  · exact IM_congr hI (by rw [a0, gd_set_ne (by decide)]) (fun j hj hj2 => aO j (by omega) (by omega)) (eB 37 (by decide) (by decide) (by decide) (by decide) (by decide)) (es 65 (by decide))
  · exact SCA_congr hA (fun j hj hj2 => by rw [aO j (by omega) (by omega)]) (by rw [aO 99 (by decide) (by decide)])
  · have hz : ∀ j, j ∈ [3, 16, 23, 24, 25, 26, 27, 28, 31, 34, 36] → j < 38 ∧ j ≠ 0 ∧ j ≠ 1 ∧ j ≠ 4 ∧ j ≠ 5 := by decide
    exact SCB_congr hB (fun j hj => by rw [eB j (hz j hj).1 (hz j hj).2.1 (hz j hj).2.2.1 (hz j hj).2.2.2.1 (hz j hj).2.2.2.2]) (eB 8 (by decide) (by decide) (by decide) (by decide) (by decide)) (eB 33 (by decide) (by decide) (by decide) (by decide) (by decide))
theorem R_W {A B : Bk} {np nc nt : Nat} {ks : Nat → List Nat} {wh : Nat → Nat} (hH : HH (fun i => A (rh24 i)) B np nc nt ks wh) : WR (fun i => A (rh23 i)) (B 1) (B 4) (B 5) np nc nt ks wh ∧ (A 2).getD 0 0 = 0 := ⟨WR_congr hH.1.1 (fun i hi => by
  show A (rh23 i) = A (rh24 (rh12 i))
  rw [rh24_12 i hi]), hH.1.2.1.2⟩
theorem op_state {A B : Bk} (h : R A B) (x : Int32) : ∃ r A' B', gX10_state x A = some (r, A') ∧ gX11_state x B = some (r, B') ∧ R A' B' := by
  have hb0 := R_B0 h
  have hRt := R_told h
  obtain ⟨⟨np, nc, nt, ks, wh, hH, hU⟩, -⟩ := id h
  obtain ⟨hW, hw0⟩ := R_W hH
  have hau : (A 0).length = 10 := hU.1
  obtain ⟨hl, ⟨hn1, hn2, hn3, hn4⟩, ⟨p1, p2, p3, p4, p5, p6⟩, he, ⟨s1, s2, s3, s4, s5, s6, s7⟩, hod, ho, hd, hw, ⟨k1, k2, k3⟩⟩ := id hW
  obtain ⟨l0, l1, l2, l3, l4, l5, l6, l7, l8, l9, l10, l11, l12⟩ := id hl
  have b6 : (B 0).getD 6 0 = nI np := hH.1.2.2.2.1.2.2.1
  have b7 : (B 0).getD 7 0 = nI nc := hH.1.2.2.2.1.2.2.2.1
  have b8 : (B 0).getD 8 0 = nI nt := hH.1.2.2.2.1.2.2.2.2
  have m4 : (B 4).length = 20 := by rw [← hod.1]; exact l8
  have m5 : (B 5).length = 20 := by rw [← hod.2]; exact l9
  have p1' : (A 2).getD 1 0 = (B 1).getD 1 0 := p1
  have l0' : (A 2).length = 19 := l0
  refine ⟨(B 1).getD 1 0, up (up A 2 ((A 2).set 1 x)) 0 ((A 0).set 5 0), up (up B 1 ((B 1).set 1 x)) 0 (((B 0).set 0 0).set 3 0), ?_, ?_, ?_⟩
  · unfold gX10_state
    simp (disch := first | omega | (simp only [up_ap, List.length_set, Nat.reduceEqDiff, reduceIte]; omega)) only [bd_pr, pr_ap, jn_eq, lt_eq, bd_bd, bd_ite, ite_ap, bd_ld, bd_sv, bd_la, bd_sa, bd_ln, bd_rz0, bd_rz1, rz_n0, rz_n1, e_lit2, nI_z, nI_eq0, nI_0eq, nI_le0, nI_lt0, nI_0lt, nI_0le, e_001, e_n10, e_n1lt, bd_la0, bd_sa0, bd_rz00, rz_0, rz_1, b2i_0, Int32.add_zero, Int32.zero_add, nI_add, nI_pred2, pk_sub, pk_mul, pk_div, e_nz, nI_eq, nI_leI, nI_ltI, e_nm1, e_nm2, up_ap, gd_set_ne, gd_set_same, List.length_set, Nat.add_sub_cancel, Nat.reduceEqDiff, Nat.reduceAdd, Nat.reduceMul, Nat.reduceSub, Nat.reduceLT, Nat.reduceLeDiff, reduceIte, Nat.not_lt_zero, not_true_eq_false, not_false_eq_true, and_true, true_and, and_false, false_and, p1']
  · unfold gX11_state
    simp (disch := first | omega | (simp only [up_ap, List.length_set, Nat.reduceEqDiff, reduceIte]; omega)) only [bd_pr, pr_ap, jn_eq, lt_eq, bd_bd, bd_ite, ite_ap, bd_ld, bd_sv, bd_la, bd_sa, bd_ln, bd_rz0, bd_rz1, rz_n0, rz_n1, e_lit2, nI_z, nI_eq0, nI_0eq, nI_le0, nI_lt0, nI_0lt, nI_0le, e_001, e_n10, e_n1lt, bd_la0, bd_sa0, bd_rz00, rz_0, rz_1, b2i_0, Int32.add_zero, Int32.zero_add, nI_add, nI_pred2, pk_sub, pk_mul, pk_div, e_nz, nI_eq, nI_leI, nI_ltI, e_nm1, e_nm2, up_ap, gd_set_ne, gd_set_same, List.length_set, Nat.add_sub_cancel, Nat.reduceEqDiff, Nat.reduceAdd, Nat.reduceMul, Nat.reduceSub, Nat.reduceLT, Nat.reduceLeDiff, reduceIte, Nat.not_lt_zero, not_true_eq_false, not_false_eq_true, and_true, true_and, and_false, false_and, up_up]
    first | done | rw [up_comm B (i := 0) (j := 1) (by decide), up_up]
  · have e : up A 2 ((A 2).set 1 x) = pu rh23 13 (up (fun i => A (rh23 i)) 0 ((A 2).set 1 x)) A := (pu1 rh23_inj (i := 0) (by decide) A _).symm
    rw [e]
    refine R_W0 h hH hU (Nat.le_refl _) (Nat.le_refl _) (Nat.le_refl _) (WR_draw hW x) (by rw [up_same, gd_set_ne (by decide)]; exact hw0) (fun i a b c d e => by rw [up_ne _ _ b, up_ne _ _ c]) (by rw [up_same]; simp only [List.length_set]; exact hb0) (fun s hs => ?_) (by rw [up_same, gd_set_same (by rw [List.length_set, hb0]; decide)]) ?_ ?_ ?_
    · rw [up_same, gd_set_ne (fun q => by subst q; exact absurd hs (by decide)), gd_set_ne (fun q => by subst q; exact absurd hs (by decide))]
    · rw [up_same, gd_set_ne (by decide), gd_set_ne (by decide)]; exact b6
    · rw [up_same, gd_set_ne (by decide), gd_set_ne (by decide)]; exact b7
    · rw [up_same, gd_set_ne (by decide), gd_set_ne (by decide)]; exact b8
theorem p_addPerson {W : Bk} {np : Nat} (hl : WL W) (hp : np < 12) (p4 : (W 0).getD 4 0 = nI np) (x : Int32) : gX9_addPerson x W = some (nI np, up (up (up (up W 1 ((W 1).set np x)) 2 ((W 2).set np 0)) 3 ((W 3).set np 0)) 0 ((W 0).set 4 (nI (np + 1)))) := by
  obtain ⟨l0, l1, l2, l3, l4, l5, l6, l7, l8, l9, l10, l11, l12⟩ := hl
  unfold gX9_addPerson
  simp (disch := first | omega | (simp only [up_ap, List.length_set, Nat.reduceEqDiff, reduceIte]; omega)) only [bd_pr, pr_ap, jn_eq, lt_eq, bd_bd, bd_ite, ite_ap, bd_ld, bd_sv, bd_la, bd_sa, bd_ln, bd_rz0, bd_rz1, rz_n0, rz_n1, e_lit2, nI_z, nI_eq0, nI_0eq, nI_le0, nI_lt0, nI_0lt, nI_0le, e_001, e_n10, e_n1lt, bd_la0, bd_sa0, bd_rz00, rz_0, rz_1, b2i_0, Int32.add_zero, Int32.zero_add, nI_add, nI_pred2, pk_sub, pk_mul, pk_div, e_nz, nI_eq, nI_leI, nI_ltI, e_nm1, e_nm2, up_ap, gd_set_ne, gd_set_same, List.length_set, Nat.add_sub_cancel, Nat.reduceEqDiff, Nat.reduceAdd, Nat.reduceMul, Nat.reduceSub, Nat.reduceLT, Nat.reduceLeDiff, reduceIte, Nat.not_lt_zero, not_true_eq_false, not_false_eq_true, and_true, true_and, and_false, false_and, p4, hp]
theorem op_person {A B : Bk} (h : R A B) (x : Int32) : ∃ r A' B', gX10_person x A = some (r, A') ∧ gX11_person x B = some (r, B') ∧ R A' B' := by
  have hb0 := R_B0 h
  have hRt := R_told h
  obtain ⟨⟨np, nc, nt, ks, wh, hH, hU⟩, -⟩ := id h
  obtain ⟨hW, hw0⟩ := R_W hH
  have hau : (A 0).length = 10 := hU.1
  obtain ⟨hl, ⟨hn1, hn2, hn3, hn4⟩, ⟨p1, p2, p3, p4, p5, p6⟩, he, ⟨s1, s2, s3, s4, s5, s6, s7⟩, hod, ho, hd, hw, ⟨k1, k2, k3⟩⟩ := id hW
  obtain ⟨l0, l1, l2, l3, l4, l5, l6, l7, l8, l9, l10, l11, l12⟩ := id hl
  have b6 : (B 0).getD 6 0 = nI np := hH.1.2.2.2.1.2.2.1
  have b7 : (B 0).getD 7 0 = nI nc := hH.1.2.2.2.1.2.2.2.1
  have b8 : (B 0).getD 8 0 = nI nt := hH.1.2.2.2.1.2.2.2.2
  have m4 : (B 4).length = 20 := by rw [← hod.1]; exact l8
  have m5 : (B 5).length = 20 := by rw [← hod.2]; exact l9
  by_cases hx : 0 ≤ x ∧ x ≤ nI 9
  · by_cases hf : np = 12
    · have g1 : lf rh23 13 (gX9_addPerson x) A = some (-nI 1, A) := by
        have e : ∀ W : Bk, (W 0).length = 19 → (W 0).getD 4 0 = nI np → gX9_addPerson x W = some (-nI 1, W) := fun W w0 w4 => by
          unfold gX9_addPerson
          simp (disch := first | omega | (simp only [up_ap, List.length_set, Nat.reduceEqDiff, reduceIte]; omega)) only [bd_pr, pr_ap, jn_eq, lt_eq, bd_bd, bd_ite, ite_ap, bd_ld, bd_sv, bd_la, bd_sa, bd_ln, bd_rz0, bd_rz1, rz_n0, rz_n1, e_lit2, nI_z, nI_eq0, nI_0eq, nI_le0, nI_lt0, nI_0lt, nI_0le, e_001, e_n10, e_n1lt, bd_la0, bd_sa0, bd_rz00, rz_0, rz_1, b2i_0, Int32.add_zero, Int32.zero_add, nI_add, nI_pred2, pk_sub, pk_mul, pk_div, e_nz, nI_eq, nI_leI, nI_ltI, e_nm1, e_nm2, up_ap, gd_set_ne, gd_set_same, List.length_set, Nat.add_sub_cancel, Nat.reduceEqDiff, Nat.reduceAdd, Nat.reduceMul, Nat.reduceSub, Nat.reduceLT, Nat.reduceLeDiff, reduceIte, Nat.not_lt_zero, not_true_eq_false, not_false_eq_true, and_true, true_and, and_false, false_and, w4, hf]
        rw [lf_run (e _ l0 p4), pu_self]
      refine ⟨-nI 1, A, _, ?_, ?_, hRt⟩
      · unfold gX10_person
        simp (disch := first | omega | (simp only [up_ap, List.length_set, Nat.reduceEqDiff, reduceIte]; omega)) only [bd_pr, pr_ap, jn_eq, lt_eq, bd_bd, bd_ite, ite_ap, bd_ld, bd_sv, bd_la, bd_sa, bd_ln, bd_rz0, bd_rz1, rz_n0, rz_n1, e_lit2, nI_z, nI_eq0, nI_0eq, nI_le0, nI_lt0, nI_0lt, nI_0le, e_001, e_n10, e_n1lt, bd_la0, bd_sa0, bd_rz00, rz_0, rz_1, b2i_0, Int32.add_zero, Int32.zero_add, nI_add, nI_pred2, pk_sub, pk_mul, pk_div, e_nz, nI_eq, nI_leI, nI_ltI, e_nm1, e_nm2, up_ap, gd_set_ne, gd_set_same, List.length_set, Nat.add_sub_cancel, Nat.reduceEqDiff, Nat.reduceAdd, Nat.reduceMul, Nat.reduceSub, Nat.reduceLT, Nat.reduceLeDiff, reduceIte, Nat.not_lt_zero, not_true_eq_false, not_false_eq_true, and_true, true_and, and_false, false_and]
        rw [bd_iw, b2i_t hx]
        simp (disch := first | omega | (simp only [up_ap, List.length_set, Nat.reduceEqDiff, reduceIte]; omega)) only [bd_pr, pr_ap, jn_eq, lt_eq, bd_bd, bd_ite, ite_ap, bd_ld, bd_sv, bd_la, bd_sa, bd_ln, bd_rz0, bd_rz1, rz_n0, rz_n1, e_lit2, nI_z, nI_eq0, nI_0eq, nI_le0, nI_lt0, nI_0lt, nI_0le, e_001, e_n10, e_n1lt, bd_la0, bd_sa0, bd_rz00, rz_0, rz_1, b2i_0, Int32.add_zero, Int32.zero_add, nI_add, nI_pred2, pk_sub, pk_mul, pk_div, e_nz, nI_eq, nI_leI, nI_ltI, e_nm1, e_nm2, up_ap, gd_set_ne, gd_set_same, List.length_set, Nat.add_sub_cancel, Nat.reduceEqDiff, Nat.reduceAdd, Nat.reduceMul, Nat.reduceSub, Nat.reduceLT, Nat.reduceLeDiff, reduceIte, Nat.not_lt_zero, not_true_eq_false, not_false_eq_true, and_true, true_and, and_false, false_and, Nat_1_le_0]
        rw [bd_some g1]
        simp (disch := first | omega | (simp only [up_ap, List.length_set, Nat.reduceEqDiff, reduceIte]; omega)) only [bd_pr, pr_ap, jn_eq, lt_eq, bd_bd, bd_ite, ite_ap, bd_ld, bd_sv, bd_la, bd_sa, bd_ln, bd_rz0, bd_rz1, rz_n0, rz_n1, e_lit2, nI_z, nI_eq0, nI_0eq, nI_le0, nI_lt0, nI_0lt, nI_0le, e_001, e_n10, e_n1lt, bd_la0, bd_sa0, bd_rz00, rz_0, rz_1, b2i_0, Int32.add_zero, Int32.zero_add, nI_add, nI_pred2, pk_sub, pk_mul, pk_div, e_nz, nI_eq, nI_leI, nI_ltI, e_nm1, e_nm2, up_ap, gd_set_ne, gd_set_same, List.length_set, Nat.add_sub_cancel, Nat.reduceEqDiff, Nat.reduceAdd, Nat.reduceMul, Nat.reduceSub, Nat.reduceLT, Nat.reduceLeDiff, reduceIte, Nat.not_lt_zero, not_true_eq_false, not_false_eq_true, and_true, true_and, and_false, false_and, gX10_forgetUndosFor]
      · unfold gX11_person
        simp (disch := first | omega | (simp only [up_ap, List.length_set, Nat.reduceEqDiff, reduceIte]; omega)) only [bd_pr, pr_ap, jn_eq, lt_eq, bd_bd, bd_ite, ite_ap, bd_ld, bd_sv, bd_la, bd_sa, bd_ln, bd_rz0, bd_rz1, rz_n0, rz_n1, e_lit2, nI_z, nI_eq0, nI_0eq, nI_le0, nI_lt0, nI_0lt, nI_0le, e_001, e_n10, e_n1lt, bd_la0, bd_sa0, bd_rz00, rz_0, rz_1, b2i_0, Int32.add_zero, Int32.zero_add, nI_add, nI_pred2, pk_sub, pk_mul, pk_div, e_nz, nI_eq, nI_leI, nI_ltI, e_nm1, e_nm2, up_ap, gd_set_ne, gd_set_same, List.length_set, Nat.add_sub_cancel, Nat.reduceEqDiff, Nat.reduceAdd, Nat.reduceMul, Nat.reduceSub, Nat.reduceLT, Nat.reduceLeDiff, reduceIte, Nat.not_lt_zero, not_true_eq_false, not_false_eq_true, and_true, true_and, and_false, false_and]
        rw [bd_in, b2i_t hx]
        simp (disch := first | omega | (simp only [up_ap, List.length_set, Nat.reduceEqDiff, reduceIte]; omega)) only [bd_pr, pr_ap, jn_eq, lt_eq, bd_bd, bd_ite, ite_ap, bd_ld, bd_sv, bd_la, bd_sa, bd_ln, bd_rz0, bd_rz1, rz_n0, rz_n1, e_lit2, nI_z, nI_eq0, nI_0eq, nI_le0, nI_lt0, nI_0lt, nI_0le, e_001, e_n10, e_n1lt, bd_la0, bd_sa0, bd_rz00, rz_0, rz_1, b2i_0, Int32.add_zero, Int32.zero_add, nI_add, nI_pred2, pk_sub, pk_mul, pk_div, e_nz, nI_eq, nI_leI, nI_ltI, e_nm1, e_nm2, up_ap, gd_set_ne, gd_set_same, List.length_set, Nat.add_sub_cancel, Nat.reduceEqDiff, Nat.reduceAdd, Nat.reduceMul, Nat.reduceSub, Nat.reduceLT, Nat.reduceLeDiff, reduceIte, Nat.not_lt_zero, not_true_eq_false, not_false_eq_true, and_true, true_and, and_false, false_and, Nat_1_le_0, b6, hf]
    · have hp : np < 12 := by omega
      obtain ⟨W', hW'⟩ : ∃ W', W' = up (up (up (up (fun i => A (rh23 i)) 1 ((A 3).set np x)) 2 ((A 4).set np 0)) 3 ((A 5).set np 0)) 0 ((A 2).set 4 (nI (np + 1))) := ⟨_, rfl⟩
      have g1 : lf rh23 13 (gX9_addPerson x) A = some (nI np, pu rh23 13 W' A) := by
        rw [lf_run (p_addPerson (W := fun i => A (rh23 i)) hl hp p4 x), hW']; rfl
      have hWR : WR W' ((((B 1).set (3 + np) x).set (15 + np) 0).set (27 + np) 0) (B 4) (B 5) (np + 1) nc nt ks wh := by
        rw [hW']
        exact WR_np (WR_forgot (WR_kept (WR_mind hW hp x) hp 0) hp 0) hp
      have hpu0 : pu rh23 13 W' A 0 = A 0 := pu_out (fun i hi => by rw [rh23_v i hi]; omega) _ _
      refine ⟨nI np, up (pu rh23 13 W' A) 0 ((A 0).set 5 0), up (up B 1 ((((B 1).set (3 + np) x).set (15 + np) 0).set (27 + np) 0)) 0 ((((B 0).set 0 0).set 6 (nI (np + 1))).set 3 0), ?_, ?_, ?_⟩
      · unfold gX10_person
        simp (disch := first | omega | (simp only [up_ap, List.length_set, Nat.reduceEqDiff, reduceIte]; omega)) only [bd_pr, pr_ap, jn_eq, lt_eq, bd_bd, bd_ite, ite_ap, bd_ld, bd_sv, bd_la, bd_sa, bd_ln, bd_rz0, bd_rz1, rz_n0, rz_n1, e_lit2, nI_z, nI_eq0, nI_0eq, nI_le0, nI_lt0, nI_0lt, nI_0le, e_001, e_n10, e_n1lt, bd_la0, bd_sa0, bd_rz00, rz_0, rz_1, b2i_0, Int32.add_zero, Int32.zero_add, nI_add, nI_pred2, pk_sub, pk_mul, pk_div, e_nz, nI_eq, nI_leI, nI_ltI, e_nm1, e_nm2, up_ap, gd_set_ne, gd_set_same, List.length_set, Nat.add_sub_cancel, Nat.reduceEqDiff, Nat.reduceAdd, Nat.reduceMul, Nat.reduceSub, Nat.reduceLT, Nat.reduceLeDiff, reduceIte, Nat.not_lt_zero, not_true_eq_false, not_false_eq_true, and_true, true_and, and_false, false_and]
        rw [bd_iw, b2i_t hx]
        simp (disch := first | omega | (simp only [up_ap, List.length_set, Nat.reduceEqDiff, reduceIte]; omega)) only [bd_pr, pr_ap, jn_eq, lt_eq, bd_bd, bd_ite, ite_ap, bd_ld, bd_sv, bd_la, bd_sa, bd_ln, bd_rz0, bd_rz1, rz_n0, rz_n1, e_lit2, nI_z, nI_eq0, nI_0eq, nI_le0, nI_lt0, nI_0lt, nI_0le, e_001, e_n10, e_n1lt, bd_la0, bd_sa0, bd_rz00, rz_0, rz_1, b2i_0, Int32.add_zero, Int32.zero_add, nI_add, nI_pred2, pk_sub, pk_mul, pk_div, e_nz, nI_eq, nI_leI, nI_ltI, e_nm1, e_nm2, up_ap, gd_set_ne, gd_set_same, List.length_set, Nat.add_sub_cancel, Nat.reduceEqDiff, Nat.reduceAdd, Nat.reduceMul, Nat.reduceSub, Nat.reduceLT, Nat.reduceLeDiff, reduceIte, Nat.not_lt_zero, not_true_eq_false, not_false_eq_true, and_true, true_and, and_false, false_and, Nat_1_le_0]
        rw [bd_some g1]
        simp (disch := first | omega | (simp only [up_ap, List.length_set, Nat.reduceEqDiff, reduceIte, hpu0]; omega)) only [bd_pr, pr_ap, jn_eq, lt_eq, bd_bd, bd_ite, ite_ap, bd_ld, bd_sv, bd_la, bd_sa, bd_ln, bd_rz0, bd_rz1, rz_n0, rz_n1, e_lit2, nI_z, nI_eq0, nI_0eq, nI_le0, nI_lt0, nI_0lt, nI_0le, e_001, e_n10, e_n1lt, bd_la0, bd_sa0, bd_rz00, rz_0, rz_1, b2i_0, Int32.add_zero, Int32.zero_add, nI_add, nI_pred2, pk_sub, pk_mul, pk_div, e_nz, nI_eq, nI_leI, nI_ltI, e_nm1, e_nm2, up_ap, gd_set_ne, gd_set_same, List.length_set, Nat.add_sub_cancel, Nat.reduceEqDiff, Nat.reduceAdd, Nat.reduceMul, Nat.reduceSub, Nat.reduceLT, Nat.reduceLeDiff, reduceIte, Nat.not_lt_zero, not_true_eq_false, not_false_eq_true, and_true, true_and, and_false, false_and, gX10_forgetUndosFor, hpu0]
      · unfold gX11_person
        simp (disch := first | omega | (simp only [up_ap, List.length_set, Nat.reduceEqDiff, reduceIte]; omega)) only [bd_pr, pr_ap, jn_eq, lt_eq, bd_bd, bd_ite, ite_ap, bd_ld, bd_sv, bd_la, bd_sa, bd_ln, bd_rz0, bd_rz1, rz_n0, rz_n1, e_lit2, nI_z, nI_eq0, nI_0eq, nI_le0, nI_lt0, nI_0lt, nI_0le, e_001, e_n10, e_n1lt, bd_la0, bd_sa0, bd_rz00, rz_0, rz_1, b2i_0, Int32.add_zero, Int32.zero_add, nI_add, nI_pred2, pk_sub, pk_mul, pk_div, e_nz, nI_eq, nI_leI, nI_ltI, e_nm1, e_nm2, up_ap, gd_set_ne, gd_set_same, List.length_set, Nat.add_sub_cancel, Nat.reduceEqDiff, Nat.reduceAdd, Nat.reduceMul, Nat.reduceSub, Nat.reduceLT, Nat.reduceLeDiff, reduceIte, Nat.not_lt_zero, not_true_eq_false, not_false_eq_true, and_true, true_and, and_false, false_and]
        rw [bd_in, b2i_t hx]
        simp (disch := first | omega | (simp only [up_ap, List.length_set, Nat.reduceEqDiff, reduceIte]; omega)) only [bd_pr, pr_ap, jn_eq, lt_eq, bd_bd, bd_ite, ite_ap, bd_ld, bd_sv, bd_la, bd_sa, bd_ln, bd_rz0, bd_rz1, rz_n0, rz_n1, e_lit2, nI_z, nI_eq0, nI_0eq, nI_le0, nI_lt0, nI_0lt, nI_0le, e_001, e_n10, e_n1lt, bd_la0, bd_sa0, bd_rz00, rz_0, rz_1, b2i_0, Int32.add_zero, Int32.zero_add, nI_add, nI_pred2, pk_sub, pk_mul, pk_div, e_nz, nI_eq, nI_leI, nI_ltI, e_nm1, e_nm2, up_ap, gd_set_ne, gd_set_same, List.length_set, Nat.add_sub_cancel, Nat.reduceEqDiff, Nat.reduceAdd, Nat.reduceMul, Nat.reduceSub, Nat.reduceLT, Nat.reduceLeDiff, reduceIte, Nat.not_lt_zero, not_true_eq_false, not_false_eq_true, and_true, true_and, and_false, false_and, Nat_1_le_0, b6, hf, up_up]
        first | done | (rw [up_comm B (i := 0) (j := 1) (by decide)]; simp (disch := first | omega | (simp only [up_ap, List.length_set, Nat.reduceEqDiff, reduceIte]; omega)) only [bd_pr, pr_ap, jn_eq, lt_eq, bd_bd, bd_ite, ite_ap, bd_ld, bd_sv, bd_la, bd_sa, bd_ln, bd_rz0, bd_rz1, rz_n0, rz_n1, e_lit2, nI_z, nI_eq0, nI_0eq, nI_le0, nI_lt0, nI_0lt, nI_0le, e_001, e_n10, e_n1lt, bd_la0, bd_sa0, bd_rz00, rz_0, rz_1, b2i_0, Int32.add_zero, Int32.zero_add, nI_add, nI_pred2, pk_sub, pk_mul, pk_div, e_nz, nI_eq, nI_leI, nI_ltI, e_nm1, e_nm2, up_ap, gd_set_ne, gd_set_same, List.length_set, Nat.add_sub_cancel, Nat.reduceEqDiff, Nat.reduceAdd, Nat.reduceMul, Nat.reduceSub, Nat.reduceLT, Nat.reduceLeDiff, reduceIte, Nat.not_lt_zero, not_true_eq_false, not_false_eq_true, and_true, true_and, and_false, false_and, up_up])
      · refine R_W0 h hH hU (by omega) (Nat.le_refl _) (Nat.le_refl _) (B' := up (up B 1 ((((B 1).set (3 + np) x).set (15 + np) 0).set (27 + np) 0)) 0 ((((B 0).set 0 0).set 6 (nI (np + 1))).set 3 0)) hWR (by rw [hW', up_same, gd_set_ne (by decide)]; exact hw0) (fun i a b c d e => by rw [up_ne _ _ b, up_ne _ _ c]) (by rw [up_same]; simp only [List.length_set]; exact hb0) (fun s hs => ?_) (by rw [up_same, gd_set_same (by simp only [List.length_set]; omega)]) ?_ ?_ ?_
        · rw [up_same, gd_set_ne (fun q => by subst q; exact absurd hs (by decide)), gd_set_ne (fun q => by subst q; exact absurd hs (by decide)), gd_set_ne (fun q => by subst q; exact absurd hs (by decide))]
        · rw [up_same, gd_set_ne (by decide), gd_set_same (by simp only [List.length_set]; omega)]
        · rw [up_same, gd_set_ne (by decide), gd_set_ne (by decide), gd_set_ne (by decide)]; exact b7
        · rw [up_same, gd_set_ne (by decide), gd_set_ne (by decide), gd_set_ne (by decide)]; exact b8
  · refine ⟨-nI 1, A, _, ?_, ?_, hRt⟩
    · unfold gX10_person
      simp (disch := first | omega | (simp only [up_ap, List.length_set, Nat.reduceEqDiff, reduceIte]; omega)) only [bd_pr, pr_ap, jn_eq, lt_eq, bd_bd, bd_ite, ite_ap, bd_ld, bd_sv, bd_la, bd_sa, bd_ln, bd_rz0, bd_rz1, rz_n0, rz_n1, e_lit2, nI_z, nI_eq0, nI_0eq, nI_le0, nI_lt0, nI_0lt, nI_0le, e_001, e_n10, e_n1lt, bd_la0, bd_sa0, bd_rz00, rz_0, rz_1, b2i_0, Int32.add_zero, Int32.zero_add, nI_add, nI_pred2, pk_sub, pk_mul, pk_div, e_nz, nI_eq, nI_leI, nI_ltI, e_nm1, e_nm2, up_ap, gd_set_ne, gd_set_same, List.length_set, Nat.add_sub_cancel, Nat.reduceEqDiff, Nat.reduceAdd, Nat.reduceMul, Nat.reduceSub, Nat.reduceLT, Nat.reduceLeDiff, reduceIte, Nat.not_lt_zero, not_true_eq_false, not_false_eq_true, and_true, true_and, and_false, false_and]
      rw [bd_iw, b2i_f hx]
      simp (disch := first | omega | (simp only [up_ap, List.length_set, Nat.reduceEqDiff, reduceIte]; omega)) only [bd_pr, pr_ap, jn_eq, lt_eq, bd_bd, bd_ite, ite_ap, bd_ld, bd_sv, bd_la, bd_sa, bd_ln, bd_rz0, bd_rz1, rz_n0, rz_n1, e_lit2, nI_z, nI_eq0, nI_0eq, nI_le0, nI_lt0, nI_0lt, nI_0le, e_001, e_n10, e_n1lt, bd_la0, bd_sa0, bd_rz00, rz_0, rz_1, b2i_0, Int32.add_zero, Int32.zero_add, nI_add, nI_pred2, pk_sub, pk_mul, pk_div, e_nz, nI_eq, nI_leI, nI_ltI, e_nm1, e_nm2, up_ap, gd_set_ne, gd_set_same, List.length_set, Nat.add_sub_cancel, Nat.reduceEqDiff, Nat.reduceAdd, Nat.reduceMul, Nat.reduceSub, Nat.reduceLT, Nat.reduceLeDiff, reduceIte, Nat.not_lt_zero, not_true_eq_false, not_false_eq_true, and_true, true_and, and_false, false_and]
    · unfold gX11_person
      simp (disch := first | omega | (simp only [up_ap, List.length_set, Nat.reduceEqDiff, reduceIte]; omega)) only [bd_pr, pr_ap, jn_eq, lt_eq, bd_bd, bd_ite, ite_ap, bd_ld, bd_sv, bd_la, bd_sa, bd_ln, bd_rz0, bd_rz1, rz_n0, rz_n1, e_lit2, nI_z, nI_eq0, nI_0eq, nI_le0, nI_lt0, nI_0lt, nI_0le, e_001, e_n10, e_n1lt, bd_la0, bd_sa0, bd_rz00, rz_0, rz_1, b2i_0, Int32.add_zero, Int32.zero_add, nI_add, nI_pred2, pk_sub, pk_mul, pk_div, e_nz, nI_eq, nI_leI, nI_ltI, e_nm1, e_nm2, up_ap, gd_set_ne, gd_set_same, List.length_set, Nat.add_sub_cancel, Nat.reduceEqDiff, Nat.reduceAdd, Nat.reduceMul, Nat.reduceSub, Nat.reduceLT, Nat.reduceLeDiff, reduceIte, Nat.not_lt_zero, not_true_eq_false, not_false_eq_true, and_true, true_and, and_false, false_and]
      rw [bd_in, b2i_f hx]
      simp (disch := first | omega | (simp only [up_ap, List.length_set, Nat.reduceEqDiff, reduceIte]; omega)) only [bd_pr, pr_ap, jn_eq, lt_eq, bd_bd, bd_ite, ite_ap, bd_ld, bd_sv, bd_la, bd_sa, bd_ln, bd_rz0, bd_rz1, rz_n0, rz_n1, e_lit2, nI_z, nI_eq0, nI_0eq, nI_le0, nI_lt0, nI_0lt, nI_0le, e_001, e_n10, e_n1lt, bd_la0, bd_sa0, bd_rz00, rz_0, rz_1, b2i_0, Int32.add_zero, Int32.zero_add, nI_add, nI_pred2, pk_sub, pk_mul, pk_div, e_nz, nI_eq, nI_leI, nI_ltI, e_nm1, e_nm2, up_ap, gd_set_ne, gd_set_same, List.length_set, Nat.add_sub_cancel, Nat.reduceEqDiff, Nat.reduceAdd, Nat.reduceMul, Nat.reduceSub, Nat.reduceLT, Nat.reduceLeDiff, reduceIte, Nat.not_lt_zero, not_true_eq_false, not_false_eq_true, and_true, true_and, and_false, false_and]
