/-! PURE: clothOf, thingOf, book, look, fault, end -/
theorem p_knotAt_no {W : Bk} {nc c i : Nat} {l : List Nat} (hW : WL W) (h5 : (W 0).getD 5 0 = nI nc) (hc : c < nc) (hnc : nc ≤ 14) (hl : l.length ≤ 4) (h6 : (W 6).getD c 0 = nI l.length) (hi : l.length ≤ i) (hi4 : i < 4) : gX9_knotAt (nI c) (nI i) W = some (-nI 1, W) := by
  obtain ⟨l0, l1, l2, l3, l4, l5, l6, l7, -⟩ := hW
  unfold gX9_knotAt
  rw [bd_some (t_hasCloth l0 h5 hc (by omega))]
  have n4 : ¬ 4 ≤ i := by omega
  have n5 : ¬ i < l.length := by omega
  simp (disch := first | omega | (simp only [up_ap, List.length_set, Nat.reduceEqDiff, reduceIte] <;> omega)) only [Int32.le_refl, bd_pr, pr_ap, jn_eq, lt_eq, bd_bd, bd_ite, ite_ap, bd_ld, bd_sv, bd_la, bd_sa, bd_ln, bd_rz0, bd_rz1, rz_n0, rz_n1, e_lit2, nI_z, nI_eq0, nI_0eq, nI_le0, nI_lt0, nI_0lt, nI_0le, e_001, e_n10, e_n1lt, bd_la0, bd_sa0, bd_rz00, rz_0, rz_1, b2i_0, Int32.add_zero, Int32.zero_add, nI_add, nI_pred2, pk_sub, pk_mul, pk_div, e_nz, nI_eq, nI_leI, nI_ltI, e_nm1, e_nm2, up_ap, gd_set_ne, gd_set_same, List.length_set, Nat.add_sub_cancel, Nat.reduceEqDiff, Nat.reduceAdd, Nat.reduceMul, Nat.reduceSub, Nat.reduceLT, Nat.reduceLeDiff, reduceIte, Nat.not_lt_zero, not_true_eq_false, not_false_eq_true, and_true, true_and, and_false, false_and, Nat_1_le_0, h6, n4, n5]
set_option maxHeartbeats 400000 in
theorem op_clothOf {A B : Bk} (h : R A B) (x y : Int32) : ∃ r A' B', gX10_clothOf x y A = some (r, A') ∧ gX11_clothOf x y B = some (r, B') ∧ R A' B' := by
  have hb0 := R_B0 h
  have hRt := R_told h
  obtain ⟨B0, hB0⟩ : ∃ z, z = up B 0 ((B 0).set 0 0) := ⟨_, rfl⟩
  rw [← hB0] at hRt
  have z0 := R_B0 hRt
  obtain ⟨⟨np, nc, nt, ks, wh, hH, hU⟩, hT, hI, hA, hB⟩ := id hRt
  obtain ⟨hW, hw0⟩ := R_W hH
  obtain ⟨hl, ⟨hn1, hn2, hn3, hn4⟩, ⟨p1, p2, p3, p4, p5, p6⟩, he, ⟨s1, s2, s3, s4, s5, s6, s7⟩, hod, ho, hd, hw, ⟨k1, k2, k3⟩⟩ := id hW
  obtain ⟨l0, l1, l2, l3, l4, l5, l6, l7, l8, l9, l10, l11, l12⟩ := id hl
  have b6 : (B0 0).getD 6 0 = nI np := hH.1.2.2.2.1.2.2.1
  have b7 : (B0 0).getD 7 0 = nI nc := hH.1.2.2.2.1.2.2.2.1
  have b8 : (B0 0).getD 8 0 = nI nt := hH.1.2.2.2.1.2.2.2.2
  have m4 : (B0 4).length = 20 := by rw [← hod.1]; exact l8
  have m5 : (B0 5).length = 20 := by rw [← hod.2]; exact l9
  by_cases hx : 0 ≤ x ∧ x < nI nc
  · obtain ⟨c, hc, rfl⟩ := in_rng (by omega) hx
    obtain ⟨a1, a2, a3, a4, a5⟩ := k1 c hc
    have g1 := t_hasCloth (W := fun i => A (rh23 i)) l0 p5 hc (by omega)
    have g2 := t_isCloth z0 b7 hc (by omega)
    have m6 : (A 6).length = 14 := l4
    have m7 : (A 7).length = 14 := l5
    have m8 : (A 8).length = 14 := l6
    have cl : ∀ r, gX10_clothOf (nI c) y A = some (r, A) → gX10_clothOf (nI c) y A = some (r, A) := fun r hr => hr
    have hks : ∀ j, j < (ks c).length → (ks c).getD j 0 < 20 := fun j hj => by
      have := ((k3 c _ hc).mp (getD_mem hj)).1
      omega
    by_cases hy : 0 ≤ y ∧ y ≤ nI 13
    · obtain ⟨k, hk, rfl⟩ := wi_rng (n := 13) (by decide) hy
      rcases (show k = 0 ∨ k = 1 ∨ k = 2 ∨ (3 ≤ k ∧ k < 10) ∨ (10 ≤ k ∧ k ≤ 13) by omega) with rfl | rfl | rfl | hk3 | hk10
      · refine ⟨(B0 1).getD (39 + c) 0, A, B0, ?_, ?_, hRt⟩
        · have e : (A 6).getD c 0 = (B0 1).getD (39 + c) 0 := s4 c (by omega)
          unfold gX10_clothOf
          rw [bd_lf0 _ g1, if_neg (by decide)]
          simp only [jn_eq]
          rw [swt_list (by decide)]
          simp only [List.getD_cons_zero]
          rw [bd_la _ (by omega) (by omega), e]; rfl
        · unfold gX11_clothOf
          rw [told0 _ hb0, ← hB0, bd_some g2, if_neg (by decide)]
          simp (disch := first | omega | (simp only [up_ap, List.length_set, Nat.reduceEqDiff, reduceIte] <;> omega)) only [Int32.le_refl, bd_pr, pr_ap, jn_eq, lt_eq, bd_bd, bd_ite, ite_ap, bd_ld, bd_sv, bd_la, bd_sa, bd_ln, bd_rz0, bd_rz1, rz_n0, rz_n1, e_lit2, nI_z, nI_eq0, nI_0eq, nI_le0, nI_lt0, nI_0lt, nI_0le, e_001, e_n10, e_n1lt, bd_la0, bd_sa0, bd_rz00, rz_0, rz_1, b2i_0, Int32.add_zero, Int32.zero_add, nI_add, nI_pred2, pk_sub, pk_mul, pk_div, e_nz, nI_eq, nI_leI, nI_ltI, e_nm1, e_nm2, up_ap, gd_set_ne, gd_set_same, List.length_set, Nat.add_sub_cancel, Nat.reduceEqDiff, Nat.reduceAdd, Nat.reduceMul, Nat.reduceSub, Nat.reduceLT, Nat.reduceLeDiff, reduceIte, Nat.not_lt_zero, not_true_eq_false, not_false_eq_true, and_true, true_and, and_false, false_and, Int32.mul_zero]
      · refine ⟨(B0 1).getD (53 + c) 0, A, B0, ?_, ?_, hRt⟩
        · have e : (A 7).getD c 0 = (B0 1).getD (53 + c) 0 := s5 c (by omega)
          unfold gX10_clothOf
          rw [bd_lf0 _ g1, if_neg (by decide)]
          simp only [jn_eq]
          rw [swt_list (by decide)]
          simp only [List.getD_cons_zero, List.getD_cons_succ]
          rw [bd_la _ (by omega) (by omega), e]; rfl
        · unfold gX11_clothOf
          rw [told0 _ hb0, ← hB0, bd_some g2, if_neg (by decide)]
          simp (disch := first | omega | (simp only [up_ap, List.length_set, Nat.reduceEqDiff, reduceIte] <;> omega)) only [Int32.le_refl, bd_pr, pr_ap, jn_eq, lt_eq, bd_bd, bd_ite, ite_ap, bd_ld, bd_sv, bd_la, bd_sa, bd_ln, bd_rz0, bd_rz1, rz_n0, rz_n1, e_lit2, nI_z, nI_eq0, nI_0eq, nI_le0, nI_lt0, nI_0lt, nI_0le, e_001, e_n10, e_n1lt, bd_la0, bd_sa0, bd_rz00, rz_0, rz_1, b2i_0, Int32.add_zero, Int32.zero_add, nI_add, nI_pred2, pk_sub, pk_mul, pk_div, e_nz, nI_eq, nI_leI, nI_ltI, e_nm1, e_nm2, up_ap, gd_set_ne, gd_set_same, List.length_set, Nat.add_sub_cancel, Nat.reduceEqDiff, Nat.reduceAdd, Nat.reduceMul, Nat.reduceSub, Nat.reduceLT, Nat.reduceLeDiff, reduceIte, Nat.not_lt_zero, not_true_eq_false, not_false_eq_true, and_true, true_and, and_false, false_and, Nat_1_le_0]
      · have hkn := p_knotsOf (B := B0) hn1 (show c < 14 by omega) a1 a5 (fun x hx => by have := ((k3 c x hc).mp hx).1; omega)
        refine ⟨nI (ks c).length, A, B0, ?_, ?_, hRt⟩
        · have e : (A 8).getD c 0 = nI (ks c).length := a3
          unfold gX10_clothOf
          rw [bd_lf0 _ g1, if_neg (by decide)]
          simp only [jn_eq]
          rw [swt_list (by decide)]
          simp only [List.getD_cons_zero, List.getD_cons_succ]
          rw [bd_la _ (by omega) (by omega), e]; rfl
        · unfold gX11_clothOf
          rw [told0 _ hb0, ← hB0, bd_some g2, if_neg (by decide)]
          simp (disch := first | omega | (simp only [up_ap, List.length_set, Nat.reduceEqDiff, reduceIte] <;> omega)) only [Int32.le_refl, bd_pr, pr_ap, jn_eq, lt_eq, bd_bd, bd_ite, ite_ap, bd_ld, bd_sv, bd_la, bd_sa, bd_ln, bd_rz0, bd_rz1, rz_n0, rz_n1, e_lit2, nI_z, nI_eq0, nI_0eq, nI_le0, nI_lt0, nI_0lt, nI_0le, e_001, e_n10, e_n1lt, bd_la0, bd_sa0, bd_rz00, rz_0, rz_1, b2i_0, Int32.add_zero, Int32.zero_add, nI_add, nI_pred2, pk_sub, pk_mul, pk_div, e_nz, nI_eq, nI_leI, nI_ltI, e_nm1, e_nm2, up_ap, gd_set_ne, gd_set_same, List.length_set, Nat.add_sub_cancel, Nat.reduceEqDiff, Nat.reduceAdd, Nat.reduceMul, Nat.reduceSub, Nat.reduceLT, Nat.reduceLeDiff, reduceIte, Nat.not_lt_zero, not_true_eq_false, not_false_eq_true, and_true, true_and, and_false, false_and, Nat_1_le_0]
          rw [bd_some hkn]; rfl
      · refine ⟨-nI 2, A, B0, ?_, ?_, hRt⟩
        · unfold gX10_clothOf
          rw [bd_lf0 _ g1, if_neg (by decide)]
          simp only [jn_eq]
          rw [swt_list (by omega)]
          rcases (show k = 3 ∨ k = 4 ∨ k = 5 ∨ k = 6 ∨ k = 7 ∨ k = 8 ∨ k = 9 by omega) with z | z | z | z | z | z | z <;> subst z <;> rfl
        · have n0 : ¬ k = 0 := by omega
          have n1 : ¬ k = 1 := by omega
          have n2 : ¬ k = 2 := by omega
          unfold gX11_clothOf
          rw [told0 _ hb0, ← hB0, bd_some g2, if_neg (by decide)]
          simp (disch := first | omega | (simp only [up_ap, List.length_set, Nat.reduceEqDiff, reduceIte] <;> omega)) only [Int32.le_refl, bd_pr, pr_ap, jn_eq, lt_eq, bd_bd, bd_ite, ite_ap, bd_ld, bd_sv, bd_la, bd_sa, bd_ln, bd_rz0, bd_rz1, rz_n0, rz_n1, e_lit2, nI_z, nI_eq0, nI_0eq, nI_le0, nI_lt0, nI_0lt, nI_0le, e_001, e_n10, e_n1lt, bd_la0, bd_sa0, bd_rz00, rz_0, rz_1, b2i_0, Int32.add_zero, Int32.zero_add, nI_add, nI_pred2, pk_sub, pk_mul, pk_div, e_nz, nI_eq, nI_leI, nI_ltI, e_nm1, e_nm2, up_ap, gd_set_ne, gd_set_same, List.length_set, Nat.add_sub_cancel, Nat.reduceEqDiff, Nat.reduceAdd, Nat.reduceMul, Nat.reduceSub, Nat.reduceLT, Nat.reduceLeDiff, reduceIte, Nat.not_lt_zero, not_true_eq_false, not_false_eq_true, and_true, true_and, and_false, false_and, n0, n1, n2]
          rw [bd_in, b2i_f (fun q => by have := (nI_leI (a := 10) (b := k) (by decide) (by omega)).mp q.1; omega)]
          simp (disch := first | omega | (simp only [up_ap, List.length_set, Nat.reduceEqDiff, reduceIte] <;> omega)) only [Int32.le_refl, bd_pr, pr_ap, jn_eq, lt_eq, bd_bd, bd_ite, ite_ap, bd_ld, bd_sv, bd_la, bd_sa, bd_ln, bd_rz0, bd_rz1, rz_n0, rz_n1, e_lit2, nI_z, nI_eq0, nI_0eq, nI_le0, nI_lt0, nI_0lt, nI_0le, e_001, e_n10, e_n1lt, bd_la0, bd_sa0, bd_rz00, rz_0, rz_1, b2i_0, Int32.add_zero, Int32.zero_add, nI_add, nI_pred2, pk_sub, pk_mul, pk_div, e_nz, nI_eq, nI_leI, nI_ltI, e_nm1, e_nm2, up_ap, gd_set_ne, gd_set_same, List.length_set, Nat.add_sub_cancel, Nat.reduceEqDiff, Nat.reduceAdd, Nat.reduceMul, Nat.reduceSub, Nat.reduceLT, Nat.reduceLeDiff, reduceIte, Nat.not_lt_zero, not_true_eq_false, not_false_eq_true, and_true, true_and, and_false, false_and]
      · obtain ⟨i, rfl⟩ : ∃ i, k = 10 + i := ⟨k - 10, by omega⟩
        have hi4 : i < 4 := by omega
        have n0 : ¬ 10 + i = 0 := by omega
        have n1 : ¬ 10 + i = 1 := by omega
        have n2 : ¬ 10 + i = 2 := by omega
        have e10 : 10 + i - 10 = i := by omega
        have hr := a5 i hi4
        have hsub : nI (10 + i) - (10 : Int32) = nI i := by
          have := pk_sub (a := 10 + i) (b := 10) (by omega)
          rw [e10] at this; exact this
        have hcl : ∀ r, gX9_knotAt (nI c) (nI i) (fun i => A (rh23 i)) = some (r, fun i => A (rh23 i)) → gX10_clothOf (nI c) (nI (10 + i)) A = some (r, A) := fun r hr => by
          unfold gX10_clothOf
          rw [bd_lf0 _ g1, if_neg (by decide)]
          simp only [jn_eq]
          rw [swt_list (by omega)]
          have : bd (lf rh23 13 (gX9_knotAt (nI c) (nI (10 + i) - 10))) (fun r6 => pr r6) A = some (r, A) := by
            rw [hsub, bd_lf0 _ hr]; rfl
          rcases (show i = 0 ∨ i = 1 ∨ i = 2 ∨ i = 3 by omega) with z | z | z | z <;> subst z <;> exact this
        have hmo : ∀ r, nI 0 = nI 0 → (if i < (ks c).length then nI ((ks c).getD i 0 + 1) else nI 0) - nI 1 = r → gX11_clothOf (nI c) (nI (10 + i)) B = some (r, B0) := fun r _ hr2 => by
          unfold gX11_clothOf
          rw [told0 _ hb0, ← hB0, bd_some g2, if_neg (by decide)]
          simp (disch := first | omega | (simp only [up_ap, List.length_set, Nat.reduceEqDiff, reduceIte] <;> omega)) only [Int32.le_refl, bd_pr, pr_ap, jn_eq, lt_eq, bd_bd, bd_ite, ite_ap, bd_ld, bd_sv, bd_la, bd_sa, bd_ln, bd_rz0, bd_rz1, rz_n0, rz_n1, e_lit2, nI_z, nI_eq0, nI_0eq, nI_le0, nI_lt0, nI_0lt, nI_0le, e_001, e_n10, e_n1lt, bd_la0, bd_sa0, bd_rz00, rz_0, rz_1, b2i_0, Int32.add_zero, Int32.zero_add, nI_add, nI_pred2, pk_sub, pk_mul, pk_div, e_nz, nI_eq, nI_leI, nI_ltI, e_nm1, e_nm2, up_ap, gd_set_ne, gd_set_same, List.length_set, Nat.add_sub_cancel, Nat.reduceEqDiff, Nat.reduceAdd, Nat.reduceMul, Nat.reduceSub, Nat.reduceLT, Nat.reduceLeDiff, reduceIte, Nat.not_lt_zero, not_true_eq_false, not_false_eq_true, and_true, true_and, and_false, false_and, n0, n1, n2]
          rw [bd_in, b2i_t (show nI 10 ≤ nI (10 + i) ∧ nI (10 + i) ≤ nI 13 from ⟨nI_le (by omega) (by omega), nI_le (by omega) (by decide)⟩)]
          have hkf : gX11_knotOf (nI c) (nI i) B0 = some (r, B0) := by
            unfold gX11_knotOf
            rw [show (67 : Int32) + 4 * nI c + nI i = nI (67 + 4 * c + i) by
              rw [show (67 : Int32) = nI 67 from rfl, show (4 : Int32) = nI 4 from rfl, pk_mul, nI_add, nI_add], bd_la _ (by omega) (by omega), hr, ← hr2]; rfl
          simp (disch := first | omega | (simp only [up_ap, List.length_set, Nat.reduceEqDiff, reduceIte] <;> omega)) only [Int32.le_refl, bd_pr, pr_ap, jn_eq, lt_eq, bd_bd, bd_ite, ite_ap, bd_ld, bd_sv, bd_la, bd_sa, bd_ln, bd_rz0, bd_rz1, rz_n0, rz_n1, e_lit2, nI_z, nI_eq0, nI_0eq, nI_le0, nI_lt0, nI_0lt, nI_0le, e_001, e_n10, e_n1lt, bd_la0, bd_sa0, bd_rz00, rz_0, rz_1, b2i_0, Int32.add_zero, Int32.zero_add, nI_add, nI_pred2, pk_sub, pk_mul, pk_div, e_nz, nI_eq, nI_leI, nI_ltI, e_nm1, e_nm2, up_ap, gd_set_ne, gd_set_same, List.length_set, Nat.add_sub_cancel, Nat.reduceEqDiff, Nat.reduceAdd, Nat.reduceMul, Nat.reduceSub, Nat.reduceLT, Nat.reduceLeDiff, reduceIte, Nat.not_lt_zero, not_true_eq_false, not_false_eq_true, and_true, true_and, and_false, false_and, Nat_1_le_0, e10]
          rw [bd_some hkf]; rfl
        by_cases hil : i < (ks c).length
        · have e1 := p_knotAt (W := fun i => A (rh23 i)) (i := i) hl p5 hc hn3 a1 a3 (a4 i hil) hil
          exact ⟨_, A, B0, hcl _ e1, hmo _ rfl (by rw [if_pos hil, nI_pred2]), hRt⟩
        · have e1 := p_knotAt_no (W := fun i => A (rh23 i)) (i := i) hl p5 hc hn3 a1 a3 (by omega) hi4
          exact ⟨_, A, B0, hcl _ e1, hmo _ rfl (by rw [if_neg hil, e_01]), hRt⟩
    · have hno : ∀ m : Nat, m < 14 → y ≠ nI m := fun m hm q => hy (by rw [q]; exact ⟨nI_pos' (by omega), nI_le (by omega) (by decide)⟩)
      refine ⟨-nI 2, A, B0, ?_, ?_, hRt⟩
      · unfold gX10_clothOf
        rw [bd_lf0 _ g1, if_neg (by decide)]
        simp only [jn_eq]
        rw [swt_no (fun m hm => hno m (by simpa using hm)) (by simp)]; rfl
      · have n0 : ¬ y = 0 := hno 0 (by decide)
        have n1 : ¬ y = nI 1 := hno 1 (by decide)
        have n2 : ¬ y = nI 2 := hno 2 (by decide)
        have n3 : ¬ (nI 10 ≤ y ∧ y ≤ nI 13) := fun q => hy ⟨Int32.le_trans (by decide) q.1, q.2⟩
        unfold gX11_clothOf
        rw [told0 _ hb0, ← hB0, bd_some g2, if_neg (by decide)]
        simp (disch := first | omega | (simp only [up_ap, List.length_set, Nat.reduceEqDiff, reduceIte] <;> omega)) only [Int32.le_refl, bd_pr, pr_ap, jn_eq, lt_eq, bd_bd, bd_ite, ite_ap, bd_ld, bd_sv, bd_la, bd_sa, bd_ln, bd_rz0, bd_rz1, rz_n0, rz_n1, e_lit2, nI_z, nI_eq0, nI_0eq, nI_le0, nI_lt0, nI_0lt, nI_0le, e_001, e_n10, e_n1lt, bd_la0, bd_sa0, bd_rz00, rz_0, rz_1, b2i_0, Int32.add_zero, Int32.zero_add, nI_add, nI_pred2, pk_sub, pk_mul, pk_div, e_nz, nI_eq, nI_leI, nI_ltI, e_nm1, e_nm2, up_ap, gd_set_ne, gd_set_same, List.length_set, Nat.add_sub_cancel, Nat.reduceEqDiff, Nat.reduceAdd, Nat.reduceMul, Nat.reduceSub, Nat.reduceLT, Nat.reduceLeDiff, reduceIte, Nat.not_lt_zero, not_true_eq_false, not_false_eq_true, and_true, true_and, and_false, false_and, n0, n1, n2]
        rw [bd_in, b2i_f n3]
        simp (disch := first | omega | (simp only [up_ap, List.length_set, Nat.reduceEqDiff, reduceIte] <;> omega)) only [Int32.le_refl, bd_pr, pr_ap, jn_eq, lt_eq, bd_bd, bd_ite, ite_ap, bd_ld, bd_sv, bd_la, bd_sa, bd_ln, bd_rz0, bd_rz1, rz_n0, rz_n1, e_lit2, nI_z, nI_eq0, nI_0eq, nI_le0, nI_lt0, nI_0lt, nI_0le, e_001, e_n10, e_n1lt, bd_la0, bd_sa0, bd_rz00, rz_0, rz_1, b2i_0, Int32.add_zero, Int32.zero_add, nI_add, nI_pred2, pk_sub, pk_mul, pk_div, e_nz, nI_eq, nI_leI, nI_ltI, e_nm1, e_nm2, up_ap, gd_set_ne, gd_set_same, List.length_set, Nat.add_sub_cancel, Nat.reduceEqDiff, Nat.reduceAdd, Nat.reduceMul, Nat.reduceSub, Nat.reduceLT, Nat.reduceLeDiff, reduceIte, Nat.not_lt_zero, not_true_eq_false, not_false_eq_true, and_true, true_and, and_false, false_and]
  · refine ⟨-nI 2, A, B0, ?_, ?_, hRt⟩
    · unfold gX10_clothOf
      rw [bd_lf0 _ (f_hasCloth (W := fun i => A (rh23 i)) l0 p5 hx)]; rfl
    · unfold gX11_clothOf
      rw [told0 _ hb0, ← hB0, bd_some (f_isCloth z0 b7 hx)]; rfl
/-- asked in the house: scratch alone changes -/
theorem ask_R {A B : Bk} {np nc nt : Nat} {ks : Nat → List Nat} {wh : Nat → Nat} {s35 s9 b21 : List Int32} (h : R A B) (hH : HH (fun i => A (rh24 i)) B np nc nt ks wh) (hU : UD A B np nc nt) (g3 : s35.length = 9) (g4 : s9.length = 400) (g5 : b21.length = 420) : R (pu rh24 49 (up (up (fun i => A (rh24 i)) 35 s35) 9 s9) A) (up (up B 20 s35) 21 b21) := by
  have z9 : (A (rh24 9)).length = 400 := hH.1.2.2.2.2.1.1.2.2.2.2.2.2
  have z35 := hH.1.2.2.2.2.2.2.2
  have hF : HF (fun i => A (rh24 i)) (up (up (fun i => A (rh24 i)) 35 s35) 9 s9) B (up (up B 20 s35) 21 b21) := HF_trans (HF_trans (HF_H (k := 35) (by omega) (by rw [g3, z35.2.1])) (HF_H (k := 9) (by omega) (by rw [g4, up_ne _ _ (by omega)]; exact z9.symm))) (HF_trans (HF_B (k := 20) (by omega) (by rw [g3, z35.2.2.1])) (HF_B (k := 21) (by omega) (by rw [g5, up_ne _ _ (by omega), z35.2.2.2])))
  obtain ⟨ks', wh', r, -, -⟩ := R_DR h hH hU ⟨ks, wh, HR_scratch hH.1 g4 g3 g3 g5, hF⟩
  exact r
set_option maxHeartbeats 400000 in
theorem op_thingOf {A B : Bk} (h : R A B) (x y : Int32) : ∃ r A' B', gX10_thingOf x y A = some (r, A') ∧ gX11_thingOf x y B = some (r, B') ∧ R A' B' := by
  have hb0 := R_B0 h
  have hRt := R_told h
  obtain ⟨B0, hB0⟩ : ∃ z, z = up B 0 ((B 0).set 0 0) := ⟨_, rfl⟩
  rw [← hB0] at hRt
  have z0 := R_B0 hRt
  obtain ⟨⟨np, nc, nt, ks, wh, hH, hU⟩, hT, hI, hA, hB⟩ := id hRt
  obtain ⟨hW, hw0⟩ := R_W hH
  obtain ⟨hl, ⟨hn1, hn2, hn3, hn4⟩, ⟨p1, p2, p3, p4, p5, p6⟩, he, ⟨s1, s2, s3, s4, s5, s6, s7⟩, hod, ho, hd, hw, ⟨k1, k2, k3⟩⟩ := id hW
  obtain ⟨l0, l1, l2, l3, l4, l5, l6, l7, l8, l9, l10, l11, l12⟩ := id hl
  have b6 : (B0 0).getD 6 0 = nI np := hH.1.2.2.2.1.2.2.1
  have b7 : (B0 0).getD 7 0 = nI nc := hH.1.2.2.2.1.2.2.2.1
  have b8 : (B0 0).getD 8 0 = nI nt := hH.1.2.2.2.1.2.2.2.2
  have m4 : (B0 4).length = 20 := by rw [← hod.1]; exact l8
  have m5 : (B0 5).length = 20 := by rw [← hod.2]; exact l9
  by_cases hx : 0 ≤ x ∧ x < nI nt
  · obtain ⟨t, ht, rfl⟩ := in_rng (by omega) hx
    obtain ⟨y1, y2, y3, y4⟩ := k2 t ht
    have g1 := t_hasThing (W := fun i => A (rh23 i)) l0 p6 ht (by omega)
    have g2 := t_isThing z0 b8 ht (by omega)
    have m10 : (A 10).length = 20 := l8
    have m11 : (A 11).length = 20 := l9
    have m12 : (A 12).length = 20 := l10
    have m13 : (A 13).length = 20 := l11
    have m14 : (A 14).length = 20 := l12
    have e12 : (A 12).getD t 0 = nI (wh t) - nI 1 := y3
    have hin : gX11_inCloth (nI t) B0 = some (nI (wh t) - nI 1, B0) := by
      unfold gX11_inCloth
      simp (disch := first | omega | (simp only [up_ap, List.length_set, Nat.reduceEqDiff, reduceIte] <;> omega)) only [Int32.le_refl, bd_pr, pr_ap, jn_eq, lt_eq, bd_bd, bd_ite, ite_ap, bd_ld, bd_sv, bd_la, bd_sa, bd_ln, bd_rz0, bd_rz1, rz_n0, rz_n1, e_lit2, nI_z, nI_eq0, nI_0eq, nI_le0, nI_lt0, nI_0lt, nI_0le, e_001, e_n10, e_n1lt, bd_la0, bd_sa0, bd_rz00, rz_0, rz_1, b2i_0, Int32.add_zero, Int32.zero_add, nI_add, nI_pred2, pk_sub, pk_mul, pk_div, e_nz, nI_eq, nI_leI, nI_ltI, e_nm1, e_nm2, up_ap, gd_set_ne, gd_set_same, List.length_set, Nat.add_sub_cancel, Nat.reduceEqDiff, Nat.reduceAdd, Nat.reduceMul, Nat.reduceSub, Nat.reduceLT, Nat.reduceLeDiff, reduceIte, Nat.not_lt_zero, not_true_eq_false, not_false_eq_true, and_true, true_and, and_false, false_and, y2]
      first | done | rfl
    have hsw : ∀ {K : MM Int32} {r : Int32} {A' : Bk}, K A = some (r, A') → ∀ (L : List (MM Int32)) (D : MM Int32) (k : Nat), k < 2 ^ 31 → y = nI k → L.getD k D = K → swt y 0 L D A = some (r, A') := fun hK L D k hk hy hL => by
      rw [hy, swt_list hk, hL]; exact hK
    by_cases hy : 0 ≤ y ∧ y ≤ nI 6
    · obtain ⟨k, hk, rfl⟩ := wi_rng (n := 6) (by decide) hy
      rcases (show k = 0 ∨ k = 1 ∨ k = 2 ∨ k = 3 ∨ k = 4 ∨ k = 5 ∨ k = 6 by omega) with rfl | rfl | rfl | rfl | rfl | rfl | rfl
      · refine ⟨(B0 4).getD t 0, A, B0, ?_, ?_, hRt⟩
        · have e : (A 10).getD t 0 = (B0 4).getD t 0 := by rw [← hod.1]; rfl
          unfold gX10_thingOf
          rw [bd_lf0 _ g1, if_neg (by decide), bd_la _ (by omega) (by omega), swt_list (by decide)]
          simp only [List.getD_cons_zero]
          rw [bd_la _ (by omega) (by omega), e]; rfl
        · unfold gX11_thingOf
          rw [told0 _ hb0, ← hB0, bd_some g2, if_neg (by decide)]
          simp (disch := first | omega | (simp only [up_ap, List.length_set, Nat.reduceEqDiff, reduceIte] <;> omega)) only [Int32.le_refl, bd_pr, pr_ap, jn_eq, lt_eq, bd_bd, bd_ite, ite_ap, bd_ld, bd_sv, bd_la, bd_sa, bd_ln, bd_rz0, bd_rz1, rz_n0, rz_n1, e_lit2, nI_z, nI_eq0, nI_0eq, nI_le0, nI_lt0, nI_0lt, nI_0le, e_001, e_n10, e_n1lt, bd_la0, bd_sa0, bd_rz00, rz_0, rz_1, b2i_0, Int32.add_zero, Int32.zero_add, nI_add, nI_pred2, pk_sub, pk_mul, pk_div, e_nz, nI_eq, nI_leI, nI_ltI, e_nm1, e_nm2, up_ap, gd_set_ne, gd_set_same, List.length_set, Nat.add_sub_cancel, Nat.reduceEqDiff, Nat.reduceAdd, Nat.reduceMul, Nat.reduceSub, Nat.reduceLT, Nat.reduceLeDiff, reduceIte, Nat.not_lt_zero, not_true_eq_false, not_false_eq_true, and_true, true_and, and_false, false_and]
      · refine ⟨(B0 5).getD t 0, A, B0, ?_, ?_, hRt⟩
        · have e : (A 11).getD t 0 = (B0 5).getD t 0 := by rw [← hod.2]; rfl
          unfold gX10_thingOf
          rw [bd_lf0 _ g1, if_neg (by decide), bd_la _ (by omega) (by omega), swt_list (by decide)]
          simp only [List.getD_cons_zero, List.getD_cons_succ]
          rw [bd_la _ (by omega) (by omega), e]; rfl
        · unfold gX11_thingOf
          rw [told0 _ hb0, ← hB0, bd_some g2, if_neg (by decide)]
          simp (disch := first | omega | (simp only [up_ap, List.length_set, Nat.reduceEqDiff, reduceIte] <;> omega)) only [Int32.le_refl, bd_pr, pr_ap, jn_eq, lt_eq, bd_bd, bd_ite, ite_ap, bd_ld, bd_sv, bd_la, bd_sa, bd_ln, bd_rz0, bd_rz1, rz_n0, rz_n1, e_lit2, nI_z, nI_eq0, nI_0eq, nI_le0, nI_lt0, nI_0lt, nI_0le, e_001, e_n10, e_n1lt, bd_la0, bd_sa0, bd_rz00, rz_0, rz_1, b2i_0, Int32.add_zero, Int32.zero_add, nI_add, nI_pred2, pk_sub, pk_mul, pk_div, e_nz, nI_eq, nI_leI, nI_ltI, e_nm1, e_nm2, up_ap, gd_set_ne, gd_set_same, List.length_set, Nat.add_sub_cancel, Nat.reduceEqDiff, Nat.reduceAdd, Nat.reduceMul, Nat.reduceSub, Nat.reduceLT, Nat.reduceLeDiff, reduceIte, Nat.not_lt_zero, not_true_eq_false, not_false_eq_true, and_true, true_and, and_false, false_and, Nat_1_le_0]
      · refine ⟨nI (wh t) - nI 1, A, B0, ?_, ?_, hRt⟩
        · unfold gX10_thingOf
          rw [bd_lf0 _ g1, if_neg (by decide), bd_la _ (by omega) (by omega), e12, swt_list (by decide)]
          simp only [List.getD_cons_zero, List.getD_cons_succ]
          rfl
        · unfold gX11_thingOf
          rw [told0 _ hb0, ← hB0, bd_some g2, if_neg (by decide)]
          simp (disch := first | omega | (simp only [up_ap, List.length_set, Nat.reduceEqDiff, reduceIte] <;> omega)) only [Int32.le_refl, bd_pr, pr_ap, jn_eq, lt_eq, bd_bd, bd_ite, ite_ap, bd_ld, bd_sv, bd_la, bd_sa, bd_ln, bd_rz0, bd_rz1, rz_n0, rz_n1, e_lit2, nI_z, nI_eq0, nI_0eq, nI_le0, nI_lt0, nI_0lt, nI_0le, e_001, e_n10, e_n1lt, bd_la0, bd_sa0, bd_rz00, rz_0, rz_1, b2i_0, Int32.add_zero, Int32.zero_add, nI_add, nI_pred2, pk_sub, pk_mul, pk_div, e_nz, nI_eq, nI_leI, nI_ltI, e_nm1, e_nm2, up_ap, gd_set_ne, gd_set_same, List.length_set, Nat.add_sub_cancel, Nat.reduceEqDiff, Nat.reduceAdd, Nat.reduceMul, Nat.reduceSub, Nat.reduceLT, Nat.reduceLeDiff, reduceIte, Nat.not_lt_zero, not_true_eq_false, not_false_eq_true, and_true, true_and, and_false, false_and, Nat_1_le_0]
          rw [bd_some hin]
          first | done | rfl
      · refine ⟨(B0 1).getD (143 + t) 0, A, B0, ?_, ?_, hRt⟩
        · have e : (A 13).getD t 0 = (B0 1).getD (143 + t) 0 := s6 t (by omega)
          unfold gX10_thingOf
          rw [bd_lf0 _ g1, if_neg (by decide), bd_la _ (by omega) (by omega), swt_list (by decide)]
          simp only [List.getD_cons_zero, List.getD_cons_succ]
          rw [bd_la _ (by omega) (by omega), e]; rfl
        · unfold gX11_thingOf
          rw [told0 _ hb0, ← hB0, bd_some g2, if_neg (by decide)]
          simp (disch := first | omega | (simp only [up_ap, List.length_set, Nat.reduceEqDiff, reduceIte] <;> omega)) only [Int32.le_refl, bd_pr, pr_ap, jn_eq, lt_eq, bd_bd, bd_ite, ite_ap, bd_ld, bd_sv, bd_la, bd_sa, bd_ln, bd_rz0, bd_rz1, rz_n0, rz_n1, e_lit2, nI_z, nI_eq0, nI_0eq, nI_le0, nI_lt0, nI_0lt, nI_0le, e_001, e_n10, e_n1lt, bd_la0, bd_sa0, bd_rz00, rz_0, rz_1, b2i_0, Int32.add_zero, Int32.zero_add, nI_add, nI_pred2, pk_sub, pk_mul, pk_div, e_nz, nI_eq, nI_leI, nI_ltI, e_nm1, e_nm2, up_ap, gd_set_ne, gd_set_same, List.length_set, Nat.add_sub_cancel, Nat.reduceEqDiff, Nat.reduceAdd, Nat.reduceMul, Nat.reduceSub, Nat.reduceLT, Nat.reduceLeDiff, reduceIte, Nat.not_lt_zero, not_true_eq_false, not_false_eq_true, and_true, true_and, and_false, false_and, Nat_1_le_0]
      · refine ⟨(B0 1).getD (163 + t) 0, A, B0, ?_, ?_, hRt⟩
        · have e : (A 14).getD t 0 = (B0 1).getD (163 + t) 0 := s7 t (by omega)
          unfold gX10_thingOf
          rw [bd_lf0 _ g1, if_neg (by decide), bd_la _ (by omega) (by omega), swt_list (by decide)]
          simp only [List.getD_cons_zero, List.getD_cons_succ]
          rw [bd_la _ (by omega) (by omega), e]; rfl
        · unfold gX11_thingOf
          rw [told0 _ hb0, ← hB0, bd_some g2, if_neg (by decide)]
          simp (disch := first | omega | (simp only [up_ap, List.length_set, Nat.reduceEqDiff, reduceIte] <;> omega)) only [Int32.le_refl, bd_pr, pr_ap, jn_eq, lt_eq, bd_bd, bd_ite, ite_ap, bd_ld, bd_sv, bd_la, bd_sa, bd_ln, bd_rz0, bd_rz1, rz_n0, rz_n1, e_lit2, nI_z, nI_eq0, nI_0eq, nI_le0, nI_lt0, nI_0lt, nI_0le, e_001, e_n10, e_n1lt, bd_la0, bd_sa0, bd_rz00, rz_0, rz_1, b2i_0, Int32.add_zero, Int32.zero_add, nI_add, nI_pred2, pk_sub, pk_mul, pk_div, e_nz, nI_eq, nI_leI, nI_ltI, e_nm1, e_nm2, up_ap, gd_set_ne, gd_set_same, List.length_set, Nat.add_sub_cancel, Nat.reduceEqDiff, Nat.reduceAdd, Nat.reduceMul, Nat.reduceSub, Nat.reduceLT, Nat.reduceLeDiff, reduceIte, Nat.not_lt_zero, not_true_eq_false, not_false_eq_true, and_true, true_and, and_false, false_and, Nat_1_le_0]
      · by_cases hw0 : wh t = 0
        · have ein : gX11_inCloth (nI t) B0 = some (-nI 1, B0) := by rw [hin, hw0, e_01]
          have e12' : (A 12).getD t 0 = -nI 1 := by rw [e12, hw0, e_01]
          refine ⟨-nI 1, A, B0, ?_, ?_, hRt⟩
          · unfold gX10_thingOf
            rw [bd_lf0 _ g1, if_neg (by decide), bd_la _ (by omega) (by omega), e12', swt_list (by decide)]
            simp only [List.getD_cons_zero, List.getD_cons_succ]
            rfl
          · unfold gX11_thingOf
            rw [told0 _ hb0, ← hB0, bd_some g2, if_neg (by decide)]
            simp (disch := first | omega | (simp only [up_ap, List.length_set, Nat.reduceEqDiff, reduceIte] <;> omega)) only [Int32.le_refl, bd_pr, pr_ap, jn_eq, lt_eq, bd_bd, bd_ite, ite_ap, bd_ld, bd_sv, bd_la, bd_sa, bd_ln, bd_rz0, bd_rz1, rz_n0, rz_n1, e_lit2, nI_z, nI_eq0, nI_0eq, nI_le0, nI_lt0, nI_0lt, nI_0le, e_001, e_n10, e_n1lt, bd_la0, bd_sa0, bd_rz00, rz_0, rz_1, b2i_0, Int32.add_zero, Int32.zero_add, nI_add, nI_pred2, pk_sub, pk_mul, pk_div, e_nz, nI_eq, nI_leI, nI_ltI, e_nm1, e_nm2, up_ap, gd_set_ne, gd_set_same, List.length_set, Nat.add_sub_cancel, Nat.reduceEqDiff, Nat.reduceAdd, Nat.reduceMul, Nat.reduceSub, Nat.reduceLT, Nat.reduceLeDiff, reduceIte, Nat.not_lt_zero, not_true_eq_false, not_false_eq_true, and_true, true_and, and_false, false_and, Nat_1_le_0]
            rw [bd_some ein]
            simp (disch := first | omega | (simp only [up_ap, List.length_set, Nat.reduceEqDiff, reduceIte] <;> omega)) only [Int32.le_refl, bd_pr, pr_ap, jn_eq, lt_eq, bd_bd, bd_ite, ite_ap, bd_ld, bd_sv, bd_la, bd_sa, bd_ln, bd_rz0, bd_rz1, rz_n0, rz_n1, e_lit2, nI_z, nI_eq0, nI_0eq, nI_le0, nI_lt0, nI_0lt, nI_0le, e_001, e_n10, e_n1lt, bd_la0, bd_sa0, bd_rz00, rz_0, rz_1, b2i_0, Int32.add_zero, Int32.zero_add, nI_add, nI_pred2, pk_sub, pk_mul, pk_div, e_nz, nI_eq, nI_leI, nI_ltI, e_nm1, e_nm2, up_ap, gd_set_ne, gd_set_same, List.length_set, Nat.add_sub_cancel, Nat.reduceEqDiff, Nat.reduceAdd, Nat.reduceMul, Nat.reduceSub, Nat.reduceLT, Nat.reduceLeDiff, reduceIte, Nat.not_lt_zero, not_true_eq_false, not_false_eq_true, and_true, true_and, and_false, false_and]
        · obtain ⟨c, hc⟩ : ∃ c, wh t = c + 1 := ⟨wh t - 1, by omega⟩
          have hcn : c < nc := by omega
          have ein : gX11_inCloth (nI t) B0 = some (nI c, B0) := by rw [hin, hc, nI_pred2]
          have e12' : (A 12).getD t 0 = nI c := by rw [e12, hc, nI_pred2]
          obtain ⟨v, s35, s9, b21, q1, q2, q3, q4, q5, -, -⟩ := ask_slips hH.1 ht hcn hc
          have hne : ¬ nI c = (-1 : Int32) := fun q => by
            have := e_nm1 (j := c) (by omega)
            rw [← this]; exact q
          refine ⟨v, _, _, ?_, ?_, ask_R hRt hH hU q3 q4 q5⟩
          · unfold gX10_thingOf
            rw [bd_lf0 _ g1, if_neg (by decide), bd_la _ (by omega) (by omega), e12', swt_list (by decide)]
            simp only [List.getD_cons_zero, List.getD_cons_succ, jn_eq]
            rw [if_neg hne]
            have q1' : gX1_askLaw 1 (nI t) (nI c) (fun i => A (rh24 i)) = some (v, up (up (fun i => A (rh24 i)) 35 s35) 9 s9) := q1
            rw [bd_lf _ q1']; rfl
          · unfold gX11_thingOf
            rw [told0 _ hb0, ← hB0, bd_some g2, if_neg (by decide)]
            simp (disch := first | omega | (simp only [up_ap, List.length_set, Nat.reduceEqDiff, reduceIte] <;> omega)) only [Int32.le_refl, bd_pr, pr_ap, jn_eq, lt_eq, bd_bd, bd_ite, ite_ap, bd_ld, bd_sv, bd_la, bd_sa, bd_ln, bd_rz0, bd_rz1, rz_n0, rz_n1, e_lit2, nI_z, nI_eq0, nI_0eq, nI_le0, nI_lt0, nI_0lt, nI_0le, e_001, e_n10, e_n1lt, bd_la0, bd_sa0, bd_rz00, rz_0, rz_1, b2i_0, Int32.add_zero, Int32.zero_add, nI_add, nI_pred2, pk_sub, pk_mul, pk_div, e_nz, nI_eq, nI_leI, nI_ltI, e_nm1, e_nm2, up_ap, gd_set_ne, gd_set_same, List.length_set, Nat.add_sub_cancel, Nat.reduceEqDiff, Nat.reduceAdd, Nat.reduceMul, Nat.reduceSub, Nat.reduceLT, Nat.reduceLeDiff, reduceIte, Nat.not_lt_zero, not_true_eq_false, not_false_eq_true, and_true, true_and, and_false, false_and, Nat_1_le_0]
            rw [bd_some ein]
            simp (disch := first | omega | (simp only [up_ap, List.length_set, Nat.reduceEqDiff, reduceIte] <;> omega)) only [Int32.le_refl, bd_pr, pr_ap, jn_eq, lt_eq, bd_bd, bd_ite, ite_ap, bd_ld, bd_sv, bd_la, bd_sa, bd_ln, bd_rz0, bd_rz1, rz_n0, rz_n1, e_lit2, nI_z, nI_eq0, nI_0eq, nI_le0, nI_lt0, nI_0lt, nI_0le, e_001, e_n10, e_n1lt, bd_la0, bd_sa0, bd_rz00, rz_0, rz_1, b2i_0, Int32.add_zero, Int32.zero_add, nI_add, nI_pred2, pk_sub, pk_mul, pk_div, e_nz, nI_eq, nI_leI, nI_ltI, e_nm1, e_nm2, up_ap, gd_set_ne, gd_set_same, List.length_set, Nat.add_sub_cancel, Nat.reduceEqDiff, Nat.reduceAdd, Nat.reduceMul, Nat.reduceSub, Nat.reduceLT, Nat.reduceLeDiff, reduceIte, Nat.not_lt_zero, not_true_eq_false, not_false_eq_true, and_true, true_and, and_false, false_and]
            rw [bd_some q2]
            first | done | rfl
      · by_cases hw0 : wh t = 0
        · have ein : gX11_inCloth (nI t) B0 = some (-nI 1, B0) := by rw [hin, hw0, e_01]
          have e12' : (A 12).getD t 0 = -nI 1 := by rw [e12, hw0, e_01]
          refine ⟨-nI 1, A, B0, ?_, ?_, hRt⟩
          · unfold gX10_thingOf
            rw [bd_lf0 _ g1, if_neg (by decide), bd_la _ (by omega) (by omega), e12', swt_list (by decide)]
            simp only [List.getD_cons_zero, List.getD_cons_succ]
            rfl
          · unfold gX11_thingOf
            rw [told0 _ hb0, ← hB0, bd_some g2, if_neg (by decide)]
            simp (disch := first | omega | (simp only [up_ap, List.length_set, Nat.reduceEqDiff, reduceIte] <;> omega)) only [Int32.le_refl, bd_pr, pr_ap, jn_eq, lt_eq, bd_bd, bd_ite, ite_ap, bd_ld, bd_sv, bd_la, bd_sa, bd_ln, bd_rz0, bd_rz1, rz_n0, rz_n1, e_lit2, nI_z, nI_eq0, nI_0eq, nI_le0, nI_lt0, nI_0lt, nI_0le, e_001, e_n10, e_n1lt, bd_la0, bd_sa0, bd_rz00, rz_0, rz_1, b2i_0, Int32.add_zero, Int32.zero_add, nI_add, nI_pred2, pk_sub, pk_mul, pk_div, e_nz, nI_eq, nI_leI, nI_ltI, e_nm1, e_nm2, up_ap, gd_set_ne, gd_set_same, List.length_set, Nat.add_sub_cancel, Nat.reduceEqDiff, Nat.reduceAdd, Nat.reduceMul, Nat.reduceSub, Nat.reduceLT, Nat.reduceLeDiff, reduceIte, Nat.not_lt_zero, not_true_eq_false, not_false_eq_true, and_true, true_and, and_false, false_and, Nat_1_le_0]
            rw [bd_some ein]
            simp (disch := first | omega | (simp only [up_ap, List.length_set, Nat.reduceEqDiff, reduceIte] <;> omega)) only [Int32.le_refl, bd_pr, pr_ap, jn_eq, lt_eq, bd_bd, bd_ite, ite_ap, bd_ld, bd_sv, bd_la, bd_sa, bd_ln, bd_rz0, bd_rz1, rz_n0, rz_n1, e_lit2, nI_z, nI_eq0, nI_0eq, nI_le0, nI_lt0, nI_0lt, nI_0le, e_001, e_n10, e_n1lt, bd_la0, bd_sa0, bd_rz00, rz_0, rz_1, b2i_0, Int32.add_zero, Int32.zero_add, nI_add, nI_pred2, pk_sub, pk_mul, pk_div, e_nz, nI_eq, nI_leI, nI_ltI, e_nm1, e_nm2, up_ap, gd_set_ne, gd_set_same, List.length_set, Nat.add_sub_cancel, Nat.reduceEqDiff, Nat.reduceAdd, Nat.reduceMul, Nat.reduceSub, Nat.reduceLT, Nat.reduceLeDiff, reduceIte, Nat.not_lt_zero, not_true_eq_false, not_false_eq_true, and_true, true_and, and_false, false_and]
        · obtain ⟨c, hc⟩ : ∃ c, wh t = c + 1 := ⟨wh t - 1, by omega⟩
          have hcn : c < nc := by omega
          have ein : gX11_inCloth (nI t) B0 = some (nI c, B0) := by rw [hin, hc, nI_pred2]
          have e12' : (A 12).getD t 0 = nI c := by rw [e12, hc, nI_pred2]
          obtain ⟨v, s35, s9, b21, q1, q2, q3, q4, q5, -, -⟩ := ask_tells hH.1 ht hcn hc
          have hne : ¬ nI c = (-1 : Int32) := fun q => by
            have := e_nm1 (j := c) (by omega)
            rw [← this]; exact q
          refine ⟨v, _, _, ?_, ?_, ask_R hRt hH hU q3 q4 q5⟩
          · unfold gX10_thingOf
            rw [bd_lf0 _ g1, if_neg (by decide), bd_la _ (by omega) (by omega), e12', swt_list (by decide)]
            simp only [List.getD_cons_zero, List.getD_cons_succ, jn_eq]
            rw [if_neg hne]
            have q1' : gX1_askLaw 2 (nI t) (nI c) (fun i => A (rh24 i)) = some (v, up (up (fun i => A (rh24 i)) 35 s35) 9 s9) := q1
            rw [bd_lf _ q1']; rfl
          · unfold gX11_thingOf
            rw [told0 _ hb0, ← hB0, bd_some g2, if_neg (by decide)]
            simp (disch := first | omega | (simp only [up_ap, List.length_set, Nat.reduceEqDiff, reduceIte] <;> omega)) only [Int32.le_refl, bd_pr, pr_ap, jn_eq, lt_eq, bd_bd, bd_ite, ite_ap, bd_ld, bd_sv, bd_la, bd_sa, bd_ln, bd_rz0, bd_rz1, rz_n0, rz_n1, e_lit2, nI_z, nI_eq0, nI_0eq, nI_le0, nI_lt0, nI_0lt, nI_0le, e_001, e_n10, e_n1lt, bd_la0, bd_sa0, bd_rz00, rz_0, rz_1, b2i_0, Int32.add_zero, Int32.zero_add, nI_add, nI_pred2, pk_sub, pk_mul, pk_div, e_nz, nI_eq, nI_leI, nI_ltI, e_nm1, e_nm2, up_ap, gd_set_ne, gd_set_same, List.length_set, Nat.add_sub_cancel, Nat.reduceEqDiff, Nat.reduceAdd, Nat.reduceMul, Nat.reduceSub, Nat.reduceLT, Nat.reduceLeDiff, reduceIte, Nat.not_lt_zero, not_true_eq_false, not_false_eq_true, and_true, true_and, and_false, false_and, Nat_1_le_0]
            rw [bd_some ein]
            simp (disch := first | omega | (simp only [up_ap, List.length_set, Nat.reduceEqDiff, reduceIte] <;> omega)) only [Int32.le_refl, bd_pr, pr_ap, jn_eq, lt_eq, bd_bd, bd_ite, ite_ap, bd_ld, bd_sv, bd_la, bd_sa, bd_ln, bd_rz0, bd_rz1, rz_n0, rz_n1, e_lit2, nI_z, nI_eq0, nI_0eq, nI_le0, nI_lt0, nI_0lt, nI_0le, e_001, e_n10, e_n1lt, bd_la0, bd_sa0, bd_rz00, rz_0, rz_1, b2i_0, Int32.add_zero, Int32.zero_add, nI_add, nI_pred2, pk_sub, pk_mul, pk_div, e_nz, nI_eq, nI_leI, nI_ltI, e_nm1, e_nm2, up_ap, gd_set_ne, gd_set_same, List.length_set, Nat.add_sub_cancel, Nat.reduceEqDiff, Nat.reduceAdd, Nat.reduceMul, Nat.reduceSub, Nat.reduceLT, Nat.reduceLeDiff, reduceIte, Nat.not_lt_zero, not_true_eq_false, not_false_eq_true, and_true, true_and, and_false, false_and]
            rw [bd_some q2]
            first | done | rfl
    · have hno : ∀ m : Nat, m < 7 → y ≠ nI m := fun m hm q => hy (by rw [q]; exact ⟨nI_pos' (by omega), nI_le (by omega) (by decide)⟩)
      have n0 : ¬ y = 0 := hno 0 (by decide)
      have n1 : ¬ y = nI 1 := hno 1 (by decide)
      have n2 : ¬ y = nI 2 := hno 2 (by decide)
      have n3 : ¬ y = nI 3 := hno 3 (by decide)
      have n4 : ¬ y = nI 4 := hno 4 (by decide)
      have n5 : ¬ y = nI 5 := hno 5 (by decide)
      have n6 : ¬ y = nI 6 := hno 6 (by decide)
      by_cases hq : nI 20 ≤ y ∧ y ≤ nI (19 + nc)
      · obtain ⟨k, hk1, hk2, rfl⟩ := nI_rng (lo := 20) (hi := 19 + nc) (by
          have := Int32.le_trans hq.1 hq.2
          exact (nI_leI (by decide) (by omega)).mp this) (by omega) hq.1 hq.2
        obtain ⟨c, rfl⟩ : ∃ c, k = 20 + c := ⟨k - 20, by omega⟩
        have hc : c < nc := by omega
        have hsub : nI (20 + c) - (20 : Int32) = nI c := by
          have := pk_sub (a := 20 + c) (b := 20) (by omega)
          rw [show 20 + c - 20 = c by omega] at this; exact this
        obtain ⟨v, s35, s9, b21, q1, q2, q3, q4, q5, -, -⟩ := ask_ties hH.1 ht hc
        refine ⟨v, _, _, ?_, ?_, ask_R hRt hH hU q3 q4 q5⟩
        · unfold gX10_thingOf
          rw [bd_lf0 _ g1, if_neg (by decide), bd_la _ (by omega) (by omega), swt_no (fun m hm => hno m (by simpa using hm)) (by simp)]
          simp only [jn_eq]
          rw [if_neg (show ¬ nI (20 + c) < 20 from nI_nlt (b := 20) (by omega) (by omega)), hsub, bd_lf0 _ (t_hasCloth (W := fun i => A (rh23 i)) l0 p5 hc (by omega)), if_neg (by decide), bd_lf _ q1]; rfl
        · unfold gX11_thingOf
          rw [told0 _ hb0, ← hB0, bd_some g2, if_neg (by decide)]
          simp (disch := first | omega | (simp only [up_ap, List.length_set, Nat.reduceEqDiff, reduceIte] <;> omega)) only [Int32.le_refl, bd_pr, pr_ap, jn_eq, lt_eq, bd_bd, bd_ite, ite_ap, bd_ld, bd_sv, bd_la, bd_sa, bd_ln, bd_rz0, bd_rz1, rz_n0, rz_n1, e_lit2, nI_z, nI_eq0, nI_0eq, nI_le0, nI_lt0, nI_0lt, nI_0le, e_001, e_n10, e_n1lt, bd_la0, bd_sa0, bd_rz00, rz_0, rz_1, b2i_0, Int32.add_zero, Int32.zero_add, nI_add, nI_pred2, pk_sub, pk_mul, pk_div, e_nz, nI_eq, nI_leI, nI_ltI, e_nm1, e_nm2, up_ap, gd_set_ne, gd_set_same, List.length_set, Nat.add_sub_cancel, Nat.reduceEqDiff, Nat.reduceAdd, Nat.reduceMul, Nat.reduceSub, Nat.reduceLT, Nat.reduceLeDiff, reduceIte, Nat.not_lt_zero, not_true_eq_false, not_false_eq_true, and_true, true_and, and_false, false_and, n0, n1, n2, n3, n4, n5, n6, b7]
          have e20 : 20 + c - 20 = c := by omega
          rw [bd_in, b2i_t (show nI 20 ≤ nI (20 + c) ∧ nI (20 + c) ≤ nI (19 + nc) from ⟨nI_le (by omega) (by omega), nI_le (by omega) (by omega)⟩)]
          simp (disch := first | omega | (simp only [up_ap, List.length_set, Nat.reduceEqDiff, reduceIte] <;> omega)) only [Int32.le_refl, bd_pr, pr_ap, jn_eq, lt_eq, bd_bd, bd_ite, ite_ap, bd_ld, bd_sv, bd_la, bd_sa, bd_ln, bd_rz0, bd_rz1, rz_n0, rz_n1, e_lit2, nI_z, nI_eq0, nI_0eq, nI_le0, nI_lt0, nI_0lt, nI_0le, e_001, e_n10, e_n1lt, bd_la0, bd_sa0, bd_rz00, rz_0, rz_1, b2i_0, Int32.add_zero, Int32.zero_add, nI_add, nI_pred2, pk_sub, pk_mul, pk_div, e_nz, nI_eq, nI_leI, nI_ltI, e_nm1, e_nm2, up_ap, gd_set_ne, gd_set_same, List.length_set, Nat.add_sub_cancel, Nat.reduceEqDiff, Nat.reduceAdd, Nat.reduceMul, Nat.reduceSub, Nat.reduceLT, Nat.reduceLeDiff, reduceIte, Nat.not_lt_zero, not_true_eq_false, not_false_eq_true, and_true, true_and, and_false, false_and, Nat_1_le_0, e20]
          rw [bd_some q2]
          first | done | rfl
      · refine ⟨-nI 2, A, B0, ?_, ?_, hRt⟩
        · unfold gX10_thingOf
          rw [bd_lf0 _ g1, if_neg (by decide), bd_la _ (by omega) (by omega), swt_no (fun m hm => hno m (by simpa using hm)) (by simp)]
          simp only [jn_eq]
          by_cases h20 : y < 20
          · rw [if_pos h20]; rfl
          · rw [if_neg h20]
            have hy0 : ¬ y < 0 := fun z => h20 (Int32.lt_of_lt_of_le z (by decide))
            obtain ⟨k, hk, rfl⟩ := nI_of hy0
            have hk20 : 20 ≤ k := by
              rcases Nat.lt_or_ge k 20 with z | z
              · exact absurd (nI_lt (b := 20) z (by decide)) h20
              · exact z
            obtain ⟨c, rfl⟩ : ∃ c, k = 20 + c := ⟨k - 20, by omega⟩
            have hsub : nI (20 + c) - (20 : Int32) = nI c := by
              have := pk_sub (a := 20 + c) (b := 20) (by omega)
              rw [show 20 + c - 20 = c by omega] at this; exact this
            have hcn : ¬ (0 ≤ nI c ∧ nI c < nI nc) := fun z => hq ⟨nI_le (by omega) (by omega), nI_le (by have := (nI_ltI (by omega) (by omega)).mp z.2; omega) (by omega)⟩
            rw [hsub, bd_lf0 _ (f_hasCloth (W := fun i => A (rh23 i)) l0 p5 hcn)]; rfl
        · unfold gX11_thingOf
          rw [told0 _ hb0, ← hB0, bd_some g2, if_neg (by decide)]
          simp (disch := first | omega | (simp only [up_ap, List.length_set, Nat.reduceEqDiff, reduceIte] <;> omega)) only [Int32.le_refl, bd_pr, pr_ap, jn_eq, lt_eq, bd_bd, bd_ite, ite_ap, bd_ld, bd_sv, bd_la, bd_sa, bd_ln, bd_rz0, bd_rz1, rz_n0, rz_n1, e_lit2, nI_z, nI_eq0, nI_0eq, nI_le0, nI_lt0, nI_0lt, nI_0le, e_001, e_n10, e_n1lt, bd_la0, bd_sa0, bd_rz00, rz_0, rz_1, b2i_0, Int32.add_zero, Int32.zero_add, nI_add, nI_pred2, pk_sub, pk_mul, pk_div, e_nz, nI_eq, nI_leI, nI_ltI, e_nm1, e_nm2, up_ap, gd_set_ne, gd_set_same, List.length_set, Nat.add_sub_cancel, Nat.reduceEqDiff, Nat.reduceAdd, Nat.reduceMul, Nat.reduceSub, Nat.reduceLT, Nat.reduceLeDiff, reduceIte, Nat.not_lt_zero, not_true_eq_false, not_false_eq_true, and_true, true_and, and_false, false_and, n0, n1, n2, n3, n4, n5, n6, b7]
          rw [bd_in, b2i_f hq]
          simp (disch := first | omega | (simp only [up_ap, List.length_set, Nat.reduceEqDiff, reduceIte] <;> omega)) only [Int32.le_refl, bd_pr, pr_ap, jn_eq, lt_eq, bd_bd, bd_ite, ite_ap, bd_ld, bd_sv, bd_la, bd_sa, bd_ln, bd_rz0, bd_rz1, rz_n0, rz_n1, e_lit2, nI_z, nI_eq0, nI_0eq, nI_le0, nI_lt0, nI_0lt, nI_0le, e_001, e_n10, e_n1lt, bd_la0, bd_sa0, bd_rz00, rz_0, rz_1, b2i_0, Int32.add_zero, Int32.zero_add, nI_add, nI_pred2, pk_sub, pk_mul, pk_div, e_nz, nI_eq, nI_leI, nI_ltI, e_nm1, e_nm2, up_ap, gd_set_ne, gd_set_same, List.length_set, Nat.add_sub_cancel, Nat.reduceEqDiff, Nat.reduceAdd, Nat.reduceMul, Nat.reduceSub, Nat.reduceLT, Nat.reduceLeDiff, reduceIte, Nat.not_lt_zero, not_true_eq_false, not_false_eq_true, and_true, true_and, and_false, false_and]
  · refine ⟨-nI 2, A, B0, ?_, ?_, hRt⟩
    · unfold gX10_thingOf
      rw [bd_lf0 _ (f_hasThing (W := fun i => A (rh23 i)) l0 p6 hx)]; rfl
    · unfold gX11_thingOf
      rw [told0 _ hb0, ← hB0, bd_some (f_isThing z0 b8 hx)]; rfl
