/-! PURE: goes, fate -/
def tk1B (x1 : Int32) : (Int32 → MM Int32) → Int32 → MM Int32 := fun (self2 : Int32 → MM Int32) (s3 : Int32) =>
  (if x1 ≤ s3 then
  pr 0
  else
  bd (lf rh32 49 gX1_passDay) fun r4 =>
  lt (s3 + 1) fun y5 =>
  self2 y5)
def tk1 (x1 : Int32) : MM Int32 := loopC 100000 (tk1B x1) 0
theorem tk_eq (x1 : Int32) : gX10_think x1 =
  bd (lf rh31 26 gX9_copy) fun r1 =>
  (tk1 x1) := rfl
def gs1B (x1 : Int32) (x2 : Int32) : (Int32 → MM Int32) → Int32 → MM Int32 := fun (self6 : Int32 → MM Int32) (s7 : Int32) =>
  (if x1 ≤ s7 then
  jn (fun (a9 : Int32) =>
  bd gX11_endsThought fun r10 =>
  pr a9) (fun j8 =>
  (if x2 = 0 then
  bd (ld 0 6) fun v16 =>
  bd (gX11_sumOf 15 v16) fun r17 =>
  j8 r17
  else
  (if x2 = 1 then
  bd (ld 0 6) fun v14 =>
  bd (gX11_sumOf 27 v14) fun r15 =>
  j8 r15
  else
  (if x2 = 2 then
  bd gX11_allKnots fun r13 =>
  j8 r13
  else
  bd (ld 0 8) fun v11 =>
  bd (gX11_sumOf 143 v11) fun r12 =>
  j8 r12))))
  else
  bd gX11_goesBy fun r18 =>
  lt (s7 + 1) fun y19 =>
  self6 y19)
def gs1 (x1 : Int32) (x2 : Int32) : MM Int32 := loopC 100000 (gs1B x1 x2) 0
theorem gs_eq (x1 x2 : Int32) : gX11_goes x1 x2 =
  bd (sv 0 0 0) fun _ =>
  bd (gX11_isIn x1 1 60) fun r1 =>
  jn (fun (a3 : Unit) =>
  pr ((-1))) (fun j2 =>
  (if r1 = 0 then
  j2 ()
  else
  bd (gX11_isIn x2 0 3) fun r4 =>
  (if r4 = 0 then
  j2 ()
  else
  bd gX11_thinks fun r5 =>
  (gs1 x1 x2)))) := rfl
def fa1B (x1 : Int32) : (Int32 → MM Int32) → Int32 → MM Int32 := fun (self3 : Int32 → MM Int32) (s4 : Int32) =>
  (if 60 ≤ s4 then
  bd (la 1 (163 + x1)) fun v5 =>
  bd gX11_endsThought fun r6 =>
  pr v5
  else
  bd gX11_goesBy fun r7 =>
  lt (s4 + 1) fun y8 =>
  self3 y8)
def fa1 (x1 : Int32) : MM Int32 := loopC 100000 (fa1B x1) 0
theorem fa_eq (x1 : Int32) : gX11_fate x1 =
  bd (sv 0 0 0) fun _ =>
  bd (gX11_isThing x1) fun r1 =>
  (if r1 = 0 then
  pr ((-1))
  else
  bd gX11_thinks fun r2 =>
  (fa1 x1)) := rfl
def goC (x2 : Int32) : MM Int32 := swt x2 0 [bd (ld 99 4) fun v3 =>
  bd (lf rh33 1 (gX10_sum v3)) fun r4 =>
  pr r4,
  bd (ld 99 4) fun v5 =>
  bd (lf rh34 1 (gX10_sum v5)) fun r6 =>
  pr r6,
  bd (ld 99 5) fun v7 =>
  bd (lf rh35 1 (gX10_sum v7)) fun r8 =>
  pr r8,
  bd (ld 99 6) fun v9 =>
  bd (lf rh36 1 (gX10_sum v9)) fun r10 =>
  pr r10]
  (pr ((-1)))
theorem go_eq (x1 x2 : Int32) : gX10_goes x1 x2 = bd (lf rh0 0 (gX10_isWithin x1 1 60)) fun r1 => (if r1 = 0 then pr ((-1)) else bd (gX10_think x1) fun r2 => goC x2) := rfl
theorem TH_W {A B A1 B1 : Bk} {np nc nt : Nat} (t : TH A B A1 B1 np nc nt) : ∃ ks wh, WR (fun i => A1 (99 + i)) (B1 1) (B1 4) (B1 5) np nc nt ks wh ∧ (B1 0).length = 68 ∧ (B1 0).getD 6 0 = nI np ∧ (B1 0).getD 7 0 = nI nc ∧ (B1 0).getD 8 0 = nI nt := by
  obtain ⟨⟨ks, wh, hR⟩, -⟩ := t
  exact ⟨ks, wh, WR_congr hR.1 (fun i hi => by
    show A1 (99 + i) = A1 (rh32 (rh12 i))
    rw [rh32_12 i hi]), hR.2.2.2.1.1, hR.2.2.2.1.2.2.1, hR.2.2.2.1.2.2.2.1, hR.2.2.2.1.2.2.2.2⟩
/-- the class's thinking alone -/
theorem think_C {A B : Bk} {np nc nt n : Nat} {ks : Nat → List Nat} {wh : Nat → Nat} (h : R A B) (hH : HH (fun i => A (rh24 i)) B np nc nt ks wh) (hn : n ≤ 60) : ∃ A1 B1, gX10_think (nI n) A = some (0, A1) ∧ TH A B A1 B1 np nc nt := by
  obtain ⟨A1, B1, g1, g2, g3⟩ := th_start h hH
  have key : Ht (tk1 (nI n) A1) (fun r A2 => r = 0 ∧ ∃ B2, TH A B A2 B2 np nc nt) := by
    unfold tk1
    refine loopI n (fun j s A2 => s = nI j ∧ ∃ B2, TH A B A2 B2 np nc nt) _ (fun j s A2 hj hI => ?_) (fun s A2 hI f => ?_) (by omega) ⟨rfl, B1, g3⟩
    · obtain ⟨rfl, B2, hI⟩ := hI
      obtain ⟨r, A3, B3, d1, d2, d3⟩ := th_day hI
      have n1 : ¬ n ≤ j := by omega
      refine ⟨nI (j + 1), A3, fun f => ?_, rfl, B3, d3⟩
      unfold tk1B
      simp (disch := first | omega | (simp only [up_ap, List.length_set, Nat.reduceEqDiff, reduceIte] <;> omega)) only [Int32.le_refl, bd_pr, pr_ap, jn_eq, lt_eq, bd_bd, bd_ite, ite_ap, bd_ld, bd_sv, bd_la, bd_sa, bd_ln, bd_rz0, bd_rz1, rz_n0, rz_n1, e_lit2, nI_z, nI_eq0, nI_0eq, nI_le0, nI_lt0, nI_0lt, nI_0le, e_001, e_n10, e_n1lt, bd_la0, bd_sa0, bd_rz00, rz_0, rz_1, b2i_0, Int32.add_zero, Int32.zero_add, nI_add, nI_pred2, pk_sub, pk_mul, pk_div, e_nz, nI_eq, nI_leI, nI_ltI, e_nm1, e_nm2, up_ap, gd_set_ne, gd_set_same, List.length_set, Nat.add_sub_cancel, Nat.reduceEqDiff, Nat.reduceAdd, Nat.reduceMul, Nat.reduceSub, Nat.reduceLT, Nat.reduceLeDiff, reduceIte, Nat.not_lt_zero, not_true_eq_false, not_false_eq_true, and_true, true_and, and_false, false_and, n1]
      rw [bd_some d1]
    · obtain ⟨rfl, B2, hI⟩ := hI
      refine ⟨0, A2, ?_, rfl, B2, hI⟩
      unfold tk1B
      simp (disch := first | omega | (simp only [up_ap, List.length_set, Nat.reduceEqDiff, reduceIte] <;> omega)) only [Int32.le_refl, bd_pr, pr_ap, jn_eq, lt_eq, bd_bd, bd_ite, ite_ap, bd_ld, bd_sv, bd_la, bd_sa, bd_ln, bd_rz0, bd_rz1, rz_n0, rz_n1, e_lit2, nI_z, nI_eq0, nI_0eq, nI_le0, nI_lt0, nI_0lt, nI_0le, e_001, e_n10, e_n1lt, bd_la0, bd_sa0, bd_rz00, rz_0, rz_1, b2i_0, Int32.add_zero, Int32.zero_add, nI_add, nI_pred2, pk_sub, pk_mul, pk_div, e_nz, nI_eq, nI_leI, nI_ltI, e_nm1, e_nm2, up_ap, gd_set_ne, gd_set_same, List.length_set, Nat.add_sub_cancel, Nat.reduceEqDiff, Nat.reduceAdd, Nat.reduceMul, Nat.reduceSub, Nat.reduceLT, Nat.reduceLeDiff, reduceIte, Nat.not_lt_zero, not_true_eq_false, not_false_eq_true, and_true, true_and, and_false, false_and]
  obtain ⟨r, A2, e, rfl, B2, hT⟩ := key
  exact ⟨A2, B2, by rw [tk_eq, bd_some g1]; exact e, hT⟩
theorem rh33_0 : rh33 0 = 101 ∧ rh34 0 = 102 ∧ rh35 0 = 105 ∧ rh36 0 = 110 ∧ rh47 0 = 8 := by decide
theorem swt_list {α : Type} {n : Nat} (hn : n < 2 ^ 31) (L : List (MM α)) (D : MM α) : swt (nI n) 0 L D = L.getD n D := e_swt0 hn L D
set_option maxHeartbeats 400000 in
theorem op_goes {A B : Bk} (h : R A B) (x y : Int32) : ∃ r A' B', gX10_goes x y A = some (r, A') ∧ gX11_goes x y B = some (r, B') ∧ R A' B' := by
  have hb0 := R_B0 h
  have hRt := R_told h
  obtain ⟨B0, hB0⟩ : ∃ z, z = up B 0 ((B 0).set 0 0) := ⟨_, rfl⟩
  rw [← hB0] at hRt
  obtain ⟨⟨np, nc, nt, ks, wh, hH, hU⟩, -⟩ := id hRt
  by_cases hx : nI 1 ≤ x ∧ x ≤ nI 60
  · obtain ⟨n, hn1, hn60, rfl⟩ := nI_rng (lo := 1) (hi := 60) (by decide) (by decide) hx.1 hx.2
    by_cases hy : 0 ≤ y ∧ y ≤ nI 3
    · obtain ⟨k, hk, rfl⟩ := wi_rng (n := 3) (by decide) hy
      obtain ⟨A1, B1, g1, g2, g3⟩ := th_start hRt hH
      have key : J2 (tk1 (nI n) A1) (gs1 (nI n) (nI k) B1) (fun r A2 v B2 => r = 0 ∧ R A2 B2 ∧ goC (nI k) A2 = some (v, A2)) := by
        unfold tk1 gs1
        refine loopJ n (fun j s A2 t B2 => s = nI j ∧ t = nI j ∧ TH A B0 A2 B2 np nc nt) _ (fun j s A2 t B2 hj hI => ?_) (fun s A2 t B2 hI f1 f2 => ?_) (by omega) (by omega) ⟨rfl, rfl, g3⟩
        · obtain ⟨rfl, rfl, hI⟩ := hI
          obtain ⟨r, A3, B3, d1, d2, d3⟩ := th_day hI
          have n1 : ¬ n ≤ j := by omega
          refine ⟨nI (j + 1), A3, nI (j + 1), B3, fun f => ?_, fun f => ?_, rfl, rfl, d3⟩
          · unfold tk1B
            simp (disch := first | omega | (simp only [up_ap, List.length_set, Nat.reduceEqDiff, reduceIte] <;> omega)) only [Int32.le_refl, bd_pr, pr_ap, jn_eq, lt_eq, bd_bd, bd_ite, ite_ap, bd_ld, bd_sv, bd_la, bd_sa, bd_ln, bd_rz0, bd_rz1, rz_n0, rz_n1, e_lit2, nI_z, nI_eq0, nI_0eq, nI_le0, nI_lt0, nI_0lt, nI_0le, e_001, e_n10, e_n1lt, bd_la0, bd_sa0, bd_rz00, rz_0, rz_1, b2i_0, Int32.add_zero, Int32.zero_add, nI_add, nI_pred2, pk_sub, pk_mul, pk_div, e_nz, nI_eq, nI_leI, nI_ltI, e_nm1, e_nm2, up_ap, gd_set_ne, gd_set_same, List.length_set, Nat.add_sub_cancel, Nat.reduceEqDiff, Nat.reduceAdd, Nat.reduceMul, Nat.reduceSub, Nat.reduceLT, Nat.reduceLeDiff, reduceIte, Nat.not_lt_zero, not_true_eq_false, not_false_eq_true, and_true, true_and, and_false, false_and, n1]
            rw [bd_some d1]
          · unfold gs1B
            simp (disch := first | omega | (simp only [up_ap, List.length_set, Nat.reduceEqDiff, reduceIte] <;> omega)) only [Int32.le_refl, bd_pr, pr_ap, jn_eq, lt_eq, bd_bd, bd_ite, ite_ap, bd_ld, bd_sv, bd_la, bd_sa, bd_ln, bd_rz0, bd_rz1, rz_n0, rz_n1, e_lit2, nI_z, nI_eq0, nI_0eq, nI_le0, nI_lt0, nI_0lt, nI_0le, e_001, e_n10, e_n1lt, bd_la0, bd_sa0, bd_rz00, rz_0, rz_1, b2i_0, Int32.add_zero, Int32.zero_add, nI_add, nI_pred2, pk_sub, pk_mul, pk_div, e_nz, nI_eq, nI_leI, nI_ltI, e_nm1, e_nm2, up_ap, gd_set_ne, gd_set_same, List.length_set, Nat.add_sub_cancel, Nat.reduceEqDiff, Nat.reduceAdd, Nat.reduceMul, Nat.reduceSub, Nat.reduceLT, Nat.reduceLeDiff, reduceIte, Nat.not_lt_zero, not_true_eq_false, not_false_eq_true, and_true, true_and, and_false, false_and, n1]
            rw [bd_some d2]
        · obtain ⟨rfl, rfl, hI⟩ := hI
          obtain ⟨B3, e1, e2, e3⟩ := th_end hRt hI
          obtain ⟨ks2, wh2, hW, b0, b6, b7, b8⟩ := TH_W hI
          obtain ⟨⟨l0, l1, l2, l3, l4, l5, l6, l7, l8, l9, l10, l11, l12⟩, ⟨m1, m2, m3, m4⟩, ⟨p1, p2, p3, p4, p5, p6⟩, -, ⟨s1, s2, s3, s4, s5, s6, s7⟩, -, -, -, -, ⟨k1, -, -⟩⟩ := id hW
          have l0 : (A2 99).length = 19 := l0
          have p4 : (A2 99).getD 4 0 = nI np := p4
          have p5 : (A2 99).getD 5 0 = nI nc := p5
          have p6 : (A2 99).getD 6 0 = nI nt := p6
          have hcls : tk1B (nI n) f1 (nI n) A2 = some (0, A2) := by
            unfold tk1B
            simp (disch := first | omega | (simp only [up_ap, List.length_set, Nat.reduceEqDiff, reduceIte] <;> omega)) only [Int32.le_refl, bd_pr, pr_ap, jn_eq, lt_eq, bd_bd, bd_ite, ite_ap, bd_ld, bd_sv, bd_la, bd_sa, bd_ln, bd_rz0, bd_rz1, rz_n0, rz_n1, e_lit2, nI_z, nI_eq0, nI_0eq, nI_le0, nI_lt0, nI_0lt, nI_0le, e_001, e_n10, e_n1lt, bd_la0, bd_sa0, bd_rz00, rz_0, rz_1, b2i_0, Int32.add_zero, Int32.zero_add, nI_add, nI_pred2, pk_sub, pk_mul, pk_div, e_nz, nI_eq, nI_leI, nI_ltI, e_nm1, e_nm2, up_ap, gd_set_ne, gd_set_same, List.length_set, Nat.add_sub_cancel, Nat.reduceEqDiff, Nat.reduceAdd, Nat.reduceMul, Nat.reduceSub, Nat.reduceLT, Nat.reduceLeDiff, reduceIte, Nat.not_lt_zero, not_true_eq_false, not_false_eq_true, and_true, true_and, and_false, false_and]
          rcases (show k = 0 ∨ k = 1 ∨ k = 2 ∨ k = 3 by omega) with rfl | rfl | rfl | rfl
          · refine ⟨0, A2, fo (fun i a => a + (B2 1).getD (15 + i) 0) 0 np, B3, hcls, ?_, rfl, e2, ?_⟩
            · unfold gs1B
              simp (disch := first | omega | (simp only [up_ap, List.length_set, Nat.reduceEqDiff, reduceIte] <;> omega)) only [Int32.le_refl, bd_pr, pr_ap, jn_eq, lt_eq, bd_bd, bd_ite, ite_ap, bd_ld, bd_sv, bd_la, bd_sa, bd_ln, bd_rz0, bd_rz1, rz_n0, rz_n1, e_lit2, nI_z, nI_eq0, nI_0eq, nI_le0, nI_lt0, nI_0lt, nI_0le, e_001, e_n10, e_n1lt, bd_la0, bd_sa0, bd_rz00, rz_0, rz_1, b2i_0, Int32.add_zero, Int32.zero_add, nI_add, nI_pred2, pk_sub, pk_mul, pk_div, e_nz, nI_eq, nI_leI, nI_ltI, e_nm1, e_nm2, up_ap, gd_set_ne, gd_set_same, List.length_set, Nat.add_sub_cancel, Nat.reduceEqDiff, Nat.reduceAdd, Nat.reduceMul, Nat.reduceSub, Nat.reduceLT, Nat.reduceLeDiff, reduceIte, Nat.not_lt_zero, not_true_eq_false, not_false_eq_true, and_true, true_and, and_false, false_and, b6]
              rw [bd_some (p_sumOf m1 (by omega)), bd_some e1]; rfl
            · unfold goC
              rw [swt_list (by decide)]
              simp only [List.getD_cons_zero]
              have e := p_sum (T := fun i => A2 (rh33 i)) (n := np) (by show np ≤ (A2 101).length; have : (A2 101).length = 12 := l2; omega) (by show (A2 101).length < 1000; have : (A2 101).length = 12 := l2; omega)
              rw [bd_ld _ (by omega), p4, bd_lf0 _ e]
              have e' : fo (fun i a => a + ((fun i => A2 (rh33 i)) 0).getD i 0) 0 np = fo (fun i a => a + (B2 1).getD (15 + i) 0) 0 np := fo_congr (fun i hi x => by
                have : (A2 101).getD i 0 = (B2 1).getD (15 + i) 0 := s2 i (by omega)
                show x + (A2 101).getD i 0 = _
                rw [this])
              rw [e']; rfl
          · refine ⟨0, A2, fo (fun i a => a + (B2 1).getD (27 + i) 0) 0 np, B3, hcls, ?_, rfl, e2, ?_⟩
            · unfold gs1B
              simp (disch := first | omega | (simp only [up_ap, List.length_set, Nat.reduceEqDiff, reduceIte] <;> omega)) only [Int32.le_refl, bd_pr, pr_ap, jn_eq, lt_eq, bd_bd, bd_ite, ite_ap, bd_ld, bd_sv, bd_la, bd_sa, bd_ln, bd_rz0, bd_rz1, rz_n0, rz_n1, e_lit2, nI_z, nI_eq0, nI_0eq, nI_le0, nI_lt0, nI_0lt, nI_0le, e_001, e_n10, e_n1lt, bd_la0, bd_sa0, bd_rz00, rz_0, rz_1, b2i_0, Int32.add_zero, Int32.zero_add, nI_add, nI_pred2, pk_sub, pk_mul, pk_div, e_nz, nI_eq, nI_leI, nI_ltI, e_nm1, e_nm2, up_ap, gd_set_ne, gd_set_same, List.length_set, Nat.add_sub_cancel, Nat.reduceEqDiff, Nat.reduceAdd, Nat.reduceMul, Nat.reduceSub, Nat.reduceLT, Nat.reduceLeDiff, reduceIte, Nat.not_lt_zero, not_true_eq_false, not_false_eq_true, and_true, true_and, and_false, false_and, b6, Nat_1_le_0]
              rw [bd_some (p_sumOf m1 (by omega)), bd_some e1]; rfl
            · unfold goC
              rw [swt_list (by decide)]
              simp only [List.getD_cons_succ, List.getD_cons_zero]
              have e := p_sum (T := fun i => A2 (rh34 i)) (n := np) (by show np ≤ (A2 102).length; have : (A2 102).length = 12 := l3; omega) (by show (A2 102).length < 1000; have : (A2 102).length = 12 := l3; omega)
              rw [bd_ld _ (by omega), p4, bd_lf0 _ e]
              have e' : fo (fun i a => a + ((fun i => A2 (rh34 i)) 0).getD i 0) 0 np = fo (fun i a => a + (B2 1).getD (27 + i) 0) 0 np := fo_congr (fun i hi x => by
                have : (A2 102).getD i 0 = (B2 1).getD (27 + i) 0 := s3 i (by omega)
                show x + (A2 102).getD i 0 = _
                rw [this])
              rw [e']; rfl
          · refine ⟨0, A2, fo (fun i a => a + nI (ks2 i).length) 0 nc, B3, hcls, ?_, rfl, e2, ?_⟩
            · unfold gs1B
              simp (disch := first | omega | (simp only [up_ap, List.length_set, Nat.reduceEqDiff, reduceIte] <;> omega)) only [Int32.le_refl, bd_pr, pr_ap, jn_eq, lt_eq, bd_bd, bd_ite, ite_ap, bd_ld, bd_sv, bd_la, bd_sa, bd_ln, bd_rz0, bd_rz1, rz_n0, rz_n1, e_lit2, nI_z, nI_eq0, nI_0eq, nI_le0, nI_lt0, nI_0lt, nI_0le, e_001, e_n10, e_n1lt, bd_la0, bd_sa0, bd_rz00, rz_0, rz_1, b2i_0, Int32.add_zero, Int32.zero_add, nI_add, nI_pred2, pk_sub, pk_mul, pk_div, e_nz, nI_eq, nI_leI, nI_ltI, e_nm1, e_nm2, up_ap, gd_set_ne, gd_set_same, List.length_set, Nat.add_sub_cancel, Nat.reduceEqDiff, Nat.reduceAdd, Nat.reduceMul, Nat.reduceSub, Nat.reduceLT, Nat.reduceLeDiff, reduceIte, Nat.not_lt_zero, not_true_eq_false, not_false_eq_true, and_true, true_and, and_false, false_and, Nat_1_le_0]
              rw [bd_some (p_allKnots hW b0 b7), bd_some e1]; rfl
            · unfold goC
              rw [swt_list (by decide)]
              simp only [List.getD_cons_succ, List.getD_cons_zero]
              have e := p_sum (T := fun i => A2 (rh35 i)) (n := nc) (by show nc ≤ (A2 105).length; have : (A2 105).length = 14 := l6; omega) (by show (A2 105).length < 1000; have : (A2 105).length = 14 := l6; omega)
              rw [bd_ld _ (by omega), p5, bd_lf0 _ e]
              have e' : fo (fun i a => a + ((fun i => A2 (rh35 i)) 0).getD i 0) 0 nc = fo (fun i a => a + nI (ks2 i).length) 0 nc := fo_congr (fun i hi x => by
                have : (A2 105).getD i 0 = nI (ks2 i).length := (k1 i hi).2.2.1
                show x + (A2 105).getD i 0 = _
                rw [this])
              rw [e']; rfl
          · refine ⟨0, A2, fo (fun i a => a + (B2 1).getD (143 + i) 0) 0 nt, B3, hcls, ?_, rfl, e2, ?_⟩
            · unfold gs1B
              simp (disch := first | omega | (simp only [up_ap, List.length_set, Nat.reduceEqDiff, reduceIte] <;> omega)) only [Int32.le_refl, bd_pr, pr_ap, jn_eq, lt_eq, bd_bd, bd_ite, ite_ap, bd_ld, bd_sv, bd_la, bd_sa, bd_ln, bd_rz0, bd_rz1, rz_n0, rz_n1, e_lit2, nI_z, nI_eq0, nI_0eq, nI_le0, nI_lt0, nI_0lt, nI_0le, e_001, e_n10, e_n1lt, bd_la0, bd_sa0, bd_rz00, rz_0, rz_1, b2i_0, Int32.add_zero, Int32.zero_add, nI_add, nI_pred2, pk_sub, pk_mul, pk_div, e_nz, nI_eq, nI_leI, nI_ltI, e_nm1, e_nm2, up_ap, gd_set_ne, gd_set_same, List.length_set, Nat.add_sub_cancel, Nat.reduceEqDiff, Nat.reduceAdd, Nat.reduceMul, Nat.reduceSub, Nat.reduceLT, Nat.reduceLeDiff, reduceIte, Nat.not_lt_zero, not_true_eq_false, not_false_eq_true, and_true, true_and, and_false, false_and, b8, Nat_1_le_0]
              rw [bd_some (p_sumOf m1 (by omega)), bd_some e1]; rfl
            · unfold goC
              rw [swt_list (by decide)]
              simp only [List.getD_cons_succ, List.getD_cons_zero]
              have e := p_sum (T := fun i => A2 (rh36 i)) (n := nt) (by show nt ≤ (A2 110).length; have : (A2 110).length = 20 := l11; omega) (by show (A2 110).length < 1000; have : (A2 110).length = 20 := l11; omega)
              rw [bd_ld _ (by omega), p6, bd_lf0 _ e]
              have e' : fo (fun i a => a + ((fun i => A2 (rh36 i)) 0).getD i 0) 0 nt = fo (fun i a => a + (B2 1).getD (143 + i) 0) 0 nt := fo_congr (fun i hi x => by
                have : (A2 110).getD i 0 = (B2 1).getD (143 + i) 0 := s6 i (by omega)
                show x + (A2 110).getD i 0 = _
                rw [this])
              rw [e']; rfl
      obtain ⟨r, A2, v, B2, q1, q2, rfl, q3, q4⟩ := key
      refine ⟨v, A2, B2, ?_, ?_, q3⟩
      · rw [go_eq, bd_iw, b2i_t (show (1 : Int32) ≤ nI n ∧ nI n ≤ 60 from hx), if_neg (by decide)]
        have e : gX10_think (nI n) A = some (0, A2) := by rw [tk_eq, bd_some g1]; exact q1
        rw [bd_some e]; exact q4
      · rw [gs_eq, told0 _ hb0, ← hB0, bd_in, b2i_t (show (1 : Int32) ≤ nI n ∧ nI n ≤ 60 from hx)]
        simp only [jn_eq]
        rw [if_neg (by decide), bd_in, b2i_t (show (0 : Int32) ≤ nI k ∧ nI k ≤ 3 from hy), if_neg (by decide), bd_some g2]
        exact q2
    · obtain ⟨A1, B1, g1, g2⟩ := think_C hRt hH hn60
      obtain ⟨B3, e1, e2, e3⟩ := th_end hRt g2
      refine ⟨-nI 1, A1, B0, ?_, ?_, e3⟩
      · rw [go_eq, bd_iw, b2i_t (show (1 : Int32) ≤ nI n ∧ nI n ≤ 60 from hx), if_neg (by decide), bd_some g1]
        unfold goC
        rw [swt_no (fun m hm => ?_) (by simp)]
        · rfl
        · simp only [List.length_cons, List.length_nil] at hm
          exact fun q => hy (by rw [q]; exact ⟨nI_pos' (by omega), nI_le (by omega) (by decide)⟩)
      · rw [gs_eq, told0 _ hb0, ← hB0, bd_in, b2i_t (show (1 : Int32) ≤ nI n ∧ nI n ≤ 60 from hx)]
        simp only [jn_eq]
        rw [if_neg (by decide), bd_in, b2i_f (show ¬ ((0 : Int32) ≤ y ∧ y ≤ 3) from hy)]; rfl
  · refine ⟨-nI 1, A, B0, ?_, ?_, hRt⟩
    · rw [go_eq, bd_iw, b2i_f (show ¬ ((1 : Int32) ≤ x ∧ x ≤ 60) from hx)]; rfl
    · rw [gs_eq, told0 _ hb0, ← hB0, bd_in, b2i_f (show ¬ ((1 : Int32) ≤ x ∧ x ≤ 60) from hx)]; rfl
set_option maxHeartbeats 400000 in
theorem op_fate {A B : Bk} (h : R A B) (x : Int32) : ∃ r A' B', gX10_fate x A = some (r, A') ∧ gX11_fate x B = some (r, B') ∧ R A' B' := by
  have hb0 := R_B0 h
  have hRt := R_told h
  obtain ⟨B0, hB0⟩ : ∃ z, z = up B 0 ((B 0).set 0 0) := ⟨_, rfl⟩
  rw [← hB0] at hRt
  have z0 := R_B0 hRt
  obtain ⟨⟨np, nc, nt, ks, wh, hH, hU⟩, -⟩ := id hRt
  obtain ⟨hW, hw0⟩ := R_W hH
  have b8 : (B0 0).getD 8 0 = nI nt := hH.1.2.2.2.1.2.2.2.2
  have hnt := hW.2.1.2.2.2
  by_cases hx : 0 ≤ x ∧ x < nI nt
  · obtain ⟨t, ht, rfl⟩ := in_rng (by omega) hx
    obtain ⟨A1, B1, g1, g2, g3⟩ := th_start hRt hH
    have key : J2 (tk1 (nI 60) A1) (fa1 (nI t) B1) (fun r A2 v B2 => r = 0 ∧ R A2 B2 ∧ (A2 111).getD t 0 = v ∧ (A2 111).length = 20) := by
      unfold tk1 fa1
      refine loopJ 60 (fun j s A2 t B2 => s = nI j ∧ t = nI j ∧ TH A B0 A2 B2 np nc nt) _ (fun j s A2 t B2 hj hI => ?_) (fun s A2 t B2 hI f1 f2 => ?_) (by omega) (by omega) ⟨rfl, rfl, g3⟩
      · obtain ⟨rfl, rfl, hI⟩ := hI
        obtain ⟨r, A3, B3, d1, d2, d3⟩ := th_day hI
        have n1 : ¬ 60 ≤ j := by omega
        refine ⟨nI (j + 1), A3, nI (j + 1), B3, fun f => ?_, fun f => ?_, rfl, rfl, d3⟩
        · unfold tk1B
          simp (disch := first | omega | (simp only [up_ap, List.length_set, Nat.reduceEqDiff, reduceIte] <;> omega)) only [Int32.le_refl, bd_pr, pr_ap, jn_eq, lt_eq, bd_bd, bd_ite, ite_ap, bd_ld, bd_sv, bd_la, bd_sa, bd_ln, bd_rz0, bd_rz1, rz_n0, rz_n1, e_lit2, nI_z, nI_eq0, nI_0eq, nI_le0, nI_lt0, nI_0lt, nI_0le, e_001, e_n10, e_n1lt, bd_la0, bd_sa0, bd_rz00, rz_0, rz_1, b2i_0, Int32.add_zero, Int32.zero_add, nI_add, nI_pred2, pk_sub, pk_mul, pk_div, e_nz, nI_eq, nI_leI, nI_ltI, e_nm1, e_nm2, up_ap, gd_set_ne, gd_set_same, List.length_set, Nat.add_sub_cancel, Nat.reduceEqDiff, Nat.reduceAdd, Nat.reduceMul, Nat.reduceSub, Nat.reduceLT, Nat.reduceLeDiff, reduceIte, Nat.not_lt_zero, not_true_eq_false, not_false_eq_true, and_true, true_and, and_false, false_and, n1]
          rw [bd_some d1]
        · unfold fa1B
          simp (disch := first | omega | (simp only [up_ap, List.length_set, Nat.reduceEqDiff, reduceIte] <;> omega)) only [Int32.le_refl, bd_pr, pr_ap, jn_eq, lt_eq, bd_bd, bd_ite, ite_ap, bd_ld, bd_sv, bd_la, bd_sa, bd_ln, bd_rz0, bd_rz1, rz_n0, rz_n1, e_lit2, nI_z, nI_eq0, nI_0eq, nI_le0, nI_lt0, nI_0lt, nI_0le, e_001, e_n10, e_n1lt, bd_la0, bd_sa0, bd_rz00, rz_0, rz_1, b2i_0, Int32.add_zero, Int32.zero_add, nI_add, nI_pred2, pk_sub, pk_mul, pk_div, e_nz, nI_eq, nI_leI, nI_ltI, e_nm1, e_nm2, up_ap, gd_set_ne, gd_set_same, List.length_set, Nat.add_sub_cancel, Nat.reduceEqDiff, Nat.reduceAdd, Nat.reduceMul, Nat.reduceSub, Nat.reduceLT, Nat.reduceLeDiff, reduceIte, Nat.not_lt_zero, not_true_eq_false, not_false_eq_true, and_true, true_and, and_false, false_and, n1]
          rw [bd_some d2]
      · obtain ⟨rfl, rfl, hI⟩ := hI
        obtain ⟨B3, e1, e2, e3⟩ := th_end hRt hI
        obtain ⟨ks2, wh2, hW, c0, c6, c7, c8⟩ := TH_W hI
        have s7 := hW.2.2.2.2.1.2.2.2.2.2.2 t (by omega)
        have m1 := hW.2.1.1
        have l12 : (A2 111).length = 20 := hW.1.2.2.2.2.2.2.2.2.2.2.2.2
        refine ⟨0, A2, (B2 1).getD (163 + t) 0, B3, ?_, ?_, rfl, e2, s7, l12⟩
        · unfold tk1B
          simp (disch := first | omega | (simp only [up_ap, List.length_set, Nat.reduceEqDiff, reduceIte] <;> omega)) only [Int32.le_refl, bd_pr, pr_ap, jn_eq, lt_eq, bd_bd, bd_ite, ite_ap, bd_ld, bd_sv, bd_la, bd_sa, bd_ln, bd_rz0, bd_rz1, rz_n0, rz_n1, e_lit2, nI_z, nI_eq0, nI_0eq, nI_le0, nI_lt0, nI_0lt, nI_0le, e_001, e_n10, e_n1lt, bd_la0, bd_sa0, bd_rz00, rz_0, rz_1, b2i_0, Int32.add_zero, Int32.zero_add, nI_add, nI_pred2, pk_sub, pk_mul, pk_div, e_nz, nI_eq, nI_leI, nI_ltI, e_nm1, e_nm2, up_ap, gd_set_ne, gd_set_same, List.length_set, Nat.add_sub_cancel, Nat.reduceEqDiff, Nat.reduceAdd, Nat.reduceMul, Nat.reduceSub, Nat.reduceLT, Nat.reduceLeDiff, reduceIte, Nat.not_lt_zero, not_true_eq_false, not_false_eq_true, and_true, true_and, and_false, false_and]
        · unfold fa1B
          simp (disch := first | omega | (simp only [up_ap, List.length_set, Nat.reduceEqDiff, reduceIte] <;> omega)) only [Int32.le_refl, bd_pr, pr_ap, jn_eq, lt_eq, bd_bd, bd_ite, ite_ap, bd_ld, bd_sv, bd_la, bd_sa, bd_ln, bd_rz0, bd_rz1, rz_n0, rz_n1, e_lit2, nI_z, nI_eq0, nI_0eq, nI_le0, nI_lt0, nI_0lt, nI_0le, e_001, e_n10, e_n1lt, bd_la0, bd_sa0, bd_rz00, rz_0, rz_1, b2i_0, Int32.add_zero, Int32.zero_add, nI_add, nI_pred2, pk_sub, pk_mul, pk_div, e_nz, nI_eq, nI_leI, nI_ltI, e_nm1, e_nm2, up_ap, gd_set_ne, gd_set_same, List.length_set, Nat.add_sub_cancel, Nat.reduceEqDiff, Nat.reduceAdd, Nat.reduceMul, Nat.reduceSub, Nat.reduceLT, Nat.reduceLeDiff, reduceIte, Nat.not_lt_zero, not_true_eq_false, not_false_eq_true, and_true, true_and, and_false, false_and]
          rw [bd_some e1]; rfl
    obtain ⟨r, A2, v, B2, q1, q2, rfl, q3, q4, q5⟩ := key
    refine ⟨v, A2, B2, ?_, ?_, q3⟩
    · unfold gX10_fate
      rw [bd_lf0 _ (t_hasThing (W := fun i => A (rh23 i)) hW.1.1 hW.2.2.1.2.2.2.2.2 ht (by omega)), if_neg (by decide)]
      have e : gX10_think 60 A = some (0, A2) := by rw [tk_eq, bd_some g1]; exact q1
      rw [bd_some e, bd_la _ (by omega) (by omega), q4]; rfl
    · rw [fa_eq, told0 _ hb0, ← hB0, bd_some (t_isThing z0 b8 ht (by omega)), if_neg (by decide), bd_some g2]
      exact q2
  · refine ⟨-nI 1, A, B0, ?_, ?_, hRt⟩
    · unfold gX10_fate
      rw [bd_lf0 _ (f_hasThing (W := fun i => A (rh23 i)) hW.1.1 hW.2.2.1.2.2.2.2.2 hx)]; rfl
    · rw [fa_eq, told0 _ hb0, ← hB0, bd_some (f_isThing z0 b8 hx)]; rfl
