/-! PURE: act, days, undo -/
theorem rh24_inj : ∀ i j, i < 49 → j < 49 → rh24 i = rh24 j → i = j := inj_d (by decide +kernel)
theorem HR_congr {H H' B : Bk} {th np nc nt : Nat} {ks : Nat → List Nat} {wh : Nat → Nat} (h : HR H B th np nc nt ks wh) (e : ∀ i, i < 49 → H' i = H i) : HR H' B th np nc nt ks wh := HR_HE h (HE_r (HE_rfl_B e))
/-- after a day or a deed the whole relation stands again -/
theorem R_DR {A B H' B' : Bk} {np nc nt : Nat} {ks : Nat → List Nat} {wh : Nat → Nat} (h : R A B) (hH : HH (fun i => A (rh24 i)) B np nc nt ks wh) (hU : UD A B np nc nt) (d : DR (fun i => A (rh24 i)) B 0 np nc nt H' B') :
    ∃ ks' wh', R (pu rh24 49 H' A) B' ∧ HH (fun i => pu rh24 49 H' A (rh24 i)) B' np nc nt ks' wh' ∧ UD (pu rh24 49 H' A) B' np nc nt := by
  obtain ⟨ks', wh', hR, hF, -⟩ := d
  obtain ⟨f1, f2, f3, f4, f5, f6⟩ := hF
  obtain ⟨A', hA'⟩ : ∃ z, z = pu rh24 49 H' A := ⟨_, rfl⟩
  rw [← hA']
  have ain : ∀ i, i < 49 → A' (rh24 i) = H' i := fun i hi => by rw [hA']; exact pu_in rh24_inj hi H' A
  have aj : ∀ j, j = 0 ∨ 50 ≤ j → A' j = A j := fun j hj => by
    rw [hA']
    exact pu_out (fun i hi q => by
      have hv := rh24_v i hi
      rw [q] at hv
      by_cases q1 : i = 0
      · rw [if_pos q1] at hv; omega
      · rw [if_neg q1] at hv
        by_cases q2 : i < 36
        · rw [if_pos q2] at hv; omega
        · rw [if_neg q2] at hv; omega) _ _
  have e0 := f4 0 (by decide) (by decide) (by decide) (by decide)
  have hT : TT (fun i => A' (rh24 i)) B' := by
    have t := hH.2
    unfold TT at *
    simp only [ain 25 (by decide), ain 26 (by decide), ain 27 (by decide), ain 28 (by decide), ain 29 (by decide), ain 30 (by decide), ain 31 (by decide), ain 32 (by decide), ain 33 (by decide), ain 34 (by decide), f1 25 (by decide) (by decide) (by decide) (by decide), f1 26 (by decide) (by decide) (by decide) (by decide), f1 27 (by decide) (by decide) (by decide) (by decide), f1 28 (by decide) (by decide) (by decide) (by decide), f1 29 (by decide) (by decide) (by decide) (by decide), f1 30 (by decide) (by decide) (by decide) (by decide), f1 31 (by decide) (by decide) (by decide) (by decide), f1 32 (by decide) (by decide) (by decide) (by decide), f1 33 (by decide) (by decide) (by decide) (by decide), f1 34 (by decide) (by decide) (by decide) (by decide), e0, f4 22 (by decide) (by decide) (by decide) (by decide), f4 29 (by decide) (by decide) (by decide) (by decide), f4 30 (by decide) (by decide) (by decide) (by decide), f4 32 (by decide) (by decide) (by decide) (by decide), f4 35 (by decide) (by decide) (by decide) (by decide)]
    exact t
  have hHH : HH (fun i => A' (rh24 i)) B' np nc nt ks' wh' := ⟨HR_congr hR (fun i hi => ain i hi), hT⟩
  have hUD : UD A' B' np nc nt := UD_congr hU (by rw [aj 0 (Or.inl rfl)]) (by rw [aj 0 (Or.inl rfl)]) (aj 112 (by omega)) (fun j h1 h2 => aj j (by omega)) (f4 2 (by decide) (by decide) (by decide) (by decide)) (f4 4 (by decide) (by decide) (by decide) (by decide)) (f4 5 (by decide) (by decide) (by decide) (by decide)) (by rw [e0])
  obtain ⟨-, hTP, hI, hA, hB⟩ := h
  refine ⟨ks', wh', ⟨⟨np, nc, nt, ks', wh', hHH, hUD⟩, ?_, ?_, ?_, ?_⟩, hHH, hUD⟩
  · exact TP_congr hTP (aj 113 (by omega)) (aj 114 (by omega)) (f4 7 (by decide) (by decide) (by decide) (by decide)) (by rw [e0]) (by rw [e0]) (by rw [e0])
  · exact IM_congr hI (by rw [aj 0 (Or.inl rfl)]) (fun j h1 h2 => aj j (by omega)) (f4 37 (by decide) (by decide) (by decide) (by decide)) (by rw [e0])
  · exact SCA_congr hA (fun j h1 h2 => by rw [aj j (by omega)]) (by rw [aj 99 (by omega)])
  · have hz : ∀ j, j ∈ [3, 16, 23, 24, 25, 26, 27, 28, 31, 34, 36] → j ≠ 1 ∧ j ≠ 6 ∧ j ≠ 20 ∧ j ≠ 21 := by decide
    exact SCB_congr hB (fun j hj => by rw [f4 j (hz j hj).1 (hz j hj).2.1 (hz j hj).2.2.1 (hz j hj).2.2.2]) (f4 8 (by decide) (by decide) (by decide) (by decide)) (f4 33 (by decide) (by decide) (by decide) (by decide))
/-- whether a deed can be done by hand -/
def CanOk (x1 x2 x3 : Int32) (np nc nt : Nat) : Prop := ∃ w a b : Nat, x1 = nI w ∧ x2 = nI a ∧ (w < 2 → x3 = nI b) ∧ w < 4 ∧ (w = 0 → a < nt ∧ b < nc) ∧ (w = 1 → a < nc ∧ b < np) ∧ (2 ≤ w → a < nc)
theorem swt_no {α : Type} {x : Int32} {L : List (MM α)} {D : MM α} (h : ∀ n : Nat, n < L.length → x ≠ nI n) (hl : L.length < 2 ^ 31) : swt x 0 L D = D := by
  unfold swt
  by_cases h0 : x.toInt < 0
  · rw [if_pos h0]
  · rw [if_neg h0]
    have hx : ¬ x < 0 := by
      rw [Int32.lt_iff_toInt_lt]
      exact h0
    obtain ⟨j, hj, rfl⟩ := nI_of hx
    rw [nI_toInt hj]
    have hjl : L.length ≤ j := by
      rcases Nat.lt_or_ge j L.length with q | q
      · exact absurd rfl (h j q)
      · exact q
    rw [show ((j : Int) - 0).toNat = j by omega, List.getD_eq_getElem?_getD, List.getElem?_eq_none hjl]; rfl
theorem canDo_no {x1 x2 x3 : Int32} (w0 : ¬ x1 = 0) (w1 : ¬ x1 = nI 1) (w2 : ¬ x1 = nI 2) (w3 : ¬ x1 = nI 3) : gX9_canDo x1 x2 x3 = rz 0 := by
  unfold gX9_canDo
  refine swt_no (fun n hn => ?_) (by simp)
  simp only [List.length_cons, List.length_nil] at hn
  rcases (show n = 0 ∨ n = 1 ∨ n = 2 ∨ n = 3 by omega) with q | q | q | q <;> subst q <;> assumption
set_option maxHeartbeats 400000 in
theorem can_h {W B : Bk} {np nc nt : Nat} {ks : Nat → List Nat} {wh : Nat → Nat} (h : WR W (B 1) (B 4) (B 5) np nc nt ks wh) (b0 : (B 0).length = 68) (b6 : (B 0).getD 6 0 = nI np) (b7 : (B 0).getD 7 0 = nI nc) (b8 : (B 0).getD 8 0 = nI nt) (x1 x2 x3 : Int32) :
    (gX9_canDo x1 x2 x3 W = some (0, W) ∧ gX11_canAct x1 x2 x3 B = some (0, B)) ∨ (gX9_canDo x1 x2 x3 W = some (nI 1, W) ∧ gX11_canAct x1 x2 x3 B = some (nI 1, B) ∧ CanOk x1 x2 x3 np nc nt) := by
  obtain ⟨hl, ⟨hn1, hn2, hn3, hn4⟩, ⟨p1, p2, p3, p4, p5, p6⟩, he, ⟨s1, s2, s3, s4, s5, s6, s7⟩, hod, ho, hd, hw, ⟨k1, k2, k3⟩⟩ := h
  obtain ⟨l0, l1, l2, l3, l4, l5, l6, l7, l8, l9, l10, l11, l12⟩ := id hl
  by_cases w0 : x1 = 0
  · subst w0
    have hs : ∀ (K0 : MM Int32) (Ks : List (MM Int32)) (Kd : MM Int32), swt 0 0 (K0 :: Ks) Kd = K0 := fun K0 Ks Kd => by
      unfold swt
      rw [if_neg (by decide)]; rfl
    by_cases ha : 0 ≤ x2 ∧ x2 < nI nt
    · obtain ⟨t, ht, rfl⟩ := in_rng (by omega) ha
      obtain ⟨y1, y2, y3, y4⟩ := k2 t ht
      have e7 := s7 t (by omega)
      have hio : gX9_isOpen (nI t) W = some (if (B 1).getD (163 + t) 0 = 0 then nI 1 else 0, W) := by
        unfold gX9_isOpen
        rw [bd_some (t_hasThing l0 p6 ht (by omega))]
        by_cases q : (B 1).getD (163 + t) 0 = 0
        · rw [if_pos q]
          simp (disch := first | omega | (simp only [up_ap, List.length_set, Nat.reduceEqDiff, reduceIte] <;> omega)) only [Int32.le_refl, bd_pr, pr_ap, jn_eq, lt_eq, bd_bd, bd_ite, ite_ap, bd_ld, bd_sv, bd_la, bd_sa, bd_ln, bd_rz0, bd_rz1, rz_n0, rz_n1, e_lit2, nI_z, nI_eq0, nI_0eq, nI_le0, nI_lt0, nI_0lt, nI_0le, e_001, e_n10, e_n1lt, bd_la0, bd_sa0, bd_rz00, rz_0, rz_1, b2i_0, Int32.add_zero, Int32.zero_add, nI_add, nI_pred2, pk_sub, pk_mul, pk_div, e_nz, nI_eq, nI_leI, nI_ltI, e_nm1, e_nm2, up_ap, gd_set_ne, gd_set_same, List.length_set, Nat.add_sub_cancel, Nat.reduceEqDiff, Nat.reduceAdd, Nat.reduceMul, Nat.reduceSub, Nat.reduceLT, Nat.reduceLeDiff, reduceIte, Nat.not_lt_zero, not_true_eq_false, not_false_eq_true, and_true, true_and, and_false, false_and, e7, q, Nat_1_le_0]
        · rw [if_neg q]
          simp (disch := first | omega | (simp only [up_ap, List.length_set, Nat.reduceEqDiff, reduceIte] <;> omega)) only [Int32.le_refl, bd_pr, pr_ap, jn_eq, lt_eq, bd_bd, bd_ite, ite_ap, bd_ld, bd_sv, bd_la, bd_sa, bd_ln, bd_rz0, bd_rz1, rz_n0, rz_n1, e_lit2, nI_z, nI_eq0, nI_0eq, nI_le0, nI_lt0, nI_0lt, nI_0le, e_001, e_n10, e_n1lt, bd_la0, bd_sa0, bd_rz00, rz_0, rz_1, b2i_0, Int32.add_zero, Int32.zero_add, nI_add, nI_pred2, pk_sub, pk_mul, pk_div, e_nz, nI_eq, nI_leI, nI_ltI, e_nm1, e_nm2, up_ap, gd_set_ne, gd_set_same, List.length_set, Nat.add_sub_cancel, Nat.reduceEqDiff, Nat.reduceAdd, Nat.reduceMul, Nat.reduceSub, Nat.reduceLT, Nat.reduceLeDiff, reduceIte, Nat.not_lt_zero, not_true_eq_false, not_false_eq_true, and_true, true_and, and_false, false_and, e7, q, Nat_1_le_0]
      by_cases hc : 0 ≤ x3 ∧ x3 < nI nc
      · obtain ⟨c, hcc, rfl⟩ := in_rng (by omega) hc
        obtain ⟨a1, a2, a3, a4, a5⟩ := k1 c hcc
        have hkn := p_knotsOf (B := B) hn1 (show c < 14 by omega) a1 a5 (fun x hx => by have := ((k3 c x hcc).mp hx).1; omega)
        by_cases q1 : (B 1).getD (163 + t) 0 = 0
        · rw [if_pos q1] at hio
          by_cases q2 : wh t = 0
          · have c10 : (W 10).getD t 0 = -nI 1 := by rw [y3, q2]; decide
            have c123 : (B 1).getD (123 + t) 0 = 0 := by rw [y2, q2]; rfl
            by_cases q3 : (ks c).length < 4
            · have q3' : ¬ 4 ≤ (ks c).length := by omega
              refine Or.inr ⟨?_, ?_, 0, t, c, rfl, rfl, fun _ => rfl, by decide, fun _ => ⟨ht, hcc⟩, fun q => absurd q (by decide), fun q => absurd q (by decide)⟩
              · unfold gX9_canDo
                rw [hs, bd_some hio]
                simp (disch := first | omega | (simp only [up_ap, List.length_set, Nat.reduceEqDiff, reduceIte] <;> omega)) only [Int32.le_refl, bd_pr, pr_ap, jn_eq, lt_eq, bd_bd, bd_ite, ite_ap, bd_ld, bd_sv, bd_la, bd_sa, bd_ln, bd_rz0, bd_rz1, rz_n0, rz_n1, e_lit2, nI_z, nI_eq0, nI_0eq, nI_le0, nI_lt0, nI_0lt, nI_0le, e_001, e_n10, e_n1lt, bd_la0, bd_sa0, bd_rz00, rz_0, rz_1, b2i_0, Int32.add_zero, Int32.zero_add, nI_add, nI_pred2, pk_sub, pk_mul, pk_div, e_nz, nI_eq, nI_leI, nI_ltI, e_nm1, e_nm2, up_ap, gd_set_ne, gd_set_same, List.length_set, Nat.add_sub_cancel, Nat.reduceEqDiff, Nat.reduceAdd, Nat.reduceMul, Nat.reduceSub, Nat.reduceLT, Nat.reduceLeDiff, reduceIte, Nat.not_lt_zero, not_true_eq_false, not_false_eq_true, and_true, true_and, and_false, false_and, Nat_1_le_0, c10]
                rw [bd_some (t_hasCloth l0 p5 hcc (by omega))]
                simp (disch := first | omega | (simp only [up_ap, List.length_set, Nat.reduceEqDiff, reduceIte] <;> omega)) only [Int32.le_refl, bd_pr, pr_ap, jn_eq, lt_eq, bd_bd, bd_ite, ite_ap, bd_ld, bd_sv, bd_la, bd_sa, bd_ln, bd_rz0, bd_rz1, rz_n0, rz_n1, e_lit2, nI_z, nI_eq0, nI_0eq, nI_le0, nI_lt0, nI_0lt, nI_0le, e_001, e_n10, e_n1lt, bd_la0, bd_sa0, bd_rz00, rz_0, rz_1, b2i_0, Int32.add_zero, Int32.zero_add, nI_add, nI_pred2, pk_sub, pk_mul, pk_div, e_nz, nI_eq, nI_leI, nI_ltI, e_nm1, e_nm2, up_ap, gd_set_ne, gd_set_same, List.length_set, Nat.add_sub_cancel, Nat.reduceEqDiff, Nat.reduceAdd, Nat.reduceMul, Nat.reduceSub, Nat.reduceLT, Nat.reduceLeDiff, reduceIte, Nat.not_lt_zero, not_true_eq_false, not_false_eq_true, and_true, true_and, and_false, false_and, Nat_1_le_0, a3, q3']
              · unfold gX11_canAct
                simp (disch := first | omega | (simp only [up_ap, List.length_set, Nat.reduceEqDiff, reduceIte] <;> omega)) only [Int32.le_refl, bd_pr, pr_ap, jn_eq, lt_eq, bd_bd, bd_ite, ite_ap, bd_ld, bd_sv, bd_la, bd_sa, bd_ln, bd_rz0, bd_rz1, rz_n0, rz_n1, e_lit2, nI_z, nI_eq0, nI_0eq, nI_le0, nI_lt0, nI_0lt, nI_0le, e_001, e_n10, e_n1lt, bd_la0, bd_sa0, bd_rz00, rz_0, rz_1, b2i_0, Int32.add_zero, Int32.zero_add, nI_add, nI_pred2, pk_sub, pk_mul, pk_div, e_nz, nI_eq, nI_leI, nI_ltI, e_nm1, e_nm2, up_ap, gd_set_ne, gd_set_same, List.length_set, Nat.add_sub_cancel, Nat.reduceEqDiff, Nat.reduceAdd, Nat.reduceMul, Nat.reduceSub, Nat.reduceLT, Nat.reduceLeDiff, reduceIte, Nat.not_lt_zero, not_true_eq_false, not_false_eq_true, and_true, true_and, and_false, false_and]
                rw [bd_some (t_isThing b0 b8 ht (by omega))]
                simp (disch := first | omega | (simp only [up_ap, List.length_set, Nat.reduceEqDiff, reduceIte] <;> omega)) only [Int32.le_refl, bd_pr, pr_ap, jn_eq, lt_eq, bd_bd, bd_ite, ite_ap, bd_ld, bd_sv, bd_la, bd_sa, bd_ln, bd_rz0, bd_rz1, rz_n0, rz_n1, e_lit2, nI_z, nI_eq0, nI_0eq, nI_le0, nI_lt0, nI_0lt, nI_0le, e_001, e_n10, e_n1lt, bd_la0, bd_sa0, bd_rz00, rz_0, rz_1, b2i_0, Int32.add_zero, Int32.zero_add, nI_add, nI_pred2, pk_sub, pk_mul, pk_div, e_nz, nI_eq, nI_leI, nI_ltI, e_nm1, e_nm2, up_ap, gd_set_ne, gd_set_same, List.length_set, Nat.add_sub_cancel, Nat.reduceEqDiff, Nat.reduceAdd, Nat.reduceMul, Nat.reduceSub, Nat.reduceLT, Nat.reduceLeDiff, reduceIte, Nat.not_lt_zero, not_true_eq_false, not_false_eq_true, and_true, true_and, and_false, false_and, Nat_1_le_0]
                rw [bd_some (t_isCloth b0 b7 hcc (by omega))]
                simp (disch := first | omega | (simp only [up_ap, List.length_set, Nat.reduceEqDiff, reduceIte] <;> omega)) only [Int32.le_refl, bd_pr, pr_ap, jn_eq, lt_eq, bd_bd, bd_ite, ite_ap, bd_ld, bd_sv, bd_la, bd_sa, bd_ln, bd_rz0, bd_rz1, rz_n0, rz_n1, e_lit2, nI_z, nI_eq0, nI_0eq, nI_le0, nI_lt0, nI_0lt, nI_0le, e_001, e_n10, e_n1lt, bd_la0, bd_sa0, bd_rz00, rz_0, rz_1, b2i_0, Int32.add_zero, Int32.zero_add, nI_add, nI_pred2, pk_sub, pk_mul, pk_div, e_nz, nI_eq, nI_leI, nI_ltI, e_nm1, e_nm2, up_ap, gd_set_ne, gd_set_same, List.length_set, Nat.add_sub_cancel, Nat.reduceEqDiff, Nat.reduceAdd, Nat.reduceMul, Nat.reduceSub, Nat.reduceLT, Nat.reduceLeDiff, reduceIte, Nat.not_lt_zero, not_true_eq_false, not_false_eq_true, and_true, true_and, and_false, false_and, Nat_1_le_0, gX11_canTie, gX11_isOpen, gX11_inCloth, q1, c123]
                rw [bd_some hkn]
                simp (disch := first | omega | (simp only [up_ap, List.length_set, Nat.reduceEqDiff, reduceIte] <;> omega)) only [Int32.le_refl, bd_pr, pr_ap, jn_eq, lt_eq, bd_bd, bd_ite, ite_ap, bd_ld, bd_sv, bd_la, bd_sa, bd_ln, bd_rz0, bd_rz1, rz_n0, rz_n1, e_lit2, nI_z, nI_eq0, nI_0eq, nI_le0, nI_lt0, nI_0lt, nI_0le, e_001, e_n10, e_n1lt, bd_la0, bd_sa0, bd_rz00, rz_0, rz_1, b2i_0, Int32.add_zero, Int32.zero_add, nI_add, nI_pred2, pk_sub, pk_mul, pk_div, e_nz, nI_eq, nI_leI, nI_ltI, e_nm1, e_nm2, up_ap, gd_set_ne, gd_set_same, List.length_set, Nat.add_sub_cancel, Nat.reduceEqDiff, Nat.reduceAdd, Nat.reduceMul, Nat.reduceSub, Nat.reduceLT, Nat.reduceLeDiff, reduceIte, Nat.not_lt_zero, not_true_eq_false, not_false_eq_true, and_true, true_and, and_false, false_and, Nat_1_le_0, q3']
            · have q3' : 4 ≤ (ks c).length := by omega
              refine Or.inl ⟨?_, ?_⟩
              · unfold gX9_canDo
                rw [hs, bd_some hio]
                simp (disch := first | omega | (simp only [up_ap, List.length_set, Nat.reduceEqDiff, reduceIte] <;> omega)) only [Int32.le_refl, bd_pr, pr_ap, jn_eq, lt_eq, bd_bd, bd_ite, ite_ap, bd_ld, bd_sv, bd_la, bd_sa, bd_ln, bd_rz0, bd_rz1, rz_n0, rz_n1, e_lit2, nI_z, nI_eq0, nI_0eq, nI_le0, nI_lt0, nI_0lt, nI_0le, e_001, e_n10, e_n1lt, bd_la0, bd_sa0, bd_rz00, rz_0, rz_1, b2i_0, Int32.add_zero, Int32.zero_add, nI_add, nI_pred2, pk_sub, pk_mul, pk_div, e_nz, nI_eq, nI_leI, nI_ltI, e_nm1, e_nm2, up_ap, gd_set_ne, gd_set_same, List.length_set, Nat.add_sub_cancel, Nat.reduceEqDiff, Nat.reduceAdd, Nat.reduceMul, Nat.reduceSub, Nat.reduceLT, Nat.reduceLeDiff, reduceIte, Nat.not_lt_zero, not_true_eq_false, not_false_eq_true, and_true, true_and, and_false, false_and, Nat_1_le_0, c10]
                rw [bd_some (t_hasCloth l0 p5 hcc (by omega))]
                simp (disch := first | omega | (simp only [up_ap, List.length_set, Nat.reduceEqDiff, reduceIte] <;> omega)) only [Int32.le_refl, bd_pr, pr_ap, jn_eq, lt_eq, bd_bd, bd_ite, ite_ap, bd_ld, bd_sv, bd_la, bd_sa, bd_ln, bd_rz0, bd_rz1, rz_n0, rz_n1, e_lit2, nI_z, nI_eq0, nI_0eq, nI_le0, nI_lt0, nI_0lt, nI_0le, e_001, e_n10, e_n1lt, bd_la0, bd_sa0, bd_rz00, rz_0, rz_1, b2i_0, Int32.add_zero, Int32.zero_add, nI_add, nI_pred2, pk_sub, pk_mul, pk_div, e_nz, nI_eq, nI_leI, nI_ltI, e_nm1, e_nm2, up_ap, gd_set_ne, gd_set_same, List.length_set, Nat.add_sub_cancel, Nat.reduceEqDiff, Nat.reduceAdd, Nat.reduceMul, Nat.reduceSub, Nat.reduceLT, Nat.reduceLeDiff, reduceIte, Nat.not_lt_zero, not_true_eq_false, not_false_eq_true, and_true, true_and, and_false, false_and, Nat_1_le_0, a3, q3']
              · unfold gX11_canAct
                simp (disch := first | omega | (simp only [up_ap, List.length_set, Nat.reduceEqDiff, reduceIte] <;> omega)) only [Int32.le_refl, bd_pr, pr_ap, jn_eq, lt_eq, bd_bd, bd_ite, ite_ap, bd_ld, bd_sv, bd_la, bd_sa, bd_ln, bd_rz0, bd_rz1, rz_n0, rz_n1, e_lit2, nI_z, nI_eq0, nI_0eq, nI_le0, nI_lt0, nI_0lt, nI_0le, e_001, e_n10, e_n1lt, bd_la0, bd_sa0, bd_rz00, rz_0, rz_1, b2i_0, Int32.add_zero, Int32.zero_add, nI_add, nI_pred2, pk_sub, pk_mul, pk_div, e_nz, nI_eq, nI_leI, nI_ltI, e_nm1, e_nm2, up_ap, gd_set_ne, gd_set_same, List.length_set, Nat.add_sub_cancel, Nat.reduceEqDiff, Nat.reduceAdd, Nat.reduceMul, Nat.reduceSub, Nat.reduceLT, Nat.reduceLeDiff, reduceIte, Nat.not_lt_zero, not_true_eq_false, not_false_eq_true, and_true, true_and, and_false, false_and]
                rw [bd_some (t_isThing b0 b8 ht (by omega))]
                simp (disch := first | omega | (simp only [up_ap, List.length_set, Nat.reduceEqDiff, reduceIte] <;> omega)) only [Int32.le_refl, bd_pr, pr_ap, jn_eq, lt_eq, bd_bd, bd_ite, ite_ap, bd_ld, bd_sv, bd_la, bd_sa, bd_ln, bd_rz0, bd_rz1, rz_n0, rz_n1, e_lit2, nI_z, nI_eq0, nI_0eq, nI_le0, nI_lt0, nI_0lt, nI_0le, e_001, e_n10, e_n1lt, bd_la0, bd_sa0, bd_rz00, rz_0, rz_1, b2i_0, Int32.add_zero, Int32.zero_add, nI_add, nI_pred2, pk_sub, pk_mul, pk_div, e_nz, nI_eq, nI_leI, nI_ltI, e_nm1, e_nm2, up_ap, gd_set_ne, gd_set_same, List.length_set, Nat.add_sub_cancel, Nat.reduceEqDiff, Nat.reduceAdd, Nat.reduceMul, Nat.reduceSub, Nat.reduceLT, Nat.reduceLeDiff, reduceIte, Nat.not_lt_zero, not_true_eq_false, not_false_eq_true, and_true, true_and, and_false, false_and, Nat_1_le_0]
                rw [bd_some (t_isCloth b0 b7 hcc (by omega))]
                simp (disch := first | omega | (simp only [up_ap, List.length_set, Nat.reduceEqDiff, reduceIte] <;> omega)) only [Int32.le_refl, bd_pr, pr_ap, jn_eq, lt_eq, bd_bd, bd_ite, ite_ap, bd_ld, bd_sv, bd_la, bd_sa, bd_ln, bd_rz0, bd_rz1, rz_n0, rz_n1, e_lit2, nI_z, nI_eq0, nI_0eq, nI_le0, nI_lt0, nI_0lt, nI_0le, e_001, e_n10, e_n1lt, bd_la0, bd_sa0, bd_rz00, rz_0, rz_1, b2i_0, Int32.add_zero, Int32.zero_add, nI_add, nI_pred2, pk_sub, pk_mul, pk_div, e_nz, nI_eq, nI_leI, nI_ltI, e_nm1, e_nm2, up_ap, gd_set_ne, gd_set_same, List.length_set, Nat.add_sub_cancel, Nat.reduceEqDiff, Nat.reduceAdd, Nat.reduceMul, Nat.reduceSub, Nat.reduceLT, Nat.reduceLeDiff, reduceIte, Nat.not_lt_zero, not_true_eq_false, not_false_eq_true, and_true, true_and, and_false, false_and, Nat_1_le_0, gX11_canTie, gX11_isOpen, gX11_inCloth, q1, c123]
                rw [bd_some hkn]
                simp (disch := first | omega | (simp only [up_ap, List.length_set, Nat.reduceEqDiff, reduceIte] <;> omega)) only [Int32.le_refl, bd_pr, pr_ap, jn_eq, lt_eq, bd_bd, bd_ite, ite_ap, bd_ld, bd_sv, bd_la, bd_sa, bd_ln, bd_rz0, bd_rz1, rz_n0, rz_n1, e_lit2, nI_z, nI_eq0, nI_0eq, nI_le0, nI_lt0, nI_0lt, nI_0le, e_001, e_n10, e_n1lt, bd_la0, bd_sa0, bd_rz00, rz_0, rz_1, b2i_0, Int32.add_zero, Int32.zero_add, nI_add, nI_pred2, pk_sub, pk_mul, pk_div, e_nz, nI_eq, nI_leI, nI_ltI, e_nm1, e_nm2, up_ap, gd_set_ne, gd_set_same, List.length_set, Nat.add_sub_cancel, Nat.reduceEqDiff, Nat.reduceAdd, Nat.reduceMul, Nat.reduceSub, Nat.reduceLT, Nat.reduceLeDiff, reduceIte, Nat.not_lt_zero, not_true_eq_false, not_false_eq_true, and_true, true_and, and_false, false_and, Nat_1_le_0, q3']
          · obtain ⟨u, hu⟩ : ∃ u, wh t = u + 1 := ⟨wh t - 1, by omega⟩
            have c10 : (W 10).getD t 0 = nI u := by rw [y3, hu, nI_pred2]
            have c123 : (B 1).getD (123 + t) 0 = nI (u + 1) := by rw [y2, hu]
            have hu2 : u < 14 := by omega
            refine Or.inl ⟨?_, ?_⟩
            · unfold gX9_canDo
              rw [hs, bd_some hio]
              simp (disch := first | omega | (simp only [up_ap, List.length_set, Nat.reduceEqDiff, reduceIte] <;> omega)) only [Int32.le_refl, bd_pr, pr_ap, jn_eq, lt_eq, bd_bd, bd_ite, ite_ap, bd_ld, bd_sv, bd_la, bd_sa, bd_ln, bd_rz0, bd_rz1, rz_n0, rz_n1, e_lit2, nI_z, nI_eq0, nI_0eq, nI_le0, nI_lt0, nI_0lt, nI_0le, e_001, e_n10, e_n1lt, bd_la0, bd_sa0, bd_rz00, rz_0, rz_1, b2i_0, Int32.add_zero, Int32.zero_add, nI_add, nI_pred2, pk_sub, pk_mul, pk_div, e_nz, nI_eq, nI_leI, nI_ltI, e_nm1, e_nm2, up_ap, gd_set_ne, gd_set_same, List.length_set, Nat.add_sub_cancel, Nat.reduceEqDiff, Nat.reduceAdd, Nat.reduceMul, Nat.reduceSub, Nat.reduceLT, Nat.reduceLeDiff, reduceIte, Nat.not_lt_zero, not_true_eq_false, not_false_eq_true, and_true, true_and, and_false, false_and, Nat_1_le_0, c10]
            · unfold gX11_canAct
              simp (disch := first | omega | (simp only [up_ap, List.length_set, Nat.reduceEqDiff, reduceIte] <;> omega)) only [Int32.le_refl, bd_pr, pr_ap, jn_eq, lt_eq, bd_bd, bd_ite, ite_ap, bd_ld, bd_sv, bd_la, bd_sa, bd_ln, bd_rz0, bd_rz1, rz_n0, rz_n1, e_lit2, nI_z, nI_eq0, nI_0eq, nI_le0, nI_lt0, nI_0lt, nI_0le, e_001, e_n10, e_n1lt, bd_la0, bd_sa0, bd_rz00, rz_0, rz_1, b2i_0, Int32.add_zero, Int32.zero_add, nI_add, nI_pred2, pk_sub, pk_mul, pk_div, e_nz, nI_eq, nI_leI, nI_ltI, e_nm1, e_nm2, up_ap, gd_set_ne, gd_set_same, List.length_set, Nat.add_sub_cancel, Nat.reduceEqDiff, Nat.reduceAdd, Nat.reduceMul, Nat.reduceSub, Nat.reduceLT, Nat.reduceLeDiff, reduceIte, Nat.not_lt_zero, not_true_eq_false, not_false_eq_true, and_true, true_and, and_false, false_and]
              rw [bd_some (t_isThing b0 b8 ht (by omega))]
              simp (disch := first | omega | (simp only [up_ap, List.length_set, Nat.reduceEqDiff, reduceIte] <;> omega)) only [Int32.le_refl, bd_pr, pr_ap, jn_eq, lt_eq, bd_bd, bd_ite, ite_ap, bd_ld, bd_sv, bd_la, bd_sa, bd_ln, bd_rz0, bd_rz1, rz_n0, rz_n1, e_lit2, nI_z, nI_eq0, nI_0eq, nI_le0, nI_lt0, nI_0lt, nI_0le, e_001, e_n10, e_n1lt, bd_la0, bd_sa0, bd_rz00, rz_0, rz_1, b2i_0, Int32.add_zero, Int32.zero_add, nI_add, nI_pred2, pk_sub, pk_mul, pk_div, e_nz, nI_eq, nI_leI, nI_ltI, e_nm1, e_nm2, up_ap, gd_set_ne, gd_set_same, List.length_set, Nat.add_sub_cancel, Nat.reduceEqDiff, Nat.reduceAdd, Nat.reduceMul, Nat.reduceSub, Nat.reduceLT, Nat.reduceLeDiff, reduceIte, Nat.not_lt_zero, not_true_eq_false, not_false_eq_true, and_true, true_and, and_false, false_and, Nat_1_le_0]
              rw [bd_some (t_isCloth b0 b7 hcc (by omega))]
              simp (disch := first | omega | (simp only [up_ap, List.length_set, Nat.reduceEqDiff, reduceIte] <;> omega)) only [Int32.le_refl, bd_pr, pr_ap, jn_eq, lt_eq, bd_bd, bd_ite, ite_ap, bd_ld, bd_sv, bd_la, bd_sa, bd_ln, bd_rz0, bd_rz1, rz_n0, rz_n1, e_lit2, nI_z, nI_eq0, nI_0eq, nI_le0, nI_lt0, nI_0lt, nI_0le, e_001, e_n10, e_n1lt, bd_la0, bd_sa0, bd_rz00, rz_0, rz_1, b2i_0, Int32.add_zero, Int32.zero_add, nI_add, nI_pred2, pk_sub, pk_mul, pk_div, e_nz, nI_eq, nI_leI, nI_ltI, e_nm1, e_nm2, up_ap, gd_set_ne, gd_set_same, List.length_set, Nat.add_sub_cancel, Nat.reduceEqDiff, Nat.reduceAdd, Nat.reduceMul, Nat.reduceSub, Nat.reduceLT, Nat.reduceLeDiff, reduceIte, Nat.not_lt_zero, not_true_eq_false, not_false_eq_true, and_true, true_and, and_false, false_and, Nat_1_le_0, gX11_canTie, gX11_isOpen, gX11_inCloth, q1, c123]
        · rw [if_neg q1] at hio
          refine Or.inl ⟨?_, ?_⟩
          · unfold gX9_canDo
            rw [hs, bd_some hio]
            simp (disch := first | omega | (simp only [up_ap, List.length_set, Nat.reduceEqDiff, reduceIte] <;> omega)) only [Int32.le_refl, bd_pr, pr_ap, jn_eq, lt_eq, bd_bd, bd_ite, ite_ap, bd_ld, bd_sv, bd_la, bd_sa, bd_ln, bd_rz0, bd_rz1, rz_n0, rz_n1, e_lit2, nI_z, nI_eq0, nI_0eq, nI_le0, nI_lt0, nI_0lt, nI_0le, e_001, e_n10, e_n1lt, bd_la0, bd_sa0, bd_rz00, rz_0, rz_1, b2i_0, Int32.add_zero, Int32.zero_add, nI_add, nI_pred2, pk_sub, pk_mul, pk_div, e_nz, nI_eq, nI_leI, nI_ltI, e_nm1, e_nm2, up_ap, gd_set_ne, gd_set_same, List.length_set, Nat.add_sub_cancel, Nat.reduceEqDiff, Nat.reduceAdd, Nat.reduceMul, Nat.reduceSub, Nat.reduceLT, Nat.reduceLeDiff, reduceIte, Nat.not_lt_zero, not_true_eq_false, not_false_eq_true, and_true, true_and, and_false, false_and]
          · unfold gX11_canAct
            simp (disch := first | omega | (simp only [up_ap, List.length_set, Nat.reduceEqDiff, reduceIte] <;> omega)) only [Int32.le_refl, bd_pr, pr_ap, jn_eq, lt_eq, bd_bd, bd_ite, ite_ap, bd_ld, bd_sv, bd_la, bd_sa, bd_ln, bd_rz0, bd_rz1, rz_n0, rz_n1, e_lit2, nI_z, nI_eq0, nI_0eq, nI_le0, nI_lt0, nI_0lt, nI_0le, e_001, e_n10, e_n1lt, bd_la0, bd_sa0, bd_rz00, rz_0, rz_1, b2i_0, Int32.add_zero, Int32.zero_add, nI_add, nI_pred2, pk_sub, pk_mul, pk_div, e_nz, nI_eq, nI_leI, nI_ltI, e_nm1, e_nm2, up_ap, gd_set_ne, gd_set_same, List.length_set, Nat.add_sub_cancel, Nat.reduceEqDiff, Nat.reduceAdd, Nat.reduceMul, Nat.reduceSub, Nat.reduceLT, Nat.reduceLeDiff, reduceIte, Nat.not_lt_zero, not_true_eq_false, not_false_eq_true, and_true, true_and, and_false, false_and]
            rw [bd_some (t_isThing b0 b8 ht (by omega))]
            simp (disch := first | omega | (simp only [up_ap, List.length_set, Nat.reduceEqDiff, reduceIte] <;> omega)) only [Int32.le_refl, bd_pr, pr_ap, jn_eq, lt_eq, bd_bd, bd_ite, ite_ap, bd_ld, bd_sv, bd_la, bd_sa, bd_ln, bd_rz0, bd_rz1, rz_n0, rz_n1, e_lit2, nI_z, nI_eq0, nI_0eq, nI_le0, nI_lt0, nI_0lt, nI_0le, e_001, e_n10, e_n1lt, bd_la0, bd_sa0, bd_rz00, rz_0, rz_1, b2i_0, Int32.add_zero, Int32.zero_add, nI_add, nI_pred2, pk_sub, pk_mul, pk_div, e_nz, nI_eq, nI_leI, nI_ltI, e_nm1, e_nm2, up_ap, gd_set_ne, gd_set_same, List.length_set, Nat.add_sub_cancel, Nat.reduceEqDiff, Nat.reduceAdd, Nat.reduceMul, Nat.reduceSub, Nat.reduceLT, Nat.reduceLeDiff, reduceIte, Nat.not_lt_zero, not_true_eq_false, not_false_eq_true, and_true, true_and, and_false, false_and, Nat_1_le_0]
            rw [bd_some (t_isCloth b0 b7 hcc (by omega))]
            simp (disch := first | omega | (simp only [up_ap, List.length_set, Nat.reduceEqDiff, reduceIte] <;> omega)) only [Int32.le_refl, bd_pr, pr_ap, jn_eq, lt_eq, bd_bd, bd_ite, ite_ap, bd_ld, bd_sv, bd_la, bd_sa, bd_ln, bd_rz0, bd_rz1, rz_n0, rz_n1, e_lit2, nI_z, nI_eq0, nI_0eq, nI_le0, nI_lt0, nI_0lt, nI_0le, e_001, e_n10, e_n1lt, bd_la0, bd_sa0, bd_rz00, rz_0, rz_1, b2i_0, Int32.add_zero, Int32.zero_add, nI_add, nI_pred2, pk_sub, pk_mul, pk_div, e_nz, nI_eq, nI_leI, nI_ltI, e_nm1, e_nm2, up_ap, gd_set_ne, gd_set_same, List.length_set, Nat.add_sub_cancel, Nat.reduceEqDiff, Nat.reduceAdd, Nat.reduceMul, Nat.reduceSub, Nat.reduceLT, Nat.reduceLeDiff, reduceIte, Nat.not_lt_zero, not_true_eq_false, not_false_eq_true, and_true, true_and, and_false, false_and, Nat_1_le_0, gX11_canTie, gX11_isOpen, gX11_inCloth, q1]
      · refine Or.inl ⟨?_, ?_⟩
        · unfold gX9_canDo
          rw [hs, bd_some hio]
          by_cases q1 : (B 1).getD (163 + t) 0 = 0
          · rw [if_pos q1]
            by_cases q2 : (W 10).getD t 0 = -nI 1
            · simp (disch := first | omega | (simp only [up_ap, List.length_set, Nat.reduceEqDiff, reduceIte] <;> omega)) only [Int32.le_refl, bd_pr, pr_ap, jn_eq, lt_eq, bd_bd, bd_ite, ite_ap, bd_ld, bd_sv, bd_la, bd_sa, bd_ln, bd_rz0, bd_rz1, rz_n0, rz_n1, e_lit2, nI_z, nI_eq0, nI_0eq, nI_le0, nI_lt0, nI_0lt, nI_0le, e_001, e_n10, e_n1lt, bd_la0, bd_sa0, bd_rz00, rz_0, rz_1, b2i_0, Int32.add_zero, Int32.zero_add, nI_add, nI_pred2, pk_sub, pk_mul, pk_div, e_nz, nI_eq, nI_leI, nI_ltI, e_nm1, e_nm2, up_ap, gd_set_ne, gd_set_same, List.length_set, Nat.add_sub_cancel, Nat.reduceEqDiff, Nat.reduceAdd, Nat.reduceMul, Nat.reduceSub, Nat.reduceLT, Nat.reduceLeDiff, reduceIte, Nat.not_lt_zero, not_true_eq_false, not_false_eq_true, and_true, true_and, and_false, false_and, Nat_1_le_0, q2]
              rw [bd_some (f_hasCloth l0 p5 hc)]
              simp (disch := first | omega | (simp only [up_ap, List.length_set, Nat.reduceEqDiff, reduceIte] <;> omega)) only [Int32.le_refl, bd_pr, pr_ap, jn_eq, lt_eq, bd_bd, bd_ite, ite_ap, bd_ld, bd_sv, bd_la, bd_sa, bd_ln, bd_rz0, bd_rz1, rz_n0, rz_n1, e_lit2, nI_z, nI_eq0, nI_0eq, nI_le0, nI_lt0, nI_0lt, nI_0le, e_001, e_n10, e_n1lt, bd_la0, bd_sa0, bd_rz00, rz_0, rz_1, b2i_0, Int32.add_zero, Int32.zero_add, nI_add, nI_pred2, pk_sub, pk_mul, pk_div, e_nz, nI_eq, nI_leI, nI_ltI, e_nm1, e_nm2, up_ap, gd_set_ne, gd_set_same, List.length_set, Nat.add_sub_cancel, Nat.reduceEqDiff, Nat.reduceAdd, Nat.reduceMul, Nat.reduceSub, Nat.reduceLT, Nat.reduceLeDiff, reduceIte, Nat.not_lt_zero, not_true_eq_false, not_false_eq_true, and_true, true_and, and_false, false_and]
            · simp (disch := first | omega | (simp only [up_ap, List.length_set, Nat.reduceEqDiff, reduceIte] <;> omega)) only [Int32.le_refl, bd_pr, pr_ap, jn_eq, lt_eq, bd_bd, bd_ite, ite_ap, bd_ld, bd_sv, bd_la, bd_sa, bd_ln, bd_rz0, bd_rz1, rz_n0, rz_n1, e_lit2, nI_z, nI_eq0, nI_0eq, nI_le0, nI_lt0, nI_0lt, nI_0le, e_001, e_n10, e_n1lt, bd_la0, bd_sa0, bd_rz00, rz_0, rz_1, b2i_0, Int32.add_zero, Int32.zero_add, nI_add, nI_pred2, pk_sub, pk_mul, pk_div, e_nz, nI_eq, nI_leI, nI_ltI, e_nm1, e_nm2, up_ap, gd_set_ne, gd_set_same, List.length_set, Nat.add_sub_cancel, Nat.reduceEqDiff, Nat.reduceAdd, Nat.reduceMul, Nat.reduceSub, Nat.reduceLT, Nat.reduceLeDiff, reduceIte, Nat.not_lt_zero, not_true_eq_false, not_false_eq_true, and_true, true_and, and_false, false_and, Nat_1_le_0, q2]
          · rw [if_neg q1]
            simp (disch := first | omega | (simp only [up_ap, List.length_set, Nat.reduceEqDiff, reduceIte] <;> omega)) only [Int32.le_refl, bd_pr, pr_ap, jn_eq, lt_eq, bd_bd, bd_ite, ite_ap, bd_ld, bd_sv, bd_la, bd_sa, bd_ln, bd_rz0, bd_rz1, rz_n0, rz_n1, e_lit2, nI_z, nI_eq0, nI_0eq, nI_le0, nI_lt0, nI_0lt, nI_0le, e_001, e_n10, e_n1lt, bd_la0, bd_sa0, bd_rz00, rz_0, rz_1, b2i_0, Int32.add_zero, Int32.zero_add, nI_add, nI_pred2, pk_sub, pk_mul, pk_div, e_nz, nI_eq, nI_leI, nI_ltI, e_nm1, e_nm2, up_ap, gd_set_ne, gd_set_same, List.length_set, Nat.add_sub_cancel, Nat.reduceEqDiff, Nat.reduceAdd, Nat.reduceMul, Nat.reduceSub, Nat.reduceLT, Nat.reduceLeDiff, reduceIte, Nat.not_lt_zero, not_true_eq_false, not_false_eq_true, and_true, true_and, and_false, false_and]
        · unfold gX11_canAct
          simp (disch := first | omega | (simp only [up_ap, List.length_set, Nat.reduceEqDiff, reduceIte] <;> omega)) only [Int32.le_refl, bd_pr, pr_ap, jn_eq, lt_eq, bd_bd, bd_ite, ite_ap, bd_ld, bd_sv, bd_la, bd_sa, bd_ln, bd_rz0, bd_rz1, rz_n0, rz_n1, e_lit2, nI_z, nI_eq0, nI_0eq, nI_le0, nI_lt0, nI_0lt, nI_0le, e_001, e_n10, e_n1lt, bd_la0, bd_sa0, bd_rz00, rz_0, rz_1, b2i_0, Int32.add_zero, Int32.zero_add, nI_add, nI_pred2, pk_sub, pk_mul, pk_div, e_nz, nI_eq, nI_leI, nI_ltI, e_nm1, e_nm2, up_ap, gd_set_ne, gd_set_same, List.length_set, Nat.add_sub_cancel, Nat.reduceEqDiff, Nat.reduceAdd, Nat.reduceMul, Nat.reduceSub, Nat.reduceLT, Nat.reduceLeDiff, reduceIte, Nat.not_lt_zero, not_true_eq_false, not_false_eq_true, and_true, true_and, and_false, false_and]
          rw [bd_some (t_isThing b0 b8 ht (by omega))]
          simp (disch := first | omega | (simp only [up_ap, List.length_set, Nat.reduceEqDiff, reduceIte] <;> omega)) only [Int32.le_refl, bd_pr, pr_ap, jn_eq, lt_eq, bd_bd, bd_ite, ite_ap, bd_ld, bd_sv, bd_la, bd_sa, bd_ln, bd_rz0, bd_rz1, rz_n0, rz_n1, e_lit2, nI_z, nI_eq0, nI_0eq, nI_le0, nI_lt0, nI_0lt, nI_0le, e_001, e_n10, e_n1lt, bd_la0, bd_sa0, bd_rz00, rz_0, rz_1, b2i_0, Int32.add_zero, Int32.zero_add, nI_add, nI_pred2, pk_sub, pk_mul, pk_div, e_nz, nI_eq, nI_leI, nI_ltI, e_nm1, e_nm2, up_ap, gd_set_ne, gd_set_same, List.length_set, Nat.add_sub_cancel, Nat.reduceEqDiff, Nat.reduceAdd, Nat.reduceMul, Nat.reduceSub, Nat.reduceLT, Nat.reduceLeDiff, reduceIte, Nat.not_lt_zero, not_true_eq_false, not_false_eq_true, and_true, true_and, and_false, false_and, Nat_1_le_0]
          rw [bd_some (f_isCloth b0 b7 hc)]
          simp (disch := first | omega | (simp only [up_ap, List.length_set, Nat.reduceEqDiff, reduceIte] <;> omega)) only [Int32.le_refl, bd_pr, pr_ap, jn_eq, lt_eq, bd_bd, bd_ite, ite_ap, bd_ld, bd_sv, bd_la, bd_sa, bd_ln, bd_rz0, bd_rz1, rz_n0, rz_n1, e_lit2, nI_z, nI_eq0, nI_0eq, nI_le0, nI_lt0, nI_0lt, nI_0le, e_001, e_n10, e_n1lt, bd_la0, bd_sa0, bd_rz00, rz_0, rz_1, b2i_0, Int32.add_zero, Int32.zero_add, nI_add, nI_pred2, pk_sub, pk_mul, pk_div, e_nz, nI_eq, nI_leI, nI_ltI, e_nm1, e_nm2, up_ap, gd_set_ne, gd_set_same, List.length_set, Nat.add_sub_cancel, Nat.reduceEqDiff, Nat.reduceAdd, Nat.reduceMul, Nat.reduceSub, Nat.reduceLT, Nat.reduceLeDiff, reduceIte, Nat.not_lt_zero, not_true_eq_false, not_false_eq_true, and_true, true_and, and_false, false_and]
    · refine Or.inl ⟨?_, ?_⟩
      · unfold gX9_canDo gX9_isOpen
        rw [hs]
        simp (disch := first | omega | (simp only [up_ap, List.length_set, Nat.reduceEqDiff, reduceIte] <;> omega)) only [Int32.le_refl, bd_pr, pr_ap, jn_eq, lt_eq, bd_bd, bd_ite, ite_ap, bd_ld, bd_sv, bd_la, bd_sa, bd_ln, bd_rz0, bd_rz1, rz_n0, rz_n1, e_lit2, nI_z, nI_eq0, nI_0eq, nI_le0, nI_lt0, nI_0lt, nI_0le, e_001, e_n10, e_n1lt, bd_la0, bd_sa0, bd_rz00, rz_0, rz_1, b2i_0, Int32.add_zero, Int32.zero_add, nI_add, nI_pred2, pk_sub, pk_mul, pk_div, e_nz, nI_eq, nI_leI, nI_ltI, e_nm1, e_nm2, up_ap, gd_set_ne, gd_set_same, List.length_set, Nat.add_sub_cancel, Nat.reduceEqDiff, Nat.reduceAdd, Nat.reduceMul, Nat.reduceSub, Nat.reduceLT, Nat.reduceLeDiff, reduceIte, Nat.not_lt_zero, not_true_eq_false, not_false_eq_true, and_true, true_and, and_false, false_and]
        rw [bd_some (f_hasThing l0 p6 ha)]
        simp (disch := first | omega | (simp only [up_ap, List.length_set, Nat.reduceEqDiff, reduceIte] <;> omega)) only [Int32.le_refl, bd_pr, pr_ap, jn_eq, lt_eq, bd_bd, bd_ite, ite_ap, bd_ld, bd_sv, bd_la, bd_sa, bd_ln, bd_rz0, bd_rz1, rz_n0, rz_n1, e_lit2, nI_z, nI_eq0, nI_0eq, nI_le0, nI_lt0, nI_0lt, nI_0le, e_001, e_n10, e_n1lt, bd_la0, bd_sa0, bd_rz00, rz_0, rz_1, b2i_0, Int32.add_zero, Int32.zero_add, nI_add, nI_pred2, pk_sub, pk_mul, pk_div, e_nz, nI_eq, nI_leI, nI_ltI, e_nm1, e_nm2, up_ap, gd_set_ne, gd_set_same, List.length_set, Nat.add_sub_cancel, Nat.reduceEqDiff, Nat.reduceAdd, Nat.reduceMul, Nat.reduceSub, Nat.reduceLT, Nat.reduceLeDiff, reduceIte, Nat.not_lt_zero, not_true_eq_false, not_false_eq_true, and_true, true_and, and_false, false_and]
      · unfold gX11_canAct
        simp (disch := first | omega | (simp only [up_ap, List.length_set, Nat.reduceEqDiff, reduceIte] <;> omega)) only [Int32.le_refl, bd_pr, pr_ap, jn_eq, lt_eq, bd_bd, bd_ite, ite_ap, bd_ld, bd_sv, bd_la, bd_sa, bd_ln, bd_rz0, bd_rz1, rz_n0, rz_n1, e_lit2, nI_z, nI_eq0, nI_0eq, nI_le0, nI_lt0, nI_0lt, nI_0le, e_001, e_n10, e_n1lt, bd_la0, bd_sa0, bd_rz00, rz_0, rz_1, b2i_0, Int32.add_zero, Int32.zero_add, nI_add, nI_pred2, pk_sub, pk_mul, pk_div, e_nz, nI_eq, nI_leI, nI_ltI, e_nm1, e_nm2, up_ap, gd_set_ne, gd_set_same, List.length_set, Nat.add_sub_cancel, Nat.reduceEqDiff, Nat.reduceAdd, Nat.reduceMul, Nat.reduceSub, Nat.reduceLT, Nat.reduceLeDiff, reduceIte, Nat.not_lt_zero, not_true_eq_false, not_false_eq_true, and_true, true_and, and_false, false_and]
        rw [bd_some (f_isThing b0 b8 ha)]
        simp (disch := first | omega | (simp only [up_ap, List.length_set, Nat.reduceEqDiff, reduceIte] <;> omega)) only [Int32.le_refl, bd_pr, pr_ap, jn_eq, lt_eq, bd_bd, bd_ite, ite_ap, bd_ld, bd_sv, bd_la, bd_sa, bd_ln, bd_rz0, bd_rz1, rz_n0, rz_n1, e_lit2, nI_z, nI_eq0, nI_0eq, nI_le0, nI_lt0, nI_0lt, nI_0le, e_001, e_n10, e_n1lt, bd_la0, bd_sa0, bd_rz00, rz_0, rz_1, b2i_0, Int32.add_zero, Int32.zero_add, nI_add, nI_pred2, pk_sub, pk_mul, pk_div, e_nz, nI_eq, nI_leI, nI_ltI, e_nm1, e_nm2, up_ap, gd_set_ne, gd_set_same, List.length_set, Nat.add_sub_cancel, Nat.reduceEqDiff, Nat.reduceAdd, Nat.reduceMul, Nat.reduceSub, Nat.reduceLT, Nat.reduceLeDiff, reduceIte, Nat.not_lt_zero, not_true_eq_false, not_false_eq_true, and_true, true_and, and_false, false_and]
  by_cases ha : 0 ≤ x2 ∧ x2 < nI nc
  · obtain ⟨c, hcc, rfl⟩ := in_rng (by omega) ha
    obtain ⟨a1, a2, a3, a4, a5⟩ := k1 c hcc
    have hkn := p_knotsOf (B := B) hn1 (show c < 14 by omega) a1 a5 (fun x hx => by have := ((k3 c x hcc).mp hx).1; omega)
    have tc := t_hasCloth l0 p5 hcc (by omega)
    have ti := t_isCloth b0 b7 hcc (by omega)
    by_cases w1 : x1 = nI 1
    · subst w1
      by_cases hp : 0 ≤ x3 ∧ x3 < nI np
      · obtain ⟨p, hpp, rfl⟩ := in_rng (by omega) hp
        obtain ⟨w, hww, ew⟩ := hw c hcc
        have e4 := s4 c (by omega)
        rw [ew] at e4
        by_cases q : w = p
        · refine Or.inl ⟨?_, ?_⟩
          · unfold gX9_canDo
            rw [swt_k (by omega) 1 rfl]
            simp only [List.getD_cons_succ, List.getD_cons_zero]
            rw [bd_some tc]
            simp (disch := first | omega | (simp only [up_ap, List.length_set, Nat.reduceEqDiff, reduceIte] <;> omega)) only [Int32.le_refl, bd_pr, pr_ap, jn_eq, lt_eq, bd_bd, bd_ite, ite_ap, bd_ld, bd_sv, bd_la, bd_sa, bd_ln, bd_rz0, bd_rz1, rz_n0, rz_n1, e_lit2, nI_z, nI_eq0, nI_0eq, nI_le0, nI_lt0, nI_0lt, nI_0le, e_001, e_n10, e_n1lt, bd_la0, bd_sa0, bd_rz00, rz_0, rz_1, b2i_0, Int32.add_zero, Int32.zero_add, nI_add, nI_pred2, pk_sub, pk_mul, pk_div, e_nz, nI_eq, nI_leI, nI_ltI, e_nm1, e_nm2, up_ap, gd_set_ne, gd_set_same, List.length_set, Nat.add_sub_cancel, Nat.reduceEqDiff, Nat.reduceAdd, Nat.reduceMul, Nat.reduceSub, Nat.reduceLT, Nat.reduceLeDiff, reduceIte, Nat.not_lt_zero, not_true_eq_false, not_false_eq_true, and_true, true_and, and_false, false_and, Nat_1_le_0]
            rw [bd_some (t_hasPerson l0 p4 hpp (by omega))]
            simp (disch := first | omega | (simp only [up_ap, List.length_set, Nat.reduceEqDiff, reduceIte] <;> omega)) only [Int32.le_refl, bd_pr, pr_ap, jn_eq, lt_eq, bd_bd, bd_ite, ite_ap, bd_ld, bd_sv, bd_la, bd_sa, bd_ln, bd_rz0, bd_rz1, rz_n0, rz_n1, e_lit2, nI_z, nI_eq0, nI_0eq, nI_le0, nI_lt0, nI_0lt, nI_0le, e_001, e_n10, e_n1lt, bd_la0, bd_sa0, bd_rz00, rz_0, rz_1, b2i_0, Int32.add_zero, Int32.zero_add, nI_add, nI_pred2, pk_sub, pk_mul, pk_div, e_nz, nI_eq, nI_leI, nI_ltI, e_nm1, e_nm2, up_ap, gd_set_ne, gd_set_same, List.length_set, Nat.add_sub_cancel, Nat.reduceEqDiff, Nat.reduceAdd, Nat.reduceMul, Nat.reduceSub, Nat.reduceLT, Nat.reduceLeDiff, reduceIte, Nat.not_lt_zero, not_true_eq_false, not_false_eq_true, and_true, true_and, and_false, false_and, Nat_1_le_0, e4, q]
          · unfold gX11_canAct
            simp (disch := first | omega | (simp only [up_ap, List.length_set, Nat.reduceEqDiff, reduceIte] <;> omega)) only [Int32.le_refl, bd_pr, pr_ap, jn_eq, lt_eq, bd_bd, bd_ite, ite_ap, bd_ld, bd_sv, bd_la, bd_sa, bd_ln, bd_rz0, bd_rz1, rz_n0, rz_n1, e_lit2, nI_z, nI_eq0, nI_0eq, nI_le0, nI_lt0, nI_0lt, nI_0le, e_001, e_n10, e_n1lt, bd_la0, bd_sa0, bd_rz00, rz_0, rz_1, b2i_0, Int32.add_zero, Int32.zero_add, nI_add, nI_pred2, pk_sub, pk_mul, pk_div, e_nz, nI_eq, nI_leI, nI_ltI, e_nm1, e_nm2, up_ap, gd_set_ne, gd_set_same, List.length_set, Nat.add_sub_cancel, Nat.reduceEqDiff, Nat.reduceAdd, Nat.reduceMul, Nat.reduceSub, Nat.reduceLT, Nat.reduceLeDiff, reduceIte, Nat.not_lt_zero, not_true_eq_false, not_false_eq_true, and_true, true_and, and_false, false_and, w0, Nat_1_le_0]
            rw [bd_some ti]
            simp (disch := first | omega | (simp only [up_ap, List.length_set, Nat.reduceEqDiff, reduceIte] <;> omega)) only [Int32.le_refl, bd_pr, pr_ap, jn_eq, lt_eq, bd_bd, bd_ite, ite_ap, bd_ld, bd_sv, bd_la, bd_sa, bd_ln, bd_rz0, bd_rz1, rz_n0, rz_n1, e_lit2, nI_z, nI_eq0, nI_0eq, nI_le0, nI_lt0, nI_0lt, nI_0le, e_001, e_n10, e_n1lt, bd_la0, bd_sa0, bd_rz00, rz_0, rz_1, b2i_0, Int32.add_zero, Int32.zero_add, nI_add, nI_pred2, pk_sub, pk_mul, pk_div, e_nz, nI_eq, nI_leI, nI_ltI, e_nm1, e_nm2, up_ap, gd_set_ne, gd_set_same, List.length_set, Nat.add_sub_cancel, Nat.reduceEqDiff, Nat.reduceAdd, Nat.reduceMul, Nat.reduceSub, Nat.reduceLT, Nat.reduceLeDiff, reduceIte, Nat.not_lt_zero, not_true_eq_false, not_false_eq_true, and_true, true_and, and_false, false_and, Nat_1_le_0]
            rw [bd_some (t_isPerson b0 b6 hpp (by omega))]
            simp (disch := first | omega | (simp only [up_ap, List.length_set, Nat.reduceEqDiff, reduceIte] <;> omega)) only [Int32.le_refl, bd_pr, pr_ap, jn_eq, lt_eq, bd_bd, bd_ite, ite_ap, bd_ld, bd_sv, bd_la, bd_sa, bd_ln, bd_rz0, bd_rz1, rz_n0, rz_n1, e_lit2, nI_z, nI_eq0, nI_0eq, nI_le0, nI_lt0, nI_0lt, nI_0le, e_001, e_n10, e_n1lt, bd_la0, bd_sa0, bd_rz00, rz_0, rz_1, b2i_0, Int32.add_zero, Int32.zero_add, nI_add, nI_pred2, pk_sub, pk_mul, pk_div, e_nz, nI_eq, nI_leI, nI_ltI, e_nm1, e_nm2, up_ap, gd_set_ne, gd_set_same, List.length_set, Nat.add_sub_cancel, Nat.reduceEqDiff, Nat.reduceAdd, Nat.reduceMul, Nat.reduceSub, Nat.reduceLT, Nat.reduceLeDiff, reduceIte, Nat.not_lt_zero, not_true_eq_false, not_false_eq_true, and_true, true_and, and_false, false_and, Nat_1_le_0, ew, q]
        · refine Or.inr ⟨?_, ?_, 1, c, p, rfl, rfl, fun _ => rfl, by decide, fun q => absurd q (by decide), fun _ => ⟨hcc, hpp⟩, fun q => absurd q (by decide)⟩
          · unfold gX9_canDo
            rw [swt_k (by omega) 1 rfl]
            simp only [List.getD_cons_succ, List.getD_cons_zero]
            rw [bd_some tc]
            simp (disch := first | omega | (simp only [up_ap, List.length_set, Nat.reduceEqDiff, reduceIte] <;> omega)) only [Int32.le_refl, bd_pr, pr_ap, jn_eq, lt_eq, bd_bd, bd_ite, ite_ap, bd_ld, bd_sv, bd_la, bd_sa, bd_ln, bd_rz0, bd_rz1, rz_n0, rz_n1, e_lit2, nI_z, nI_eq0, nI_0eq, nI_le0, nI_lt0, nI_0lt, nI_0le, e_001, e_n10, e_n1lt, bd_la0, bd_sa0, bd_rz00, rz_0, rz_1, b2i_0, Int32.add_zero, Int32.zero_add, nI_add, nI_pred2, pk_sub, pk_mul, pk_div, e_nz, nI_eq, nI_leI, nI_ltI, e_nm1, e_nm2, up_ap, gd_set_ne, gd_set_same, List.length_set, Nat.add_sub_cancel, Nat.reduceEqDiff, Nat.reduceAdd, Nat.reduceMul, Nat.reduceSub, Nat.reduceLT, Nat.reduceLeDiff, reduceIte, Nat.not_lt_zero, not_true_eq_false, not_false_eq_true, and_true, true_and, and_false, false_and, Nat_1_le_0]
            rw [bd_some (t_hasPerson l0 p4 hpp (by omega))]
            simp (disch := first | omega | (simp only [up_ap, List.length_set, Nat.reduceEqDiff, reduceIte] <;> omega)) only [Int32.le_refl, bd_pr, pr_ap, jn_eq, lt_eq, bd_bd, bd_ite, ite_ap, bd_ld, bd_sv, bd_la, bd_sa, bd_ln, bd_rz0, bd_rz1, rz_n0, rz_n1, e_lit2, nI_z, nI_eq0, nI_0eq, nI_le0, nI_lt0, nI_0lt, nI_0le, e_001, e_n10, e_n1lt, bd_la0, bd_sa0, bd_rz00, rz_0, rz_1, b2i_0, Int32.add_zero, Int32.zero_add, nI_add, nI_pred2, pk_sub, pk_mul, pk_div, e_nz, nI_eq, nI_leI, nI_ltI, e_nm1, e_nm2, up_ap, gd_set_ne, gd_set_same, List.length_set, Nat.add_sub_cancel, Nat.reduceEqDiff, Nat.reduceAdd, Nat.reduceMul, Nat.reduceSub, Nat.reduceLT, Nat.reduceLeDiff, reduceIte, Nat.not_lt_zero, not_true_eq_false, not_false_eq_true, and_true, true_and, and_false, false_and, Nat_1_le_0, e4, q]
          · unfold gX11_canAct
            simp (disch := first | omega | (simp only [up_ap, List.length_set, Nat.reduceEqDiff, reduceIte] <;> omega)) only [Int32.le_refl, bd_pr, pr_ap, jn_eq, lt_eq, bd_bd, bd_ite, ite_ap, bd_ld, bd_sv, bd_la, bd_sa, bd_ln, bd_rz0, bd_rz1, rz_n0, rz_n1, e_lit2, nI_z, nI_eq0, nI_0eq, nI_le0, nI_lt0, nI_0lt, nI_0le, e_001, e_n10, e_n1lt, bd_la0, bd_sa0, bd_rz00, rz_0, rz_1, b2i_0, Int32.add_zero, Int32.zero_add, nI_add, nI_pred2, pk_sub, pk_mul, pk_div, e_nz, nI_eq, nI_leI, nI_ltI, e_nm1, e_nm2, up_ap, gd_set_ne, gd_set_same, List.length_set, Nat.add_sub_cancel, Nat.reduceEqDiff, Nat.reduceAdd, Nat.reduceMul, Nat.reduceSub, Nat.reduceLT, Nat.reduceLeDiff, reduceIte, Nat.not_lt_zero, not_true_eq_false, not_false_eq_true, and_true, true_and, and_false, false_and, w0, Nat_1_le_0]
            rw [bd_some ti]
            simp (disch := first | omega | (simp only [up_ap, List.length_set, Nat.reduceEqDiff, reduceIte] <;> omega)) only [Int32.le_refl, bd_pr, pr_ap, jn_eq, lt_eq, bd_bd, bd_ite, ite_ap, bd_ld, bd_sv, bd_la, bd_sa, bd_ln, bd_rz0, bd_rz1, rz_n0, rz_n1, e_lit2, nI_z, nI_eq0, nI_0eq, nI_le0, nI_lt0, nI_0lt, nI_0le, e_001, e_n10, e_n1lt, bd_la0, bd_sa0, bd_rz00, rz_0, rz_1, b2i_0, Int32.add_zero, Int32.zero_add, nI_add, nI_pred2, pk_sub, pk_mul, pk_div, e_nz, nI_eq, nI_leI, nI_ltI, e_nm1, e_nm2, up_ap, gd_set_ne, gd_set_same, List.length_set, Nat.add_sub_cancel, Nat.reduceEqDiff, Nat.reduceAdd, Nat.reduceMul, Nat.reduceSub, Nat.reduceLT, Nat.reduceLeDiff, reduceIte, Nat.not_lt_zero, not_true_eq_false, not_false_eq_true, and_true, true_and, and_false, false_and, Nat_1_le_0]
            rw [bd_some (t_isPerson b0 b6 hpp (by omega))]
            simp (disch := first | omega | (simp only [up_ap, List.length_set, Nat.reduceEqDiff, reduceIte] <;> omega)) only [Int32.le_refl, bd_pr, pr_ap, jn_eq, lt_eq, bd_bd, bd_ite, ite_ap, bd_ld, bd_sv, bd_la, bd_sa, bd_ln, bd_rz0, bd_rz1, rz_n0, rz_n1, e_lit2, nI_z, nI_eq0, nI_0eq, nI_le0, nI_lt0, nI_0lt, nI_0le, e_001, e_n10, e_n1lt, bd_la0, bd_sa0, bd_rz00, rz_0, rz_1, b2i_0, Int32.add_zero, Int32.zero_add, nI_add, nI_pred2, pk_sub, pk_mul, pk_div, e_nz, nI_eq, nI_leI, nI_ltI, e_nm1, e_nm2, up_ap, gd_set_ne, gd_set_same, List.length_set, Nat.add_sub_cancel, Nat.reduceEqDiff, Nat.reduceAdd, Nat.reduceMul, Nat.reduceSub, Nat.reduceLT, Nat.reduceLeDiff, reduceIte, Nat.not_lt_zero, not_true_eq_false, not_false_eq_true, and_true, true_and, and_false, false_and, Nat_1_le_0, ew, q]
      · refine Or.inl ⟨?_, ?_⟩
        · unfold gX9_canDo
          rw [swt_k (by omega) 1 rfl]
          simp only [List.getD_cons_succ, List.getD_cons_zero]
          rw [bd_some tc]
          simp (disch := first | omega | (simp only [up_ap, List.length_set, Nat.reduceEqDiff, reduceIte] <;> omega)) only [Int32.le_refl, bd_pr, pr_ap, jn_eq, lt_eq, bd_bd, bd_ite, ite_ap, bd_ld, bd_sv, bd_la, bd_sa, bd_ln, bd_rz0, bd_rz1, rz_n0, rz_n1, e_lit2, nI_z, nI_eq0, nI_0eq, nI_le0, nI_lt0, nI_0lt, nI_0le, e_001, e_n10, e_n1lt, bd_la0, bd_sa0, bd_rz00, rz_0, rz_1, b2i_0, Int32.add_zero, Int32.zero_add, nI_add, nI_pred2, pk_sub, pk_mul, pk_div, e_nz, nI_eq, nI_leI, nI_ltI, e_nm1, e_nm2, up_ap, gd_set_ne, gd_set_same, List.length_set, Nat.add_sub_cancel, Nat.reduceEqDiff, Nat.reduceAdd, Nat.reduceMul, Nat.reduceSub, Nat.reduceLT, Nat.reduceLeDiff, reduceIte, Nat.not_lt_zero, not_true_eq_false, not_false_eq_true, and_true, true_and, and_false, false_and, Nat_1_le_0]
          rw [bd_some (f_hasPerson l0 p4 hp)]
          simp (disch := first | omega | (simp only [up_ap, List.length_set, Nat.reduceEqDiff, reduceIte] <;> omega)) only [Int32.le_refl, bd_pr, pr_ap, jn_eq, lt_eq, bd_bd, bd_ite, ite_ap, bd_ld, bd_sv, bd_la, bd_sa, bd_ln, bd_rz0, bd_rz1, rz_n0, rz_n1, e_lit2, nI_z, nI_eq0, nI_0eq, nI_le0, nI_lt0, nI_0lt, nI_0le, e_001, e_n10, e_n1lt, bd_la0, bd_sa0, bd_rz00, rz_0, rz_1, b2i_0, Int32.add_zero, Int32.zero_add, nI_add, nI_pred2, pk_sub, pk_mul, pk_div, e_nz, nI_eq, nI_leI, nI_ltI, e_nm1, e_nm2, up_ap, gd_set_ne, gd_set_same, List.length_set, Nat.add_sub_cancel, Nat.reduceEqDiff, Nat.reduceAdd, Nat.reduceMul, Nat.reduceSub, Nat.reduceLT, Nat.reduceLeDiff, reduceIte, Nat.not_lt_zero, not_true_eq_false, not_false_eq_true, and_true, true_and, and_false, false_and]
        · unfold gX11_canAct
          simp (disch := first | omega | (simp only [up_ap, List.length_set, Nat.reduceEqDiff, reduceIte] <;> omega)) only [Int32.le_refl, bd_pr, pr_ap, jn_eq, lt_eq, bd_bd, bd_ite, ite_ap, bd_ld, bd_sv, bd_la, bd_sa, bd_ln, bd_rz0, bd_rz1, rz_n0, rz_n1, e_lit2, nI_z, nI_eq0, nI_0eq, nI_le0, nI_lt0, nI_0lt, nI_0le, e_001, e_n10, e_n1lt, bd_la0, bd_sa0, bd_rz00, rz_0, rz_1, b2i_0, Int32.add_zero, Int32.zero_add, nI_add, nI_pred2, pk_sub, pk_mul, pk_div, e_nz, nI_eq, nI_leI, nI_ltI, e_nm1, e_nm2, up_ap, gd_set_ne, gd_set_same, List.length_set, Nat.add_sub_cancel, Nat.reduceEqDiff, Nat.reduceAdd, Nat.reduceMul, Nat.reduceSub, Nat.reduceLT, Nat.reduceLeDiff, reduceIte, Nat.not_lt_zero, not_true_eq_false, not_false_eq_true, and_true, true_and, and_false, false_and, w0, Nat_1_le_0]
          rw [bd_some ti]
          simp (disch := first | omega | (simp only [up_ap, List.length_set, Nat.reduceEqDiff, reduceIte] <;> omega)) only [Int32.le_refl, bd_pr, pr_ap, jn_eq, lt_eq, bd_bd, bd_ite, ite_ap, bd_ld, bd_sv, bd_la, bd_sa, bd_ln, bd_rz0, bd_rz1, rz_n0, rz_n1, e_lit2, nI_z, nI_eq0, nI_0eq, nI_le0, nI_lt0, nI_0lt, nI_0le, e_001, e_n10, e_n1lt, bd_la0, bd_sa0, bd_rz00, rz_0, rz_1, b2i_0, Int32.add_zero, Int32.zero_add, nI_add, nI_pred2, pk_sub, pk_mul, pk_div, e_nz, nI_eq, nI_leI, nI_ltI, e_nm1, e_nm2, up_ap, gd_set_ne, gd_set_same, List.length_set, Nat.add_sub_cancel, Nat.reduceEqDiff, Nat.reduceAdd, Nat.reduceMul, Nat.reduceSub, Nat.reduceLT, Nat.reduceLeDiff, reduceIte, Nat.not_lt_zero, not_true_eq_false, not_false_eq_true, and_true, true_and, and_false, false_and, Nat_1_le_0]
          rw [bd_some (f_isPerson b0 b6 hp)]
          simp (disch := first | omega | (simp only [up_ap, List.length_set, Nat.reduceEqDiff, reduceIte] <;> omega)) only [Int32.le_refl, bd_pr, pr_ap, jn_eq, lt_eq, bd_bd, bd_ite, ite_ap, bd_ld, bd_sv, bd_la, bd_sa, bd_ln, bd_rz0, bd_rz1, rz_n0, rz_n1, e_lit2, nI_z, nI_eq0, nI_0eq, nI_le0, nI_lt0, nI_0lt, nI_0le, e_001, e_n10, e_n1lt, bd_la0, bd_sa0, bd_rz00, rz_0, rz_1, b2i_0, Int32.add_zero, Int32.zero_add, nI_add, nI_pred2, pk_sub, pk_mul, pk_div, e_nz, nI_eq, nI_leI, nI_ltI, e_nm1, e_nm2, up_ap, gd_set_ne, gd_set_same, List.length_set, Nat.add_sub_cancel, Nat.reduceEqDiff, Nat.reduceAdd, Nat.reduceMul, Nat.reduceSub, Nat.reduceLT, Nat.reduceLeDiff, reduceIte, Nat.not_lt_zero, not_true_eq_false, not_false_eq_true, and_true, true_and, and_false, false_and]
    by_cases w2 : x1 = nI 2
    · subst w2
      refine Or.inr ⟨?_, ?_, 2, c, 0, rfl, rfl, fun q => absurd q (by decide), by decide, fun q => absurd q (by decide), fun q => absurd q (by decide), fun _ => hcc⟩
      · unfold gX9_canDo
        rw [swt_k (by omega) 2 rfl]
        simp only [List.getD_cons_succ, List.getD_cons_zero]
        rw [bd_some tc]; rfl
      · unfold gX11_canAct
        simp (disch := first | omega | (simp only [up_ap, List.length_set, Nat.reduceEqDiff, reduceIte] <;> omega)) only [Int32.le_refl, bd_pr, pr_ap, jn_eq, lt_eq, bd_bd, bd_ite, ite_ap, bd_ld, bd_sv, bd_la, bd_sa, bd_ln, bd_rz0, bd_rz1, rz_n0, rz_n1, e_lit2, nI_z, nI_eq0, nI_0eq, nI_le0, nI_lt0, nI_0lt, nI_0le, e_001, e_n10, e_n1lt, bd_la0, bd_sa0, bd_rz00, rz_0, rz_1, b2i_0, Int32.add_zero, Int32.zero_add, nI_add, nI_pred2, pk_sub, pk_mul, pk_div, e_nz, nI_eq, nI_leI, nI_ltI, e_nm1, e_nm2, up_ap, gd_set_ne, gd_set_same, List.length_set, Nat.add_sub_cancel, Nat.reduceEqDiff, Nat.reduceAdd, Nat.reduceMul, Nat.reduceSub, Nat.reduceLT, Nat.reduceLeDiff, reduceIte, Nat.not_lt_zero, not_true_eq_false, not_false_eq_true, and_true, true_and, and_false, false_and, w0, Nat_1_le_0]
        rw [bd_some ti]
        simp (disch := first | omega | (simp only [up_ap, List.length_set, Nat.reduceEqDiff, reduceIte] <;> omega)) only [Int32.le_refl, bd_pr, pr_ap, jn_eq, lt_eq, bd_bd, bd_ite, ite_ap, bd_ld, bd_sv, bd_la, bd_sa, bd_ln, bd_rz0, bd_rz1, rz_n0, rz_n1, e_lit2, nI_z, nI_eq0, nI_0eq, nI_le0, nI_lt0, nI_0lt, nI_0le, e_001, e_n10, e_n1lt, bd_la0, bd_sa0, bd_rz00, rz_0, rz_1, b2i_0, Int32.add_zero, Int32.zero_add, nI_add, nI_pred2, pk_sub, pk_mul, pk_div, e_nz, nI_eq, nI_leI, nI_ltI, e_nm1, e_nm2, up_ap, gd_set_ne, gd_set_same, List.length_set, Nat.add_sub_cancel, Nat.reduceEqDiff, Nat.reduceAdd, Nat.reduceMul, Nat.reduceSub, Nat.reduceLT, Nat.reduceLeDiff, reduceIte, Nat.not_lt_zero, not_true_eq_false, not_false_eq_true, and_true, true_and, and_false, false_and, Nat_1_le_0]
    by_cases w3 : x1 = nI 3
    · subst w3
      by_cases q : (ks c).length = 0
      · refine Or.inl ⟨?_, ?_⟩
        · unfold gX9_canDo
          rw [swt_k (by omega) 3 rfl]
          simp only [List.getD_cons_succ, List.getD_cons_zero]
          rw [bd_some tc]
          simp (disch := first | omega | (simp only [up_ap, List.length_set, Nat.reduceEqDiff, reduceIte] <;> omega)) only [Int32.le_refl, bd_pr, pr_ap, jn_eq, lt_eq, bd_bd, bd_ite, ite_ap, bd_ld, bd_sv, bd_la, bd_sa, bd_ln, bd_rz0, bd_rz1, rz_n0, rz_n1, e_lit2, nI_z, nI_eq0, nI_0eq, nI_le0, nI_lt0, nI_0lt, nI_0le, e_001, e_n10, e_n1lt, bd_la0, bd_sa0, bd_rz00, rz_0, rz_1, b2i_0, Int32.add_zero, Int32.zero_add, nI_add, nI_pred2, pk_sub, pk_mul, pk_div, e_nz, nI_eq, nI_leI, nI_ltI, e_nm1, e_nm2, up_ap, gd_set_ne, gd_set_same, List.length_set, Nat.add_sub_cancel, Nat.reduceEqDiff, Nat.reduceAdd, Nat.reduceMul, Nat.reduceSub, Nat.reduceLT, Nat.reduceLeDiff, reduceIte, Nat.not_lt_zero, not_true_eq_false, not_false_eq_true, and_true, true_and, and_false, false_and, Nat_1_le_0, a3, q]
        · unfold gX11_canAct
          simp (disch := first | omega | (simp only [up_ap, List.length_set, Nat.reduceEqDiff, reduceIte] <;> omega)) only [Int32.le_refl, bd_pr, pr_ap, jn_eq, lt_eq, bd_bd, bd_ite, ite_ap, bd_ld, bd_sv, bd_la, bd_sa, bd_ln, bd_rz0, bd_rz1, rz_n0, rz_n1, e_lit2, nI_z, nI_eq0, nI_0eq, nI_le0, nI_lt0, nI_0lt, nI_0le, e_001, e_n10, e_n1lt, bd_la0, bd_sa0, bd_rz00, rz_0, rz_1, b2i_0, Int32.add_zero, Int32.zero_add, nI_add, nI_pred2, pk_sub, pk_mul, pk_div, e_nz, nI_eq, nI_leI, nI_ltI, e_nm1, e_nm2, up_ap, gd_set_ne, gd_set_same, List.length_set, Nat.add_sub_cancel, Nat.reduceEqDiff, Nat.reduceAdd, Nat.reduceMul, Nat.reduceSub, Nat.reduceLT, Nat.reduceLeDiff, reduceIte, Nat.not_lt_zero, not_true_eq_false, not_false_eq_true, and_true, true_and, and_false, false_and, w0, Nat_1_le_0]
          rw [bd_some ti]
          simp (disch := first | omega | (simp only [up_ap, List.length_set, Nat.reduceEqDiff, reduceIte] <;> omega)) only [Int32.le_refl, bd_pr, pr_ap, jn_eq, lt_eq, bd_bd, bd_ite, ite_ap, bd_ld, bd_sv, bd_la, bd_sa, bd_ln, bd_rz0, bd_rz1, rz_n0, rz_n1, e_lit2, nI_z, nI_eq0, nI_0eq, nI_le0, nI_lt0, nI_0lt, nI_0le, e_001, e_n10, e_n1lt, bd_la0, bd_sa0, bd_rz00, rz_0, rz_1, b2i_0, Int32.add_zero, Int32.zero_add, nI_add, nI_pred2, pk_sub, pk_mul, pk_div, e_nz, nI_eq, nI_leI, nI_ltI, e_nm1, e_nm2, up_ap, gd_set_ne, gd_set_same, List.length_set, Nat.add_sub_cancel, Nat.reduceEqDiff, Nat.reduceAdd, Nat.reduceMul, Nat.reduceSub, Nat.reduceLT, Nat.reduceLeDiff, reduceIte, Nat.not_lt_zero, not_true_eq_false, not_false_eq_true, and_true, true_and, and_false, false_and, Nat_1_le_0]
          rw [bd_some hkn]
          simp (disch := first | omega | (simp only [up_ap, List.length_set, Nat.reduceEqDiff, reduceIte] <;> omega)) only [Int32.le_refl, bd_pr, pr_ap, jn_eq, lt_eq, bd_bd, bd_ite, ite_ap, bd_ld, bd_sv, bd_la, bd_sa, bd_ln, bd_rz0, bd_rz1, rz_n0, rz_n1, e_lit2, nI_z, nI_eq0, nI_0eq, nI_le0, nI_lt0, nI_0lt, nI_0le, e_001, e_n10, e_n1lt, bd_la0, bd_sa0, bd_rz00, rz_0, rz_1, b2i_0, Int32.add_zero, Int32.zero_add, nI_add, nI_pred2, pk_sub, pk_mul, pk_div, e_nz, nI_eq, nI_leI, nI_ltI, e_nm1, e_nm2, up_ap, gd_set_ne, gd_set_same, List.length_set, Nat.add_sub_cancel, Nat.reduceEqDiff, Nat.reduceAdd, Nat.reduceMul, Nat.reduceSub, Nat.reduceLT, Nat.reduceLeDiff, reduceIte, Nat.not_lt_zero, not_true_eq_false, not_false_eq_true, and_true, true_and, and_false, false_and, q]
      · refine Or.inr ⟨?_, ?_, 3, c, 0, rfl, rfl, fun q => absurd q (by decide), by decide, fun q => absurd q (by decide), fun q => absurd q (by decide), fun _ => hcc⟩
        · unfold gX9_canDo
          rw [swt_k (by omega) 3 rfl]
          simp only [List.getD_cons_succ, List.getD_cons_zero]
          rw [bd_some tc]
          simp (disch := first | omega | (simp only [up_ap, List.length_set, Nat.reduceEqDiff, reduceIte] <;> omega)) only [Int32.le_refl, bd_pr, pr_ap, jn_eq, lt_eq, bd_bd, bd_ite, ite_ap, bd_ld, bd_sv, bd_la, bd_sa, bd_ln, bd_rz0, bd_rz1, rz_n0, rz_n1, e_lit2, nI_z, nI_eq0, nI_0eq, nI_le0, nI_lt0, nI_0lt, nI_0le, e_001, e_n10, e_n1lt, bd_la0, bd_sa0, bd_rz00, rz_0, rz_1, b2i_0, Int32.add_zero, Int32.zero_add, nI_add, nI_pred2, pk_sub, pk_mul, pk_div, e_nz, nI_eq, nI_leI, nI_ltI, e_nm1, e_nm2, up_ap, gd_set_ne, gd_set_same, List.length_set, Nat.add_sub_cancel, Nat.reduceEqDiff, Nat.reduceAdd, Nat.reduceMul, Nat.reduceSub, Nat.reduceLT, Nat.reduceLeDiff, reduceIte, Nat.not_lt_zero, not_true_eq_false, not_false_eq_true, and_true, true_and, and_false, false_and, Nat_1_le_0, a3, q]
        · unfold gX11_canAct
          simp (disch := first | omega | (simp only [up_ap, List.length_set, Nat.reduceEqDiff, reduceIte] <;> omega)) only [Int32.le_refl, bd_pr, pr_ap, jn_eq, lt_eq, bd_bd, bd_ite, ite_ap, bd_ld, bd_sv, bd_la, bd_sa, bd_ln, bd_rz0, bd_rz1, rz_n0, rz_n1, e_lit2, nI_z, nI_eq0, nI_0eq, nI_le0, nI_lt0, nI_0lt, nI_0le, e_001, e_n10, e_n1lt, bd_la0, bd_sa0, bd_rz00, rz_0, rz_1, b2i_0, Int32.add_zero, Int32.zero_add, nI_add, nI_pred2, pk_sub, pk_mul, pk_div, e_nz, nI_eq, nI_leI, nI_ltI, e_nm1, e_nm2, up_ap, gd_set_ne, gd_set_same, List.length_set, Nat.add_sub_cancel, Nat.reduceEqDiff, Nat.reduceAdd, Nat.reduceMul, Nat.reduceSub, Nat.reduceLT, Nat.reduceLeDiff, reduceIte, Nat.not_lt_zero, not_true_eq_false, not_false_eq_true, and_true, true_and, and_false, false_and, w0, Nat_1_le_0]
          rw [bd_some ti]
          simp (disch := first | omega | (simp only [up_ap, List.length_set, Nat.reduceEqDiff, reduceIte] <;> omega)) only [Int32.le_refl, bd_pr, pr_ap, jn_eq, lt_eq, bd_bd, bd_ite, ite_ap, bd_ld, bd_sv, bd_la, bd_sa, bd_ln, bd_rz0, bd_rz1, rz_n0, rz_n1, e_lit2, nI_z, nI_eq0, nI_0eq, nI_le0, nI_lt0, nI_0lt, nI_0le, e_001, e_n10, e_n1lt, bd_la0, bd_sa0, bd_rz00, rz_0, rz_1, b2i_0, Int32.add_zero, Int32.zero_add, nI_add, nI_pred2, pk_sub, pk_mul, pk_div, e_nz, nI_eq, nI_leI, nI_ltI, e_nm1, e_nm2, up_ap, gd_set_ne, gd_set_same, List.length_set, Nat.add_sub_cancel, Nat.reduceEqDiff, Nat.reduceAdd, Nat.reduceMul, Nat.reduceSub, Nat.reduceLT, Nat.reduceLeDiff, reduceIte, Nat.not_lt_zero, not_true_eq_false, not_false_eq_true, and_true, true_and, and_false, false_and, Nat_1_le_0]
          rw [bd_some hkn]
          simp (disch := first | omega | (simp only [up_ap, List.length_set, Nat.reduceEqDiff, reduceIte] <;> omega)) only [Int32.le_refl, bd_pr, pr_ap, jn_eq, lt_eq, bd_bd, bd_ite, ite_ap, bd_ld, bd_sv, bd_la, bd_sa, bd_ln, bd_rz0, bd_rz1, rz_n0, rz_n1, e_lit2, nI_z, nI_eq0, nI_0eq, nI_le0, nI_lt0, nI_0lt, nI_0le, e_001, e_n10, e_n1lt, bd_la0, bd_sa0, bd_rz00, rz_0, rz_1, b2i_0, Int32.add_zero, Int32.zero_add, nI_add, nI_pred2, pk_sub, pk_mul, pk_div, e_nz, nI_eq, nI_leI, nI_ltI, e_nm1, e_nm2, up_ap, gd_set_ne, gd_set_same, List.length_set, Nat.add_sub_cancel, Nat.reduceEqDiff, Nat.reduceAdd, Nat.reduceMul, Nat.reduceSub, Nat.reduceLT, Nat.reduceLeDiff, reduceIte, Nat.not_lt_zero, not_true_eq_false, not_false_eq_true, and_true, true_and, and_false, false_and, q]
    · refine Or.inl ⟨?_, ?_⟩
      · rw [canDo_no w0 w1 w2 w3]; rfl
      · unfold gX11_canAct
        simp (disch := first | omega | (simp only [up_ap, List.length_set, Nat.reduceEqDiff, reduceIte] <;> omega)) only [Int32.le_refl, bd_pr, pr_ap, jn_eq, lt_eq, bd_bd, bd_ite, ite_ap, bd_ld, bd_sv, bd_la, bd_sa, bd_ln, bd_rz0, bd_rz1, rz_n0, rz_n1, e_lit2, nI_z, nI_eq0, nI_0eq, nI_le0, nI_lt0, nI_0lt, nI_0le, e_001, e_n10, e_n1lt, bd_la0, bd_sa0, bd_rz00, rz_0, rz_1, b2i_0, Int32.add_zero, Int32.zero_add, nI_add, nI_pred2, pk_sub, pk_mul, pk_div, e_nz, nI_eq, nI_leI, nI_ltI, e_nm1, e_nm2, up_ap, gd_set_ne, gd_set_same, List.length_set, Nat.add_sub_cancel, Nat.reduceEqDiff, Nat.reduceAdd, Nat.reduceMul, Nat.reduceSub, Nat.reduceLT, Nat.reduceLeDiff, reduceIte, Nat.not_lt_zero, not_true_eq_false, not_false_eq_true, and_true, true_and, and_false, false_and, w0]
        rw [bd_some ti]
        simp (disch := first | omega | (simp only [up_ap, List.length_set, Nat.reduceEqDiff, reduceIte] <;> omega)) only [Int32.le_refl, bd_pr, pr_ap, jn_eq, lt_eq, bd_bd, bd_ite, ite_ap, bd_ld, bd_sv, bd_la, bd_sa, bd_ln, bd_rz0, bd_rz1, rz_n0, rz_n1, e_lit2, nI_z, nI_eq0, nI_0eq, nI_le0, nI_lt0, nI_0lt, nI_0le, e_001, e_n10, e_n1lt, bd_la0, bd_sa0, bd_rz00, rz_0, rz_1, b2i_0, Int32.add_zero, Int32.zero_add, nI_add, nI_pred2, pk_sub, pk_mul, pk_div, e_nz, nI_eq, nI_leI, nI_ltI, e_nm1, e_nm2, up_ap, gd_set_ne, gd_set_same, List.length_set, Nat.add_sub_cancel, Nat.reduceEqDiff, Nat.reduceAdd, Nat.reduceMul, Nat.reduceSub, Nat.reduceLT, Nat.reduceLeDiff, reduceIte, Nat.not_lt_zero, not_true_eq_false, not_false_eq_true, and_true, true_and, and_false, false_and, w1, w2, w3, Nat_1_le_0]
  · have fc := f_hasCloth l0 p5 ha
    have fi := f_isCloth b0 b7 ha
    refine Or.inl ⟨?_, ?_⟩
    · by_cases w1 : x1 = nI 1
      · subst w1
        unfold gX9_canDo
        rw [swt_k (by omega) 1 rfl]
        simp only [List.getD_cons_succ, List.getD_cons_zero]
        rw [bd_some fc]
        simp (disch := first | omega | (simp only [up_ap, List.length_set, Nat.reduceEqDiff, reduceIte] <;> omega)) only [Int32.le_refl, bd_pr, pr_ap, jn_eq, lt_eq, bd_bd, bd_ite, ite_ap, bd_ld, bd_sv, bd_la, bd_sa, bd_ln, bd_rz0, bd_rz1, rz_n0, rz_n1, e_lit2, nI_z, nI_eq0, nI_0eq, nI_le0, nI_lt0, nI_0lt, nI_0le, e_001, e_n10, e_n1lt, bd_la0, bd_sa0, bd_rz00, rz_0, rz_1, b2i_0, Int32.add_zero, Int32.zero_add, nI_add, nI_pred2, pk_sub, pk_mul, pk_div, e_nz, nI_eq, nI_leI, nI_ltI, e_nm1, e_nm2, up_ap, gd_set_ne, gd_set_same, List.length_set, Nat.add_sub_cancel, Nat.reduceEqDiff, Nat.reduceAdd, Nat.reduceMul, Nat.reduceSub, Nat.reduceLT, Nat.reduceLeDiff, reduceIte, Nat.not_lt_zero, not_true_eq_false, not_false_eq_true, and_true, true_and, and_false, false_and]
      by_cases w2 : x1 = nI 2
      · subst w2
        unfold gX9_canDo
        rw [swt_k (by omega) 2 rfl]
        simp only [List.getD_cons_succ, List.getD_cons_zero]
        rw [bd_some fc]; rfl
      by_cases w3 : x1 = nI 3
      · subst w3
        unfold gX9_canDo
        rw [swt_k (by omega) 3 rfl]
        simp only [List.getD_cons_succ, List.getD_cons_zero]
        rw [bd_some fc]
        simp (disch := first | omega | (simp only [up_ap, List.length_set, Nat.reduceEqDiff, reduceIte] <;> omega)) only [Int32.le_refl, bd_pr, pr_ap, jn_eq, lt_eq, bd_bd, bd_ite, ite_ap, bd_ld, bd_sv, bd_la, bd_sa, bd_ln, bd_rz0, bd_rz1, rz_n0, rz_n1, e_lit2, nI_z, nI_eq0, nI_0eq, nI_le0, nI_lt0, nI_0lt, nI_0le, e_001, e_n10, e_n1lt, bd_la0, bd_sa0, bd_rz00, rz_0, rz_1, b2i_0, Int32.add_zero, Int32.zero_add, nI_add, nI_pred2, pk_sub, pk_mul, pk_div, e_nz, nI_eq, nI_leI, nI_ltI, e_nm1, e_nm2, up_ap, gd_set_ne, gd_set_same, List.length_set, Nat.add_sub_cancel, Nat.reduceEqDiff, Nat.reduceAdd, Nat.reduceMul, Nat.reduceSub, Nat.reduceLT, Nat.reduceLeDiff, reduceIte, Nat.not_lt_zero, not_true_eq_false, not_false_eq_true, and_true, true_and, and_false, false_and]
      · rw [canDo_no w0 w1 w2 w3]; rfl
    · unfold gX11_canAct
      simp (disch := first | omega | (simp only [up_ap, List.length_set, Nat.reduceEqDiff, reduceIte] <;> omega)) only [Int32.le_refl, bd_pr, pr_ap, jn_eq, lt_eq, bd_bd, bd_ite, ite_ap, bd_ld, bd_sv, bd_la, bd_sa, bd_ln, bd_rz0, bd_rz1, rz_n0, rz_n1, e_lit2, nI_z, nI_eq0, nI_0eq, nI_le0, nI_lt0, nI_0lt, nI_0le, e_001, e_n10, e_n1lt, bd_la0, bd_sa0, bd_rz00, rz_0, rz_1, b2i_0, Int32.add_zero, Int32.zero_add, nI_add, nI_pred2, pk_sub, pk_mul, pk_div, e_nz, nI_eq, nI_leI, nI_ltI, e_nm1, e_nm2, up_ap, gd_set_ne, gd_set_same, List.length_set, Nat.add_sub_cancel, Nat.reduceEqDiff, Nat.reduceAdd, Nat.reduceMul, Nat.reduceSub, Nat.reduceLT, Nat.reduceLeDiff, reduceIte, Nat.not_lt_zero, not_true_eq_false, not_false_eq_true, and_true, true_and, and_false, false_and, w0]
      rw [bd_some fi]
      simp (disch := first | omega | (simp only [up_ap, List.length_set, Nat.reduceEqDiff, reduceIte] <;> omega)) only [Int32.le_refl, bd_pr, pr_ap, jn_eq, lt_eq, bd_bd, bd_ite, ite_ap, bd_ld, bd_sv, bd_la, bd_sa, bd_ln, bd_rz0, bd_rz1, rz_n0, rz_n1, e_lit2, nI_z, nI_eq0, nI_0eq, nI_le0, nI_lt0, nI_0lt, nI_0le, e_001, e_n10, e_n1lt, bd_la0, bd_sa0, bd_rz00, rz_0, rz_1, b2i_0, Int32.add_zero, Int32.zero_add, nI_add, nI_pred2, pk_sub, pk_mul, pk_div, e_nz, nI_eq, nI_leI, nI_ltI, e_nm1, e_nm2, up_ap, gd_set_ne, gd_set_same, List.length_set, Nat.add_sub_cancel, Nat.reduceEqDiff, Nat.reduceAdd, Nat.reduceMul, Nat.reduceSub, Nat.reduceLT, Nat.reduceLeDiff, reduceIte, Nat.not_lt_zero, not_true_eq_false, not_false_eq_true, and_true, true_and, and_false, false_and]
set_option maxHeartbeats 400000 in
theorem op_act {A B : Bk} (h : R A B) (x1 x2 x3 : Int32) : ∃ r A' B', gX10_act x1 x2 x3 A = some (r, A') ∧ gX11_act x1 x2 x3 B = some (r, B') ∧ R A' B' := by
  have hb0 := R_B0 h
  have hRt := R_told h
  obtain ⟨B0, hB0⟩ : ∃ z, z = up B 0 ((B 0).set 0 0) := ⟨_, rfl⟩
  rw [← hB0] at hRt
  have z0 := R_B0 hRt
  obtain ⟨⟨np, nc, nt, ks, wh, hH, hU⟩, -⟩ := id hRt
  obtain ⟨hW, hw0⟩ := R_W hH
  rcases can_h hW z0 hH.1.2.2.2.1.2.2.1 hH.1.2.2.2.1.2.2.2.1 hH.1.2.2.2.1.2.2.2.2 x1 x2 x3 with ⟨g1, g2⟩ | ⟨g1, g2, w, a, b, e1, e2, e3, hw4, v0, v1, v2⟩
  · refine ⟨0, A, B0, ?_, ?_, hRt⟩
    · unfold gX10_act
      rw [bd_lf0 _ g1]
      simp (disch := first | omega | (simp only [up_ap, List.length_set, Nat.reduceEqDiff, reduceIte] <;> omega)) only [Int32.le_refl, bd_pr, pr_ap, jn_eq, lt_eq, bd_bd, bd_ite, ite_ap, bd_ld, bd_sv, bd_la, bd_sa, bd_ln, bd_rz0, bd_rz1, rz_n0, rz_n1, e_lit2, nI_z, nI_eq0, nI_0eq, nI_le0, nI_lt0, nI_0lt, nI_0le, e_001, e_n10, e_n1lt, bd_la0, bd_sa0, bd_rz00, rz_0, rz_1, b2i_0, Int32.add_zero, Int32.zero_add, nI_add, nI_pred2, pk_sub, pk_mul, pk_div, e_nz, nI_eq, nI_leI, nI_ltI, e_nm1, e_nm2, up_ap, gd_set_ne, gd_set_same, List.length_set, Nat.add_sub_cancel, Nat.reduceEqDiff, Nat.reduceAdd, Nat.reduceMul, Nat.reduceSub, Nat.reduceLT, Nat.reduceLeDiff, reduceIte, Nat.not_lt_zero, not_true_eq_false, not_false_eq_true, and_true, true_and, and_false, false_and]
    · unfold gX11_act
      rw [told0 _ hb0, ← hB0, bd_some g2]
      simp (disch := first | omega | (simp only [up_ap, List.length_set, Nat.reduceEqDiff, reduceIte] <;> omega)) only [Int32.le_refl, bd_pr, pr_ap, jn_eq, lt_eq, bd_bd, bd_ite, ite_ap, bd_ld, bd_sv, bd_la, bd_sa, bd_ln, bd_rz0, bd_rz1, rz_n0, rz_n1, e_lit2, nI_z, nI_eq0, nI_0eq, nI_le0, nI_lt0, nI_0lt, nI_0le, e_001, e_n10, e_n1lt, bd_la0, bd_sa0, bd_rz00, rz_0, rz_1, b2i_0, Int32.add_zero, Int32.zero_add, nI_add, nI_pred2, pk_sub, pk_mul, pk_div, e_nz, nI_eq, nI_leI, nI_ltI, e_nm1, e_nm2, up_ap, gd_set_ne, gd_set_same, List.length_set, Nat.add_sub_cancel, Nat.reduceEqDiff, Nat.reduceAdd, Nat.reduceMul, Nat.reduceSub, Nat.reduceLT, Nat.reduceLeDiff, reduceIte, Nat.not_lt_zero, not_true_eq_false, not_false_eq_true, and_true, true_and, and_false, false_and]
  · obtain ⟨A1, B1, c1, c2, c3, c4, c5, c6⟩ := keep_h hRt hH hU
    subst e1; subst e2
    obtain ⟨H', B', d1, d2, d3⟩ := does_h c4.1 e3 hw4 v0 v1 v2
    obtain ⟨ks', wh', r1, -, -⟩ := R_DR c3 c4 c5 d3
    refine ⟨nI 1, _, B', ?_, ?_, r1⟩
    · unfold gX10_act
      rw [bd_lf0 _ g1]
      simp (disch := first | omega | (simp only [up_ap, List.length_set, Nat.reduceEqDiff, reduceIte] <;> omega)) only [Int32.le_refl, bd_pr, pr_ap, jn_eq, lt_eq, bd_bd, bd_ite, ite_ap, bd_ld, bd_sv, bd_la, bd_sa, bd_ln, bd_rz0, bd_rz1, rz_n0, rz_n1, e_lit2, nI_z, nI_eq0, nI_0eq, nI_le0, nI_lt0, nI_0lt, nI_0le, e_001, e_n10, e_n1lt, bd_la0, bd_sa0, bd_rz00, rz_0, rz_1, b2i_0, Int32.add_zero, Int32.zero_add, nI_add, nI_pred2, pk_sub, pk_mul, pk_div, e_nz, nI_eq, nI_leI, nI_ltI, e_nm1, e_nm2, up_ap, gd_set_ne, gd_set_same, List.length_set, Nat.add_sub_cancel, Nat.reduceEqDiff, Nat.reduceAdd, Nat.reduceMul, Nat.reduceSub, Nat.reduceLT, Nat.reduceLeDiff, reduceIte, Nat.not_lt_zero, not_true_eq_false, not_false_eq_true, and_true, true_and, and_false, false_and, Nat_1_le_0]
      rw [bd_some c1, bd_lf _ d1]; rfl
    · unfold gX11_act
      rw [told0 _ hb0, ← hB0, bd_some g2]
      simp (disch := first | omega | (simp only [up_ap, List.length_set, Nat.reduceEqDiff, reduceIte] <;> omega)) only [Int32.le_refl, bd_pr, pr_ap, jn_eq, lt_eq, bd_bd, bd_ite, ite_ap, bd_ld, bd_sv, bd_la, bd_sa, bd_ln, bd_rz0, bd_rz1, rz_n0, rz_n1, e_lit2, nI_z, nI_eq0, nI_0eq, nI_le0, nI_lt0, nI_0lt, nI_0le, e_001, e_n10, e_n1lt, bd_la0, bd_sa0, bd_rz00, rz_0, rz_1, b2i_0, Int32.add_zero, Int32.zero_add, nI_add, nI_pred2, pk_sub, pk_mul, pk_div, e_nz, nI_eq, nI_leI, nI_ltI, e_nm1, e_nm2, up_ap, gd_set_ne, gd_set_same, List.length_set, Nat.add_sub_cancel, Nat.reduceEqDiff, Nat.reduceAdd, Nat.reduceMul, Nat.reduceSub, Nat.reduceLT, Nat.reduceLeDiff, reduceIte, Nat.not_lt_zero, not_true_eq_false, not_false_eq_true, and_true, true_and, and_false, false_and, Nat_1_le_0]
      rw [bd_some c2, bd_some d2]; rfl
def dc1B (x1 : Int32) : (Int32 × Int32 → MM Int32) → Int32 × Int32 → MM Int32 := fun (self5 : Int32 × Int32 → MM Int32) (s6 : Int32 × Int32) =>
  (if x1 ≤ s6.2 then
  pr s6.1
  else
  bd gX10_keepForUndo fun r7 =>
  bd (lf rh24 49 gX1_passDay) fun r8 =>
  lt (s6.1 + r8) fun y9 =>
  lt (s6.2 + 1) fun y10 =>
  self5 (y9, y10))
def dc1 (x1 : Int32) : MM Int32 := loopC 100000 (dc1B x1) (0, 0)
theorem dc_eq (x1 : Int32) : gX10_days x1 =
  bd (lf rh0 0 (gX10_isWithin x1 1 60)) fun r1 =>
  jn (fun (a3 : Unit) =>
  pr ((-1))) (fun j2 =>
  (if r1 = 0 then
  j2 ()
  else
  bd (ld 2 2) fun v4 =>
  (if (v4 + x1) ≤ 9999 then
  (dc1 x1)
  else
  j2 ()))) := rfl
def dm1B (x1 : Int32) : (Int32 × Int32 → MM Int32) → Int32 × Int32 → MM Int32 := fun (self5 : Int32 × Int32 → MM Int32) (s6 : Int32 × Int32) =>
  (if x1 ≤ s6.2 then
  pr s6.1
  else
  bd gX11_keepsAhead fun r7 =>
  bd gX11_goesBy fun r8 =>
  lt (s6.1 + r8) fun y9 =>
  lt (s6.2 + 1) fun y10 =>
  self5 (y9, y10))
def dm1 (x1 : Int32) : MM Int32 := loopC 100000 (dm1B x1) (0, 0)
theorem dm_eq (x1 : Int32) : gX11_days x1 =
  bd (sv 0 0 0) fun _ =>
  bd (gX11_isIn x1 1 60) fun r1 =>
  jn (fun (a3 : Unit) =>
  pr ((-1))) (fun j2 =>
  (if r1 = 0 then
  j2 ()
  else
  bd (la 1 0) fun v4 =>
  (if (v4 + x1) ≤ 9999 then
  (dm1 x1)
  else
  j2 ()))) := rfl
set_option maxHeartbeats 400000 in
theorem op_days {A B : Bk} (h : R A B) (x : Int32) : ∃ r A' B', gX10_days x A = some (r, A') ∧ gX11_days x B = some (r, B') ∧ R A' B' := by
  have hb0 := R_B0 h
  have hRt := R_told h
  obtain ⟨B0, hB0⟩ : ∃ z, z = up B 0 ((B 0).set 0 0) := ⟨_, rfl⟩
  rw [← hB0] at hRt
  obtain ⟨⟨np, nc, nt, ks, wh, hH, hU⟩, -⟩ := id hRt
  obtain ⟨hW, hw0⟩ := R_W hH
  have p2 : (A 2).getD 2 0 = (B0 1).getD 0 0 := hW.2.2.1.2.1
  have l0 : (A 2).length = 19 := hW.1.1
  have hn1 : (B0 1).length = 183 := hW.2.1.1
  by_cases hx : nI 1 ≤ x ∧ x ≤ nI 60
  · obtain ⟨n, hn1', hn60, rfl⟩ := nI_rng (lo := 1) (hi := 60) (by decide) (by decide) hx.1 hx.2
    by_cases hd : (B0 1).getD 0 0 + nI n ≤ nI 9999
    · have key : J2 (dc1 (nI n) A) (dm1 (nI n) B0) (fun r A' r' B' => r = r' ∧ R A' B') := by
        unfold dc1 dm1
        refine loopJ n (fun j s A t B' => s = t ∧ s.2 = nI j ∧ R A B') _ (fun j s A t B' hj hI => ?_) (fun s A t B' hI f1 f2 => ?_) (by omega) (by omega) ⟨rfl, rfl, hRt⟩
        · obtain ⟨rfl, hs2, hI⟩ := hI
          obtain ⟨cn, i⟩ := s
          have hs2 : i = nI j := hs2
          subst hs2
          obtain ⟨⟨np, nc, nt, ks, wh, hH, hU⟩, -⟩ := id hI
          obtain ⟨A1, B1, c1, c2, c3, c4, c5, c6⟩ := keep_h hI hH hU
          obtain ⟨r, H', B2, d1, d2, d3⟩ := day_h c4.1
          obtain ⟨ks', wh', r1, -, -⟩ := R_DR c3 c4 c5 d3
          have n1 : ¬ n ≤ j := by omega
          refine ⟨(cn + r, nI (j + 1)), _, (cn + r, nI (j + 1)), B2, fun f => ?_, fun f => ?_, rfl, rfl, r1⟩
          · unfold dc1B
            simp (disch := first | omega | (simp only [up_ap, List.length_set, Nat.reduceEqDiff, reduceIte] <;> omega)) only [Int32.le_refl, bd_pr, pr_ap, jn_eq, lt_eq, bd_bd, bd_ite, ite_ap, bd_ld, bd_sv, bd_la, bd_sa, bd_ln, bd_rz0, bd_rz1, rz_n0, rz_n1, e_lit2, nI_z, nI_eq0, nI_0eq, nI_le0, nI_lt0, nI_0lt, nI_0le, e_001, e_n10, e_n1lt, bd_la0, bd_sa0, bd_rz00, rz_0, rz_1, b2i_0, Int32.add_zero, Int32.zero_add, nI_add, nI_pred2, pk_sub, pk_mul, pk_div, e_nz, nI_eq, nI_leI, nI_ltI, e_nm1, e_nm2, up_ap, gd_set_ne, gd_set_same, List.length_set, Nat.add_sub_cancel, Nat.reduceEqDiff, Nat.reduceAdd, Nat.reduceMul, Nat.reduceSub, Nat.reduceLT, Nat.reduceLeDiff, reduceIte, Nat.not_lt_zero, not_true_eq_false, not_false_eq_true, and_true, true_and, and_false, false_and, n1]
            rw [bd_some c1, bd_lf _ d1]
          · unfold dm1B
            simp (disch := first | omega | (simp only [up_ap, List.length_set, Nat.reduceEqDiff, reduceIte] <;> omega)) only [Int32.le_refl, bd_pr, pr_ap, jn_eq, lt_eq, bd_bd, bd_ite, ite_ap, bd_ld, bd_sv, bd_la, bd_sa, bd_ln, bd_rz0, bd_rz1, rz_n0, rz_n1, e_lit2, nI_z, nI_eq0, nI_0eq, nI_le0, nI_lt0, nI_0lt, nI_0le, e_001, e_n10, e_n1lt, bd_la0, bd_sa0, bd_rz00, rz_0, rz_1, b2i_0, Int32.add_zero, Int32.zero_add, nI_add, nI_pred2, pk_sub, pk_mul, pk_div, e_nz, nI_eq, nI_leI, nI_ltI, e_nm1, e_nm2, up_ap, gd_set_ne, gd_set_same, List.length_set, Nat.add_sub_cancel, Nat.reduceEqDiff, Nat.reduceAdd, Nat.reduceMul, Nat.reduceSub, Nat.reduceLT, Nat.reduceLeDiff, reduceIte, Nat.not_lt_zero, not_true_eq_false, not_false_eq_true, and_true, true_and, and_false, false_and, n1]
            rw [bd_some c2, bd_some d2]
        · obtain ⟨rfl, hs2, hI⟩ := hI
          obtain ⟨cn, i⟩ := s
          have hs2 : i = nI n := hs2
          subst hs2
          refine ⟨cn, A, cn, B', ?_, ?_, rfl, hI⟩
          · unfold dc1B
            simp (disch := first | omega | (simp only [up_ap, List.length_set, Nat.reduceEqDiff, reduceIte] <;> omega)) only [Int32.le_refl, bd_pr, pr_ap, jn_eq, lt_eq, bd_bd, bd_ite, ite_ap, bd_ld, bd_sv, bd_la, bd_sa, bd_ln, bd_rz0, bd_rz1, rz_n0, rz_n1, e_lit2, nI_z, nI_eq0, nI_0eq, nI_le0, nI_lt0, nI_0lt, nI_0le, e_001, e_n10, e_n1lt, bd_la0, bd_sa0, bd_rz00, rz_0, rz_1, b2i_0, Int32.add_zero, Int32.zero_add, nI_add, nI_pred2, pk_sub, pk_mul, pk_div, e_nz, nI_eq, nI_leI, nI_ltI, e_nm1, e_nm2, up_ap, gd_set_ne, gd_set_same, List.length_set, Nat.add_sub_cancel, Nat.reduceEqDiff, Nat.reduceAdd, Nat.reduceMul, Nat.reduceSub, Nat.reduceLT, Nat.reduceLeDiff, reduceIte, Nat.not_lt_zero, not_true_eq_false, not_false_eq_true, and_true, true_and, and_false, false_and, Nat.le_refl]
          · unfold dm1B
            simp (disch := first | omega | (simp only [up_ap, List.length_set, Nat.reduceEqDiff, reduceIte] <;> omega)) only [Int32.le_refl, bd_pr, pr_ap, jn_eq, lt_eq, bd_bd, bd_ite, ite_ap, bd_ld, bd_sv, bd_la, bd_sa, bd_ln, bd_rz0, bd_rz1, rz_n0, rz_n1, e_lit2, nI_z, nI_eq0, nI_0eq, nI_le0, nI_lt0, nI_0lt, nI_0le, e_001, e_n10, e_n1lt, bd_la0, bd_sa0, bd_rz00, rz_0, rz_1, b2i_0, Int32.add_zero, Int32.zero_add, nI_add, nI_pred2, pk_sub, pk_mul, pk_div, e_nz, nI_eq, nI_leI, nI_ltI, e_nm1, e_nm2, up_ap, gd_set_ne, gd_set_same, List.length_set, Nat.add_sub_cancel, Nat.reduceEqDiff, Nat.reduceAdd, Nat.reduceMul, Nat.reduceSub, Nat.reduceLT, Nat.reduceLeDiff, reduceIte, Nat.not_lt_zero, not_true_eq_false, not_false_eq_true, and_true, true_and, and_false, false_and, Nat.le_refl]
      obtain ⟨r, A', r', B', g1, g2, rfl, g3⟩ := key
      refine ⟨r, A', B', ?_, ?_, g3⟩
      · rw [dc_eq, bd_iw, b2i_t (show (1 : Int32) ≤ nI n ∧ nI n ≤ 60 from hx)]
        simp (disch := first | omega | (simp only [up_ap, List.length_set, Nat.reduceEqDiff, reduceIte] <;> omega)) only [Int32.le_refl, bd_pr, pr_ap, jn_eq, lt_eq, bd_bd, bd_ite, ite_ap, bd_ld, bd_sv, bd_la, bd_sa, bd_ln, bd_rz0, bd_rz1, rz_n0, rz_n1, e_lit2, nI_z, nI_eq0, nI_0eq, nI_le0, nI_lt0, nI_0lt, nI_0le, e_001, e_n10, e_n1lt, bd_la0, bd_sa0, bd_rz00, rz_0, rz_1, b2i_0, Int32.add_zero, Int32.zero_add, nI_add, nI_pred2, pk_sub, pk_mul, pk_div, e_nz, nI_eq, nI_leI, nI_ltI, e_nm1, e_nm2, up_ap, gd_set_ne, gd_set_same, List.length_set, Nat.add_sub_cancel, Nat.reduceEqDiff, Nat.reduceAdd, Nat.reduceMul, Nat.reduceSub, Nat.reduceLT, Nat.reduceLeDiff, reduceIte, Nat.not_lt_zero, not_true_eq_false, not_false_eq_true, and_true, true_and, and_false, false_and, Nat_1_le_0, p2, hd]
        exact g1
      · rw [dm_eq, told0 _ hb0, ← hB0, bd_in, b2i_t (show (1 : Int32) ≤ nI n ∧ nI n ≤ 60 from hx)]
        simp (disch := first | omega | (simp only [up_ap, List.length_set, Nat.reduceEqDiff, reduceIte] <;> omega)) only [Int32.le_refl, bd_pr, pr_ap, jn_eq, lt_eq, bd_bd, bd_ite, ite_ap, bd_ld, bd_sv, bd_la, bd_sa, bd_ln, bd_rz0, bd_rz1, rz_n0, rz_n1, e_lit2, nI_z, nI_eq0, nI_0eq, nI_le0, nI_lt0, nI_0lt, nI_0le, e_001, e_n10, e_n1lt, bd_la0, bd_sa0, bd_rz00, rz_0, rz_1, b2i_0, Int32.add_zero, Int32.zero_add, nI_add, nI_pred2, pk_sub, pk_mul, pk_div, e_nz, nI_eq, nI_leI, nI_ltI, e_nm1, e_nm2, up_ap, gd_set_ne, gd_set_same, List.length_set, Nat.add_sub_cancel, Nat.reduceEqDiff, Nat.reduceAdd, Nat.reduceMul, Nat.reduceSub, Nat.reduceLT, Nat.reduceLeDiff, reduceIte, Nat.not_lt_zero, not_true_eq_false, not_false_eq_true, and_true, true_and, and_false, false_and, Nat_1_le_0, hd]
        exact g2
    · refine ⟨-nI 1, A, B0, ?_, ?_, hRt⟩
      · rw [dc_eq, bd_iw, b2i_t (show (1 : Int32) ≤ nI n ∧ nI n ≤ 60 from hx)]
        simp (disch := first | omega | (simp only [up_ap, List.length_set, Nat.reduceEqDiff, reduceIte] <;> omega)) only [Int32.le_refl, bd_pr, pr_ap, jn_eq, lt_eq, bd_bd, bd_ite, ite_ap, bd_ld, bd_sv, bd_la, bd_sa, bd_ln, bd_rz0, bd_rz1, rz_n0, rz_n1, e_lit2, nI_z, nI_eq0, nI_0eq, nI_le0, nI_lt0, nI_0lt, nI_0le, e_001, e_n10, e_n1lt, bd_la0, bd_sa0, bd_rz00, rz_0, rz_1, b2i_0, Int32.add_zero, Int32.zero_add, nI_add, nI_pred2, pk_sub, pk_mul, pk_div, e_nz, nI_eq, nI_leI, nI_ltI, e_nm1, e_nm2, up_ap, gd_set_ne, gd_set_same, List.length_set, Nat.add_sub_cancel, Nat.reduceEqDiff, Nat.reduceAdd, Nat.reduceMul, Nat.reduceSub, Nat.reduceLT, Nat.reduceLeDiff, reduceIte, Nat.not_lt_zero, not_true_eq_false, not_false_eq_true, and_true, true_and, and_false, false_and, Nat_1_le_0, p2, hd]
      · rw [dm_eq, told0 _ hb0, ← hB0, bd_in, b2i_t (show (1 : Int32) ≤ nI n ∧ nI n ≤ 60 from hx)]
        simp (disch := first | omega | (simp only [up_ap, List.length_set, Nat.reduceEqDiff, reduceIte] <;> omega)) only [Int32.le_refl, bd_pr, pr_ap, jn_eq, lt_eq, bd_bd, bd_ite, ite_ap, bd_ld, bd_sv, bd_la, bd_sa, bd_ln, bd_rz0, bd_rz1, rz_n0, rz_n1, e_lit2, nI_z, nI_eq0, nI_0eq, nI_le0, nI_lt0, nI_0lt, nI_0le, e_001, e_n10, e_n1lt, bd_la0, bd_sa0, bd_rz00, rz_0, rz_1, b2i_0, Int32.add_zero, Int32.zero_add, nI_add, nI_pred2, pk_sub, pk_mul, pk_div, e_nz, nI_eq, nI_leI, nI_ltI, e_nm1, e_nm2, up_ap, gd_set_ne, gd_set_same, List.length_set, Nat.add_sub_cancel, Nat.reduceEqDiff, Nat.reduceAdd, Nat.reduceMul, Nat.reduceSub, Nat.reduceLT, Nat.reduceLeDiff, reduceIte, Nat.not_lt_zero, not_true_eq_false, not_false_eq_true, and_true, true_and, and_false, false_and, Nat_1_le_0, hd]
  · refine ⟨-nI 1, A, B0, ?_, ?_, hRt⟩
    · rw [dc_eq, bd_iw, b2i_f (show ¬ ((1 : Int32) ≤ x ∧ x ≤ 60) from hx)]
      simp (disch := first | omega | (simp only [up_ap, List.length_set, Nat.reduceEqDiff, reduceIte] <;> omega)) only [Int32.le_refl, bd_pr, pr_ap, jn_eq, lt_eq, bd_bd, bd_ite, ite_ap, bd_ld, bd_sv, bd_la, bd_sa, bd_ln, bd_rz0, bd_rz1, rz_n0, rz_n1, e_lit2, nI_z, nI_eq0, nI_0eq, nI_le0, nI_lt0, nI_0lt, nI_0le, e_001, e_n10, e_n1lt, bd_la0, bd_sa0, bd_rz00, rz_0, rz_1, b2i_0, Int32.add_zero, Int32.zero_add, nI_add, nI_pred2, pk_sub, pk_mul, pk_div, e_nz, nI_eq, nI_leI, nI_ltI, e_nm1, e_nm2, up_ap, gd_set_ne, gd_set_same, List.length_set, Nat.add_sub_cancel, Nat.reduceEqDiff, Nat.reduceAdd, Nat.reduceMul, Nat.reduceSub, Nat.reduceLT, Nat.reduceLeDiff, reduceIte, Nat.not_lt_zero, not_true_eq_false, not_false_eq_true, and_true, true_and, and_false, false_and]
    · rw [dm_eq, told0 _ hb0, ← hB0, bd_in, b2i_f (show ¬ ((1 : Int32) ≤ x ∧ x ≤ 60) from hx)]
      simp (disch := first | omega | (simp only [up_ap, List.length_set, Nat.reduceEqDiff, reduceIte] <;> omega)) only [Int32.le_refl, bd_pr, pr_ap, jn_eq, lt_eq, bd_bd, bd_ite, ite_ap, bd_ld, bd_sv, bd_la, bd_sa, bd_ln, bd_rz0, bd_rz1, rz_n0, rz_n1, e_lit2, nI_z, nI_eq0, nI_0eq, nI_le0, nI_lt0, nI_0lt, nI_0le, e_001, e_n10, e_n1lt, bd_la0, bd_sa0, bd_rz00, rz_0, rz_1, b2i_0, Int32.add_zero, Int32.zero_add, nI_add, nI_pred2, pk_sub, pk_mul, pk_div, e_nz, nI_eq, nI_leI, nI_ltI, e_nm1, e_nm2, up_ap, gd_set_ne, gd_set_same, List.length_set, Nat.add_sub_cancel, Nat.reduceEqDiff, Nat.reduceAdd, Nat.reduceMul, Nat.reduceSub, Nat.reduceLT, Nat.reduceLeDiff, reduceIte, Nat.not_lt_zero, not_true_eq_false, not_false_eq_true, and_true, true_and, and_false, false_and]
def un1B : (Int32 → MM Int32) → Int32 → MM Int32 := fun (self3 : Int32 → MM Int32) (s4 : Int32) =>
  (if 183 ≤ s4 then
  rz 1
  else
  bd (ld 0 3) fun v5 =>
  bd (la 2 ((183 * v5) + s4)) fun v6 =>
  bd (sa 1 s4 v6) fun _ =>
  lt (s4 + 1) fun y7 =>
  self3 y7)
def un1 : MM Int32 := loopC 100000 (un1B) 0
theorem un_eq : gX11_undo =
  bd (sv 0 0 0) fun _ =>
  bd (ld 0 3) fun v1 =>
  (if v1 = 0 then
  rz 0
  else
  bd (ld 0 3) fun v2 =>
  bd (sv 0 3 (v2 - 1)) fun _ =>
  (un1)) := rfl
theorem HH_W0 {A A' B B' : Bk} {np nc nt np' nc' nt' : Nat} {ks ks' : Nat → List Nat} {wh wh' : Nat → Nat} (hH : HH (fun i => A (rh24 i)) B np nc nt ks wh) (h1 : np ≤ np') (h2 : nc ≤ nc') (h3 : nt ≤ nt') (hW : WR (fun i => A' (2 + i)) (B' 1) (B' 4) (B' 5) np' nc' nt' ks' wh') (hw0 : (A' 2).getD 0 0 = 0)
    (aH : ∀ i, i < 36 → i ≠ 0 → A' (rh24 i) = A (rh24 i))
    (eB : ∀ i, i < 38 → i ≠ 0 → i ≠ 1 → i ≠ 2 → i ≠ 4 → i ≠ 5 → B' i = B i) (e0 : (B' 0).length = 68) (es : ∀ k, k ∈ [5, 35, 37, 39, 43, 52, 54, 57, 61] → (B' 0).getD k 0 = (B 0).getD k 0) (e6 : (B' 0).getD 6 0 = nI np') (e7 : (B' 0).getD 7 0 = nI nc') (e8 : (B' 0).getD 8 0 = nI nt') :
    HH (fun i => A' (rh24 i)) B' np' nc' nt' ks' wh' := by
  obtain ⟨⟨-, ⟨-, -⟩, ⟨hb1, hb2⟩, ⟨b0, b5, -, -, -⟩, hlaw, hdeeds, hminds, hfr, hz1, hz2, hz3⟩, hTT⟩ := hH
  have hWR : WR (fun i => A' (rh24 (rh12 i))) (B' 1) (B' 4) (B' 5) np' nc' nt' ks' wh' := WR_congr hW (fun i hi => by
    show A' (rh24 (rh12 i)) = A' (2 + i)
    rw [rh24_12 i hi, rh23_v i hi])
  have hHS : HS (fun i => A' (rh24 i)) B' 0 np' nc' nt' := by
    refine ⟨⟨e0, by rw [es 5 (by decide)]; exact b5, e6, e7, e8⟩, ?_, ?_, ?_, ?_, ?_, ?_, ?_⟩
    · unfold RLaw at *
      simp only [Nat.reduceAdd, aH 3 (by decide) (by decide), aH 4 (by decide) (by decide), aH 5 (by decide) (by decide), aH 6 (by decide) (by decide), aH 7 (by decide) (by decide), aH 8 (by decide) (by decide), aH 9 (by decide) (by decide), eB 9 (by decide) (by decide) (by decide) (by decide) (by decide) (by decide), eB 10 (by decide) (by decide) (by decide) (by decide) (by decide) (by decide), eB 11 (by decide) (by decide) (by decide) (by decide) (by decide) (by decide), eB 12 (by decide) (by decide) (by decide) (by decide) (by decide) (by decide), eB 13 (by decide) (by decide) (by decide) (by decide) (by decide) (by decide), eB 14 (by decide) (by decide) (by decide) (by decide) (by decide) (by decide), eB 15 (by decide) (by decide) (by decide) (by decide) (by decide) (by decide)]
      exact hlaw
    · unfold RDeeds at *
      simp only [Nat.reduceAdd, aH 10 (by decide) (by decide), aH 11 (by decide) (by decide), aH 12 (by decide) (by decide), aH 13 (by decide) (by decide), aH 14 (by decide) (by decide), eB 17 (by decide) (by decide) (by decide) (by decide) (by decide) (by decide), es 35 (by decide)]
      obtain ⟨q1, n, q2, q3, q4, q5⟩ := hdeeds
      refine ⟨q1, n, q2, q3, q4, fun i hi => ?_⟩
      obtain ⟨x1, x2, x3, x4, w, a, b, y1, y2, y3, y4, y5, y6, y7⟩ := q5 i hi
      exact ⟨x1, x2, x3, x4, w, a, b, y1, y2, y3, y4, fun q => by have := y5 q; omega, fun q => by have := y6 q; omega, fun q => by have := y7 q; omega⟩
    · unfold RMinds at *
      simp only [Nat.reduceAdd, aH 15 (by decide) (by decide), aH 16 (by decide) (by decide), aH 17 (by decide) (by decide), aH 18 (by decide) (by decide), aH 19 (by decide) (by decide), eB 18 (by decide) (by decide) (by decide) (by decide) (by decide) (by decide), es 37 (by decide)]
      obtain ⟨q1, n, q2, q3, q4, q5⟩ := hminds
      refine ⟨q1, n, q2, q3, q4, fun i hi => ?_⟩
      obtain ⟨x1, x2, x3, a, y1, y2⟩ := q5 i hi
      exact ⟨x1, x2, x3, a, by omega, y2⟩
    · unfold RFr at *
      simp only [Nat.reduceAdd, aH 20 (by decide) (by decide), aH 21 (by decide) (by decide), aH 22 (by decide) (by decide), aH 23 (by decide) (by decide), aH 24 (by decide) (by decide), eB 19 (by decide) (by decide) (by decide) (by decide) (by decide) (by decide), es 39 (by decide)]
      obtain ⟨q1, n, q2, q3, q4, q5, q6⟩ := hfr
      refine ⟨q1, n, q2, q3, q4, fun i hi => ?_, q6⟩
      obtain ⟨a, b, x1, x2, x3, x4, x5⟩ := q5 i hi
      exact ⟨a, b, x1, x2, by omega, by omega, x5⟩
    · show (A' (rh24 35)).length = 9
      rw [aH 35 (by decide) (by decide)]; exact hz1
    · rw [eB 20 (by decide) (by decide) (by decide) (by decide) (by decide) (by decide)]; exact hz2
    · rw [eB 21 (by decide) (by decide) (by decide) (by decide) (by decide) (by decide)]; exact hz3
  refine ⟨⟨hWR, ⟨by decide, hw0⟩, ⟨?_, ?_⟩, hHS⟩, ?_⟩
  · show A' (rh24 2) = B' 6
    rw [aH 2 (by decide) (by decide), eB 6 (by decide) (by decide) (by decide) (by decide) (by decide) (by decide)]; exact hb1
  · rw [eB 6 (by decide) (by decide) (by decide) (by decide) (by decide) (by decide)]; exact hb2
  · unfold TT at *
    simp only [aH 25 (by decide) (by decide), aH 26 (by decide) (by decide), aH 27 (by decide) (by decide), aH 28 (by decide) (by decide), aH 29 (by decide) (by decide), aH 30 (by decide) (by decide), aH 31 (by decide) (by decide), aH 32 (by decide) (by decide), aH 33 (by decide) (by decide), aH 34 (by decide) (by decide), es 43 (by decide), es 52 (by decide), es 54 (by decide), es 57 (by decide), es 61 (by decide), eB 22 (by decide) (by decide) (by decide) (by decide) (by decide) (by decide), eB 29 (by decide) (by decide) (by decide) (by decide) (by decide) (by decide), eB 30 (by decide) (by decide) (by decide) (by decide) (by decide) (by decide), eB 32 (by decide) (by decide) (by decide) (by decide) (by decide) (by decide), eB 35 (by decide) (by decide) (by decide) (by decide) (by decide) (by decide)]
    exact hTT
/-- a row taken back -/
def rowOut (l w : List Int32) (u : Nat) : Nat → List Int32 := fo (fun i x => x.set i (l.getD (183 * u + i) 0)) w
theorem rowOut_len (l w : List Int32) (u n : Nat) : (rowOut l w u n).length = w.length := fo_len (fun i x => List.length_set) w n
theorem rowOut_get (l w : List Int32) (u : Nat) (hw : w.length = 183) : ∀ n, n ≤ 183 → ∀ q, (rowOut l w u n).getD q 0 = if q < n then l.getD (183 * u + q) 0 else w.getD q 0
  | 0, _, q => by rw [if_neg (by omega)]; rfl
  | n + 1, hn, q => by
    have hq := rowOut_len l w u n
    show ((rowOut l w u n).set n (l.getD (183 * u + n) 0)).getD q 0 = _
    by_cases h1 : q = n
    · subst h1
      rw [gd_set_same (by omega), if_pos (by omega)]
    · rw [gd_set_ne (fun z => h1 z.symm), rowOut_get l w u hw n (by omega)]
      by_cases h2 : q < n
      · rw [if_pos h2, if_pos (by omega)]
      · rw [if_neg h2, if_neg (by omega)]
theorem rowOut_all {l w : List Int32} {u : Nat} (hw : w.length = 183) (hl : 183 * u + 183 ≤ l.length) : rowOut l w u 183 = rowN l u := by
  refine gd_ext (by rw [rowOut_len, hw, rowN_len hl]) (fun k hk => ?_)
  rw [rowOut_len, hw] at hk
  rw [rowOut_get l w u hw 183 (Nat.le_refl _), if_pos hk, rowN_get hk]
set_option maxHeartbeats 400000 in
theorem op_undo {A B : Bk} (h : R A B) : ∃ r A' B', gX10_undo A = some (r, A') ∧ gX11_undo B = some (r, B') ∧ R A' B' := by
  have hb0 := R_B0 h
  have hRt := R_told h
  obtain ⟨B0, hB0⟩ : ∃ z, z = up B 0 ((B 0).set 0 0) := ⟨_, rfl⟩
  rw [← hB0] at hRt
  have z0 := R_B0 hRt
  obtain ⟨⟨np, nc, nt, ks, wh, hH, hU⟩, hT, hI, hA, hB⟩ := id hRt
  obtain ⟨hW, hw0⟩ := R_W hH
  have hn1 : (B0 1).length = 183 := hW.2.1.1
  obtain ⟨a0, a112, b2, u, hu6, e5, e3, pm, hpm, hwl, hinj, hkept⟩ := id hU
  by_cases hu : u = 0
  · subst hu
    refine ⟨0, A, B0, ?_, ?_, hRt⟩
    · unfold gX10_undo
      simp (disch := first | omega | (simp only [up_ap, List.length_set, Nat.reduceEqDiff, reduceIte] <;> omega)) only [Int32.le_refl, bd_pr, pr_ap, jn_eq, lt_eq, bd_bd, bd_ite, ite_ap, bd_ld, bd_sv, bd_la, bd_sa, bd_ln, bd_rz0, bd_rz1, rz_n0, rz_n1, e_lit2, nI_z, nI_eq0, nI_0eq, nI_le0, nI_lt0, nI_0lt, nI_0le, e_001, e_n10, e_n1lt, bd_la0, bd_sa0, bd_rz00, rz_0, rz_1, b2i_0, Int32.add_zero, Int32.zero_add, nI_add, nI_pred2, pk_sub, pk_mul, pk_div, e_nz, nI_eq, nI_leI, nI_ltI, e_nm1, e_nm2, up_ap, gd_set_ne, gd_set_same, List.length_set, Nat.add_sub_cancel, Nat.reduceEqDiff, Nat.reduceAdd, Nat.reduceMul, Nat.reduceSub, Nat.reduceLT, Nat.reduceLeDiff, reduceIte, Nat.not_lt_zero, not_true_eq_false, not_false_eq_true, and_true, true_and, and_false, false_and, e5]
      rw [bd_iw, b2i_f (by decide)]
      simp (disch := first | omega | (simp only [up_ap, List.length_set, Nat.reduceEqDiff, reduceIte] <;> omega)) only [Int32.le_refl, bd_pr, pr_ap, jn_eq, lt_eq, bd_bd, bd_ite, ite_ap, bd_ld, bd_sv, bd_la, bd_sa, bd_ln, bd_rz0, bd_rz1, rz_n0, rz_n1, e_lit2, nI_z, nI_eq0, nI_0eq, nI_le0, nI_lt0, nI_0lt, nI_0le, e_001, e_n10, e_n1lt, bd_la0, bd_sa0, bd_rz00, rz_0, rz_1, b2i_0, Int32.add_zero, Int32.zero_add, nI_add, nI_pred2, pk_sub, pk_mul, pk_div, e_nz, nI_eq, nI_leI, nI_ltI, e_nm1, e_nm2, up_ap, gd_set_ne, gd_set_same, List.length_set, Nat.add_sub_cancel, Nat.reduceEqDiff, Nat.reduceAdd, Nat.reduceMul, Nat.reduceSub, Nat.reduceLT, Nat.reduceLeDiff, reduceIte, Nat.not_lt_zero, not_true_eq_false, not_false_eq_true, and_true, true_and, and_false, false_and]
    · rw [un_eq, told0 _ hb0, ← hB0]
      simp (disch := first | omega | (simp only [up_ap, List.length_set, Nat.reduceEqDiff, reduceIte] <;> omega)) only [Int32.le_refl, bd_pr, pr_ap, jn_eq, lt_eq, bd_bd, bd_ite, ite_ap, bd_ld, bd_sv, bd_la, bd_sa, bd_ln, bd_rz0, bd_rz1, rz_n0, rz_n1, e_lit2, nI_z, nI_eq0, nI_0eq, nI_le0, nI_lt0, nI_0lt, nI_0le, e_001, e_n10, e_n1lt, bd_la0, bd_sa0, bd_rz00, rz_0, rz_1, b2i_0, Int32.add_zero, Int32.zero_add, nI_add, nI_pred2, pk_sub, pk_mul, pk_div, e_nz, nI_eq, nI_leI, nI_ltI, e_nm1, e_nm2, up_ap, gd_set_ne, gd_set_same, List.length_set, Nat.add_sub_cancel, Nat.reduceEqDiff, Nat.reduceAdd, Nat.reduceMul, Nat.reduceSub, Nat.reduceLT, Nat.reduceLeDiff, reduceIte, Nat.not_lt_zero, not_true_eq_false, not_false_eq_true, and_true, true_and, and_false, false_and, e3]
  · obtain ⟨v, rfl⟩ : ∃ v, u = v + 1 := ⟨u - 1, by omega⟩
    obtain ⟨hm, em⟩ := hpm v (by omega)
    have hr := wls_r _ hm
    obtain ⟨ks2, wh2, hW2⟩ := hkept v (by omega)
    have hWa : WL (fun i => A (2 + i)) := hW.1
    obtain ⟨A1, hA1⟩ : ∃ z, z = up A 0 ((A 0).set 5 (nI v)) := ⟨_, rfl⟩
    have k1 : ∀ j, j ≠ 0 → A1 j = A j := fun j hj => by rw [hA1, up_ne _ _ hj]
    have wl1 : WL (fun i => A1 (2 + i)) := by
      have := hWa
      unfold WL at *
      simp only [k1 (2 + 0) (by decide), k1 (2 + 1) (by decide), k1 (2 + 2) (by decide), k1 (2 + 3) (by decide), k1 (2 + 4) (by decide), k1 (2 + 5) (by decide), k1 (2 + 6) (by decide), k1 (2 + 7) (by decide), k1 (2 + 8) (by decide), k1 (2 + 9) (by decide), k1 (2 + 10) (by decide), k1 (2 + 11) (by decide), k1 (2 + 12) (by decide)]
      exact this
    have hW21 : WR (fun i => A1 (pm v + i)) (rowN (B0 2) v) (B0 4) (B0 5) np nc nt ks2 wh2 := WR_congr hW2 (fun i hi => k1 _ (by omega))
    obtain ⟨A', c1, c2, c3, c4, c5, c6⟩ := cp_all (A := A1) (rv2_inj _ hm) (rv2_v _ hm) wl1 hW21.1
    obtain ⟨B', hB'⟩ : ∃ z, z = up (up B0 0 ((B0 0).set 3 (nI v))) 1 (rowN (B0 2) v) := ⟨_, rfl⟩
    have hWR : WR (fun i => A' (2 + i)) (rowN (B0 2) v) (B0 4) (B0 5) np nc nt ks2 wh2 := cp_WR hW21 c2 c3 c4
    have aj : ∀ j, j ≠ 0 → ¬ (2 ≤ j ∧ j < 15) → A' j = A j := fun j h1 h2 => by rw [c6 j (by omega)]; exact k1 j h1
    have a00 : A' 0 = (A 0).set 5 (nI v) := by rw [c6 0 (by omega), hA1, up_same]
    have bj : ∀ i, i ≠ 0 → i ≠ 1 → B' i = B0 i := fun i h1 h2 => by rw [hB', up_ne _ _ h2, up_ne _ _ h1]
    have b00 : B' 0 = (B0 0).set 3 (nI v) := by rw [hB', up_ne _ _ (by decide), up_same]
    have b11 : B' 1 = rowN (B0 2) v := by rw [hB', up_same]
    have bs : ∀ k, k ≠ 3 → (B' 0).getD k 0 = (B0 0).getD k 0 := fun k hk => by rw [b00, gd_set_ne (fun q => hk q.symm)]
    have ah : ∀ i, i < 36 → i ≠ 0 → A' (rh24 i) = A (rh24 i) := fun i hi h0 => aj _ (by rw [rh24_h i hi h0]; omega) (by rw [rh24_h i hi h0]; omega)
    have q6 : (B0 0).getD 6 0 = nI np := hH.1.2.2.2.1.2.2.1
    have q7 : (B0 0).getD 7 0 = nI nc := hH.1.2.2.2.1.2.2.2.1
    have q8 : (B0 0).getD 8 0 = nI nt := hH.1.2.2.2.1.2.2.2.2
    have hWRn : WR (fun i => A' (2 + i)) (B' 1) (B' 4) (B' 5) np nc nt ks2 wh2 := by
      rw [b11, bj 4 (by decide) (by decide), bj 5 (by decide) (by decide)]
      exact hWR
    have hHH : HH (fun i => A' (rh24 i)) B' np nc nt ks2 wh2 := HH_W0 hH (Nat.le_refl _) (Nat.le_refl _) (Nat.le_refl _) hWRn (by rw [c5, k1 2 (by decide)]; exact hw0) ah (fun i a b c d e f => bj i b c) (by rw [b00, List.length_set]; exact z0) (fun k hk => bs k (by rintro rfl; exact absurd hk (by decide))) (by rw [bs 6 (by decide)]; exact q6) (by rw [bs 7 (by decide)]; exact q7) (by rw [bs 8 (by decide)]; exact q8)
    have hUD : UD A' B' np nc nt := by
      refine ⟨by rw [a00, List.length_set]; exact a0, by rw [aj 112 (by decide) (by decide)]; exact a112, by rw [bj 2 (by decide) (by decide)]; exact b2, v, by omega, by rw [a00, gd_set_same (by omega)], by rw [b00, gd_set_same (by omega)], pm, fun i hi => ⟨(hpm i hi).1, by rw [aj 112 (by decide) (by decide)]; exact (hpm i hi).2⟩, fun w hw => ?_, hinj, fun i hi => ?_⟩
      · have hrw := wls_r w hw
        have := hwl w hw
        unfold WL at *
        simp only [aj (w + 0) (by omega) (by omega), aj (w + 1) (by omega) (by omega), aj (w + 2) (by omega) (by omega), aj (w + 3) (by omega) (by omega), aj (w + 4) (by omega) (by omega), aj (w + 5) (by omega) (by omega), aj (w + 6) (by omega) (by omega), aj (w + 7) (by omega) (by omega), aj (w + 8) (by omega) (by omega), aj (w + 9) (by omega) (by omega), aj (w + 10) (by omega) (by omega), aj (w + 11) (by omega) (by omega), aj (w + 12) (by omega) (by omega)]
        exact this
      · obtain ⟨ks3, wh3, hW3⟩ := hkept i (by omega)
        have hmi := wls_r _ (hpm i (by omega)).1
        rw [bj 2 (by decide) (by decide), bj 4 (by decide) (by decide), bj 5 (by decide) (by decide)]
        exact ⟨ks3, wh3, WR_congr hW3 (fun j hj => aj _ (by omega) (by omega))⟩
    refine ⟨nI 1, A', B', ?_, ?_, ⟨np, nc, nt, ks2, wh2, hHH, hUD⟩, ?_, ?_, ?_, ?_⟩
    · have hm' : pm v ∈ [133, 146, 159, 172, 185, 198] := hm
      have hlt : pm v < 2 ^ 31 := by omega
      unfold gX10_undo
      simp (disch := first | omega | (simp only [up_ap, List.length_set, Nat.reduceEqDiff, reduceIte] <;> omega)) only [Int32.le_refl, bd_pr, pr_ap, jn_eq, lt_eq, bd_bd, bd_ite, ite_ap, bd_ld, bd_sv, bd_la, bd_sa, bd_ln, bd_rz0, bd_rz1, rz_n0, rz_n1, e_lit2, nI_z, nI_eq0, nI_0eq, nI_le0, nI_lt0, nI_0lt, nI_0le, e_001, e_n10, e_n1lt, bd_la0, bd_sa0, bd_rz00, rz_0, rz_1, b2i_0, Int32.add_zero, Int32.zero_add, nI_add, nI_pred2, pk_sub, pk_mul, pk_div, e_nz, nI_eq, nI_leI, nI_ltI, e_nm1, e_nm2, up_ap, gd_set_ne, gd_set_same, List.length_set, Nat.add_sub_cancel, Nat.reduceEqDiff, Nat.reduceAdd, Nat.reduceMul, Nat.reduceSub, Nat.reduceLT, Nat.reduceLeDiff, reduceIte, Nat.not_lt_zero, not_true_eq_false, not_false_eq_true, and_true, true_and, and_false, false_and, e5]
      rw [bd_iw, b2i_t (show nI 1 ≤ nI (v + 1) ∧ nI (v + 1) ≤ nI 6 from ⟨nI_le (a := 1) (by omega) (by omega), nI_le hu6 (by decide)⟩)]
      simp (disch := first | omega | (simp only [up_ap, List.length_set, Nat.reduceEqDiff, reduceIte] <;> omega)) only [Int32.le_refl, bd_pr, pr_ap, jn_eq, lt_eq, bd_bd, bd_ite, ite_ap, bd_ld, bd_sv, bd_la, bd_sa, bd_ln, bd_rz0, bd_rz1, rz_n0, rz_n1, e_lit2, nI_z, nI_eq0, nI_0eq, nI_le0, nI_lt0, nI_0lt, nI_0le, e_001, e_n10, e_n1lt, bd_la0, bd_sa0, bd_rz00, rz_0, rz_1, b2i_0, Int32.add_zero, Int32.zero_add, nI_add, nI_pred2, pk_sub, pk_mul, pk_div, e_nz, nI_eq, nI_leI, nI_ltI, e_nm1, e_nm2, up_ap, gd_set_ne, gd_set_same, List.length_set, Nat.add_sub_cancel, Nat.reduceEqDiff, Nat.reduceAdd, Nat.reduceMul, Nat.reduceSub, Nat.reduceLT, Nat.reduceLeDiff, reduceIte, Nat.not_lt_zero, not_true_eq_false, not_false_eq_true, and_true, true_and, and_false, false_and, Nat_1_le_0, e5, em]
      rw [nI_clamp hlt, inL_t hm', ← hA1, bd_some c1]
      first | done | rfl
    · rw [un_eq, told0 _ hb0, ← hB0]
      simp (disch := first | omega | (simp only [up_ap, List.length_set, Nat.reduceEqDiff, reduceIte] <;> omega)) only [Int32.le_refl, bd_pr, pr_ap, jn_eq, lt_eq, bd_bd, bd_ite, ite_ap, bd_ld, bd_sv, bd_la, bd_sa, bd_ln, bd_rz0, bd_rz1, rz_n0, rz_n1, e_lit2, nI_z, nI_eq0, nI_0eq, nI_le0, nI_lt0, nI_0lt, nI_0le, e_001, e_n10, e_n1lt, bd_la0, bd_sa0, bd_rz00, rz_0, rz_1, b2i_0, Int32.add_zero, Int32.zero_add, nI_add, nI_pred2, pk_sub, pk_mul, pk_div, e_nz, nI_eq, nI_leI, nI_ltI, e_nm1, e_nm2, up_ap, gd_set_ne, gd_set_same, List.length_set, Nat.add_sub_cancel, Nat.reduceEqDiff, Nat.reduceAdd, Nat.reduceMul, Nat.reduceSub, Nat.reduceLT, Nat.reduceLeDiff, reduceIte, Nat.not_lt_zero, not_true_eq_false, not_false_eq_true, and_true, true_and, and_false, false_and, e3]
      unfold un1
      refine loopF 183 (fun j => nI j) (fun j => up (up B0 0 ((B0 0).set 3 (nI v))) 1 (rowOut (B0 2) (B0 1) v j)) rfl (up_self (up B0 0 ((B0 0).set 3 (nI v))) 1) (fun j hj self => ?_) (fun self => ?_) (by omega)
      · have hl2 := rowOut_len (B0 2) (B0 1) v j
        have n1 : ¬ 183 ≤ j := by omega
        have e : rowOut (B0 2) (B0 1) v (j + 1) = (rowOut (B0 2) (B0 1) v j).set j ((B0 2).getD (183 * v + j) 0) := rfl
        rw [e]
        unfold un1B
        simp (disch := first | omega | (simp only [up_ap, List.length_set, Nat.reduceEqDiff, reduceIte, hl2] <;> omega)) only [Int32.le_refl, bd_pr, pr_ap, jn_eq, lt_eq, bd_bd, bd_ite, ite_ap, bd_ld, bd_sv, bd_la, bd_sa, bd_ln, bd_rz0, bd_rz1, rz_n0, rz_n1, e_lit2, nI_z, nI_eq0, nI_0eq, nI_le0, nI_lt0, nI_0lt, nI_0le, e_001, e_n10, e_n1lt, bd_la0, bd_sa0, bd_rz00, rz_0, rz_1, b2i_0, Int32.add_zero, Int32.zero_add, nI_add, nI_pred2, pk_sub, pk_mul, pk_div, e_nz, nI_eq, nI_leI, nI_ltI, e_nm1, e_nm2, up_ap, gd_set_ne, gd_set_same, List.length_set, Nat.add_sub_cancel, Nat.reduceEqDiff, Nat.reduceAdd, Nat.reduceMul, Nat.reduceSub, Nat.reduceLT, Nat.reduceLeDiff, reduceIte, Nat.not_lt_zero, not_true_eq_false, not_false_eq_true, and_true, true_and, and_false, false_and, n1, up_up]
      · unfold un1B
        rw [if_pos (by decide), rowOut_all hn1 (by omega), ← hB']; rfl
    · exact TP_congr hT (aj 113 (by decide) (by omega)) (aj 114 (by decide) (by omega)) (bj 7 (by decide) (by decide)) (bs 13 (by decide)) (bs 33 (by decide)) (bs 34 (by decide))
    · exact IM_congr hI (by rw [a00, gd_set_ne (by decide)]) (fun j h1 h2 => aj j (by omega) (by omega)) (bj 37 (by decide) (by decide)) (bs 65 (by decide))
    · exact SCA_congr hA (fun j h1 h2 => by rw [aj j (by omega) (by omega)]) (by rw [aj 99 (by decide) (by omega)])
    · have hz : ∀ j, j ∈ [3, 16, 23, 24, 25, 26, 27, 28, 31, 34, 36] → j ≠ 0 ∧ j ≠ 1 := by decide
      exact SCB_congr hB (fun j hj => by rw [bj j (hz j hj).1 (hz j hj).2]) (bj 8 (by decide) (by decide)) (bj 33 (by decide) (by decide))
