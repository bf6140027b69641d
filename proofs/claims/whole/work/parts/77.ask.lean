/-! PURE: askLaw beside tiesOf, slipsOf, tellsOf -/
theorem pu1 {ρ : Nat → Nat} {n i : Nat} (hinj : ∀ i j, i < n → j < n → ρ i = ρ j → i = j) (hi : i < n) (S : Bk) (x : List Int32) : pu ρ n (up (fun i => S (ρ i)) i x) S = up S (ρ i) x := by rw [pu_up hinj hi, pu_self]
theorem inj_d {ρ : Nat → Nat} {n : Nat} (h : ∀ i, i < n → ∀ j, j < n → ρ i = ρ j → i = j) : ∀ i j, i < n → j < n → ρ i = ρ j → i = j := fun i j hi hj => h i hi j hj
theorem rh14_inj : ∀ i j, i < 8 → j < 8 → rh14 i = rh14 j → i = j := inj_d (by decide +kernel)
theorem cust_0 (A : Bk) : gX1_customary 0 A = bd (la 35 0) (fun v3 => nz 2 (pr (1 + (v3 / 2)))) A := by
  unfold gX1_customary swl
  rw [if_pos (by decide)]
theorem cust_1 (A : Bk) : gX1_customary (nI 1) A = bd (la 35 1) (fun v4 => pr (900 - (100 * v4))) A := by
  unfold gX1_customary swl swl
  rw [if_neg (by decide), if_pos (by decide)]
theorem cust_2 (A : Bk) : gX1_customary (nI 2) A = bd (la 35 4) (fun v1 => bd (la 35 0) fun v2 => pr ((300 * v1) + (50 * v2))) A := by
  unfold gX1_customary swl swl swl
  rw [if_neg (by decide), if_neg (by decide)]
theorem tail_eq {H B : Bk} {w : Nat} {d lo hi : Int32} (hV : RLaw (fun i => H (3 + i)) (B 9) (B 10) (B 11) (B 12) (B 13) (B 14) (B 15)) (l35 : (H 35).length = 9) (hs : H 35 = B 20) (m20 : (B 20).length = 9) (m21 : (B 21).length = 420)
    (hd : ∀ s9, gX1_customary (nI w) (up H 9 s9) = some (d, up H 9 s9)) (hw : w < 3) (hlh : (w = 0 ∧ lo = 1 ∧ hi = 9) ∨ (w ≠ 0 ∧ lo = 0 ∧ hi = 1000)) :
    ∃ v s9 b21, tailC (nI w) H = some (v, up H 9 s9) ∧ gX11_lawTells (nI w) d lo hi B = some (v, up B 21 b21) ∧ s9.length = 400 ∧ b21.length = 420 ∧ lo ≤ v ∧ v ≤ hi := by
  have hle : lo ≤ hi := by rcases hlh with ⟨-, rfl, rfl⟩ | ⟨-, rfl, rfl⟩ <;> decide
  have hend : ∀ (a : Int32) (s9 : List Int32), ∃ v, (∀ S : Bk, (if nI w = 0 then bd (lf rh0 0 (gX1_held a 1 9)) (fun r12 => pr r12) else bd (lf rh0 0 (gX1_held a 0 1000)) fun r11 => pr r11) S = some (v, S)) ∧ (∀ S : Bk, gX11_held a lo hi S = some (v, S)) ∧ lo ≤ v ∧ v ≤ hi := by
    intro a s9
    have hval : ∀ A B' : Bk, ∃ r, (gX1_held a lo hi A = some (r, A) ∧ gX11_held a lo hi B' = some (r, B')) ∧ lo ≤ r ∧ r ≤ hi := fun A B' => held_eq a hle A B'
    obtain ⟨v, ⟨h1, h2⟩, h3⟩ := hval H B
    have hv1 : ∀ A : Bk, gX1_held a lo hi A = some (v, A) := fun A => by
      obtain ⟨v', ⟨g1, g2⟩, -⟩ := hval A B
      rw [h2] at g2
      cases g2
      exact g1
    have hv2 : ∀ B' : Bk, gX11_held a lo hi B' = some (v, B') := fun B' => by
      obtain ⟨v', ⟨g1, g2⟩, -⟩ := hval H B'
      rw [h1] at g1
      cases g1
      exact g2
    refine ⟨v, fun S => ?_, hv2, h3⟩
    rcases hlh with ⟨h0, rfl, rfl⟩ | ⟨h0, rfl, rfl⟩
    · rw [if_pos (by rw [h0]; rfl), bd_lf0 _ (hv1 _)]; rfl
    · rw [if_neg (nI_ne0 (by omega) (by omega)), bd_lf0 _ (hv1 _)]; rfl
  obtain ⟨⟨l0, l1, l2, l3, l4, l5, l6⟩, hrest⟩ := id hV
  have hV1 : RLaw (fun i => H (rh14 i)) (B 9) (B 10) (B 11) (B 12) (B 13) (B 14) (B 15) := hV
  obtain ⟨r, s6, s21, g1, g2, g3, g4, g5⟩ := line_eq hV1 l35 hs m20 m21 (nI w)
  have hp : ∀ (S : Bk) (s : List Int32), pu rh14 8 (up (fun i => S (rh14 i)) 6 s) S = up S 9 s := fun S s => pu1 rh14_inj (by decide) S s
  rcases g5 with rfl | ⟨l, n, hl, hn, h0, rfl⟩
  · obtain ⟨v, e1, e2, e3⟩ := hend d s6
    refine ⟨v, s6, s21, ?_, ?_, g3, g4, e3⟩
    · unfold tailC
      rw [bd_lf _ g1, hp]
      simp only [jn_eq]
      rw [if_pos (show -nI 1 = (-1 : Int32) from rfl), bd_some (hd s6)]
      exact e1 _
    · unfold gX11_lawTells
      rw [bd_some g2]
      simp only [jn_eq]
      rw [if_pos (show -nI 1 = (-1 : Int32) from rfl), bd_some (e2 _)]
      rfl
  · have hV2 : RLaw (fun i => up H 9 s6 (rh14 i)) (up B 21 s21 9) (up B 21 s21 10) (up B 21 s21 11) (up B 21 s21 12) (up B 21 s21 13) (up B 21 s21 14) (up B 21 s21 15) := ⟨⟨l0, l1, l2, l3, l4, l5, g3⟩, hrest⟩
    obtain ⟨r, t6, t21, a, b, q1, q2, q3, q4, q5, q6⟩ := told_eq (V := fun i => up H 9 s6 (rh14 i)) (B := up B 21 s21) hV2 l35 hs m20 g4 hl hn h0
    obtain ⟨v, e1, e2, e3⟩ := hend r t6
    have hne : ¬ nI l = (-1 : Int32) := fun q => by
      have := e_nm1 (j := l) (by omega)
      rw [← this]; exact q
    have hV3 := hV1.2
    obtain ⟨m9, m10, m11, m12, m13, m14, m15⟩ := hrest.1
    refine ⟨v, t6, t21, ?_, ?_, q5, q6, e3⟩
    · unfold tailC
      rw [bd_lf _ g1, hp]
      simp only [jn_eq]
      rw [if_neg hne, bd_lf _ q1, hp, up_up]
      exact e1 _
    · unfold gX11_lawTells
      rw [bd_some g2]
      simp only [jn_eq]
      rw [if_neg hne]
      have q2' : (B 11).getD l 0 = nI a := q2
      have q3' : (B 12).getD l 0 = nI b := q3
      simp (disch := first | omega | (simp only [up_ap, List.length_set, Nat.reduceEqDiff, reduceIte]; omega)) only [bd_pr, pr_ap, jn_eq, lt_eq, bd_bd, bd_ite, ite_ap, bd_ld, bd_sv, bd_la, bd_sa, bd_ln, bd_rz0, bd_rz1, rz_n0, rz_n1, e_lit2, nI_z, nI_eq0, nI_0eq, nI_le0, nI_lt0, nI_0lt, nI_0le, e_001, e_n10, e_n1lt, bd_la0, bd_sa0, bd_rz00, rz_0, rz_1, b2i_0, Int32.add_zero, Int32.zero_add, nI_add, nI_pred2, pk_sub, pk_mul, pk_div, e_nz, nI_eq, nI_leI, nI_ltI, e_nm1, e_nm2, up_ap, gd_set_ne, gd_set_same, List.length_set, Nat.add_sub_cancel, Nat.reduceEqDiff, Nat.reduceAdd, Nat.reduceMul, Nat.reduceSub, Nat.reduceLT, Nat.reduceLeDiff, reduceIte, Nat.not_lt_zero, not_true_eq_false, not_false_eq_true, and_true, true_and, and_false, false_and, q2', q3']
      have q4' : gX11_runs 0 (nI a) (nI b) (up B 21 s21) = some (r, up B 21 t21) := by rw [q4, up_up]
      rw [bd_some q4', bd_some (e2 _)]; rfl
theorem ask_ties {H B : Bk} {th np nc nt t c : Nat} {ks : Nat → List Nat} {wh : Nat → Nat} (h : HR H B th np nc nt ks wh) (ht : t < nt) (hc : c < nc) : ∃ v s35 s9 b21, gX1_askLaw 0 (nI t) (nI c) H = some (v, up (up H 35 s35) 9 s9) ∧ gX11_tiesOf (nI t) (nI c) B = some (v, up (up B 20 s35) 21 b21) ∧ s35.length = 9 ∧ s9.length = 400 ∧ b21.length = 420 ∧ 1 ≤ v ∧ v ≤ 9 := by
  obtain ⟨sn, hsn, g1, g2⟩ := see_asks h ht hc
  obtain ⟨⟨l0, -⟩, ⟨hn1, hn2, hn3, hn4⟩, ⟨p1, p2, p3, p4, p5, p6⟩, -, -, -, -, -, -, ⟨k1, k2, k3⟩⟩ := HR_W h
  obtain ⟨-, -, -, -, hlaw, -, -, -, z35, z20, z21⟩ := h
  have hg1 : gX9_hasThing (nI t) (fun i => H (rh12 i)) = some (nI 1, fun i => H (rh12 i)) := t_hasThing (W := fun i => H (rh12 i)) l0 p6 ht (by omega)
  have hg2 : gX9_hasCloth (nI c) (fun i => H (rh12 i)) = some (nI 1, fun i => H (rh12 i)) := t_hasCloth (W := fun i => H (rh12 i)) l0 p5 hc (by omega)
  have hl2 : RLaw (fun i => up H 35 sn (3 + i)) (up B 20 sn 9) (up B 20 sn 10) (up B 20 sn 11) (up B 20 sn 12) (up B 20 sn 13) (up B 20 sn 14) (up B 20 sn 15) := hlaw
  have hcust : ∀ s9, gX1_customary (nI 0) (up (up H 35 sn) 9 s9) = some (1 + (sn.getD 0 0 / 2), up (up H 35 sn) 9 s9) := fun s9 => by
    show gX1_customary 0 _ = _
    rw [cust_0, bd_la0 _ (by rw [up_ne _ _ (by decide), up_same, hsn]; decide) (by rw [up_ne _ _ (by decide), up_same, hsn]; decide), up_ne _ _ (by decide), up_same, nz_fn (show ¬ (2 : Int32) = 0 by decide)]; rfl
  obtain ⟨v, s9, b21, e1, e2, e3, e4, e5⟩ := tail_eq (H := up H 35 sn) (B := up B 20 sn) (w := 0) (d := 1 + (sn.getD 0 0 / 2)) (lo := 1) (hi := 9) hl2 hsn rfl hsn z21 hcust (by decide) (by decide)
  · refine ⟨v, sn, s9, b21, ?_, ?_, hsn, e3, e4, e5⟩
    · unfold gX1_askLaw
      rw [bd_lf0 _ hg1]
      simp only [jn_eq]
      rw [if_neg (show ¬ nI 1 = (0 : Int32) by decide), bd_lf0 _ hg2, if_neg (show ¬ nI 1 = (0 : Int32) by decide), bd_some g1]
      exact e1
    · unfold gX11_tiesOf
      rw [bd_some g2, bd_la0 _ (by rw [up_same, hsn]; decide) (by rw [up_same, hsn]; decide), up_same, nz_fn (show ¬ (2 : Int32) = 0 by decide)]
      have e2' : gX11_lawTells 0 (1 + sn.getD 0 0 / 2) 1 9 (up B 20 sn) = some (v, up (up B 20 sn) 21 b21) := e2
      rw [bd_some e2']; rfl
theorem ask_slips {H B : Bk} {th np nc nt t c : Nat} {ks : Nat → List Nat} {wh : Nat → Nat} (h : HR H B th np nc nt ks wh) (ht : t < nt) (hc : c < nc) (hwt : wh t = c + 1) : ∃ v s35 s9 b21, gX1_askLaw (nI 1) (nI t) (nI c) H = some (v, up (up H 35 s35) 9 s9) ∧ gX11_slipsOf (nI t) B = some (v, up (up B 20 s35) 21 b21) ∧ s35.length = 9 ∧ s9.length = 400 ∧ b21.length = 420 ∧ 0 ≤ v ∧ v ≤ 1000 := by
  obtain ⟨sn, hsn, g1, g2⟩ := see_asks h ht hc
  obtain ⟨⟨l0, -⟩, ⟨hn1, hn2, hn3, hn4⟩, ⟨p1, p2, p3, p4, p5, p6⟩, -, -, -, -, -, -, ⟨k1, k2, k3⟩⟩ := HR_W h
  obtain ⟨-, -, -, -, hlaw, -, -, -, z35, z20, z21⟩ := h
  have hg1 : gX9_hasThing (nI t) (fun i => H (rh12 i)) = some (nI 1, fun i => H (rh12 i)) := t_hasThing (W := fun i => H (rh12 i)) l0 p6 ht (by omega)
  have hg2 : gX9_hasCloth (nI c) (fun i => H (rh12 i)) = some (nI 1, fun i => H (rh12 i)) := t_hasCloth (W := fun i => H (rh12 i)) l0 p5 hc (by omega)
  have hl2 : RLaw (fun i => up H 35 sn (3 + i)) (up B 20 sn 9) (up B 20 sn 10) (up B 20 sn 11) (up B 20 sn 12) (up B 20 sn 13) (up B 20 sn 14) (up B 20 sn 15) := hlaw
  have hcust : ∀ s9, gX1_customary (nI 1) (up (up H 35 sn) 9 s9) = some (900 - 100 * sn.getD 1 0, up (up H 35 sn) 9 s9) := fun s9 => by
    show gX1_customary (nI 1) _ = _
    rw [cust_1, show (1 : Int32) = nI 1 from rfl, bd_la _ (by rw [up_ne _ _ (by decide), up_same, hsn]; decide) (by rw [up_ne _ _ (by decide), up_same, hsn]; decide), up_ne _ _ (by decide), up_same]; rfl
  obtain ⟨v, s9, b21, e1, e2, e3, e4, e5⟩ := tail_eq (H := up H 35 sn) (B := up B 20 sn) (w := 1) (d := 900 - 100 * sn.getD 1 0) (lo := 0) (hi := 1000) hl2 hsn rfl hsn z21 hcust (by decide) (by decide)
  · refine ⟨v, sn, s9, b21, ?_, ?_, hsn, e3, e4, e5⟩
    · unfold gX1_askLaw
      rw [bd_lf0 _ hg1]
      simp only [jn_eq]
      rw [if_neg (show ¬ nI 1 = (0 : Int32) by decide), bd_lf0 _ hg2, if_neg (show ¬ nI 1 = (0 : Int32) by decide), bd_some g1]
      exact e1
    · unfold gX11_slipsOf
      have b2 := (k2 t ht).2.1
      rw [hwt] at b2
      have ei : gX11_inCloth (nI t) B = some (nI c, B) := by
        unfold gX11_inCloth
        simp (disch := first | omega | (simp only [up_ap, List.length_set, Nat.reduceEqDiff, reduceIte]; omega)) only [bd_pr, pr_ap, jn_eq, lt_eq, bd_bd, bd_ite, ite_ap, bd_ld, bd_sv, bd_la, bd_sa, bd_ln, bd_rz0, bd_rz1, rz_n0, rz_n1, e_lit2, nI_z, nI_eq0, nI_0eq, nI_le0, nI_lt0, nI_0lt, nI_0le, e_001, e_n10, e_n1lt, bd_la0, bd_sa0, bd_rz00, rz_0, rz_1, b2i_0, Int32.add_zero, Int32.zero_add, nI_add, nI_pred2, pk_sub, pk_mul, pk_div, e_nz, nI_eq, nI_leI, nI_ltI, e_nm1, e_nm2, up_ap, gd_set_ne, gd_set_same, List.length_set, Nat.add_sub_cancel, Nat.reduceEqDiff, Nat.reduceAdd, Nat.reduceMul, Nat.reduceSub, Nat.reduceLT, Nat.reduceLeDiff, reduceIte, Nat.not_lt_zero, not_true_eq_false, not_false_eq_true, and_true, true_and, and_false, false_and, b2]
      rw [bd_some ei]
      have i1 : bd (la 20 1) (fun v3 => bd (gX11_lawTells 1 (900 - (100 * v3)) 0 1000) fun r4 => pr r4) (up B 20 sn) = bd (gX11_lawTells 1 (900 - (100 * sn.getD 1 0)) 0 1000) (fun r4 => pr r4) (up B 20 sn) := bd_la (j := 1) _ (by rw [up_same, hsn]; decide) (by rw [up_same, hsn]; decide)
      have e2' : gX11_lawTells 1 (900 - (100 * sn.getD 1 0)) 0 1000 (up B 20 sn) = some (v, up (up B 20 sn) 21 b21) := e2
      rw [bd_some g2, i1, bd_some e2']; rfl
theorem ask_tells {H B : Bk} {th np nc nt t c : Nat} {ks : Nat → List Nat} {wh : Nat → Nat} (h : HR H B th np nc nt ks wh) (ht : t < nt) (hc : c < nc) (hwt : wh t = c + 1) : ∃ v s35 s9 b21, gX1_askLaw (nI 2) (nI t) (nI c) H = some (v, up (up H 35 s35) 9 s9) ∧ gX11_tellsOf (nI t) B = some (v, up (up B 20 s35) 21 b21) ∧ s35.length = 9 ∧ s9.length = 400 ∧ b21.length = 420 ∧ 0 ≤ v ∧ v ≤ 1000 := by
  obtain ⟨sn, hsn, g1, g2⟩ := see_asks h ht hc
  obtain ⟨⟨l0, -⟩, ⟨hn1, hn2, hn3, hn4⟩, ⟨p1, p2, p3, p4, p5, p6⟩, -, -, -, -, -, -, ⟨k1, k2, k3⟩⟩ := HR_W h
  obtain ⟨-, -, -, -, hlaw, -, -, -, z35, z20, z21⟩ := h
  have hg1 : gX9_hasThing (nI t) (fun i => H (rh12 i)) = some (nI 1, fun i => H (rh12 i)) := t_hasThing (W := fun i => H (rh12 i)) l0 p6 ht (by omega)
  have hg2 : gX9_hasCloth (nI c) (fun i => H (rh12 i)) = some (nI 1, fun i => H (rh12 i)) := t_hasCloth (W := fun i => H (rh12 i)) l0 p5 hc (by omega)
  have hl2 : RLaw (fun i => up H 35 sn (3 + i)) (up B 20 sn 9) (up B 20 sn 10) (up B 20 sn 11) (up B 20 sn 12) (up B 20 sn 13) (up B 20 sn 14) (up B 20 sn 15) := hlaw
  have hcust : ∀ s9, gX1_customary (nI 2) (up (up H 35 sn) 9 s9) = some (300 * sn.getD 4 0 + 50 * sn.getD 0 0, up (up H 35 sn) 9 s9) := fun s9 => by
    show gX1_customary (nI 2) _ = _
    rw [cust_2, show (4 : Int32) = nI 4 from rfl, bd_la _ (by rw [up_ne _ _ (by decide), up_same, hsn]; decide) (by rw [up_ne _ _ (by decide), up_same, hsn]; decide), up_ne _ _ (by decide), up_same, bd_la0 _ (by rw [up_ne _ _ (by decide), up_same, hsn]; decide) (by rw [up_ne _ _ (by decide), up_same, hsn]; decide), up_ne _ _ (by decide), up_same]; rfl
  obtain ⟨v, s9, b21, e1, e2, e3, e4, e5⟩ := tail_eq (H := up H 35 sn) (B := up B 20 sn) (w := 2) (d := 300 * sn.getD 4 0 + 50 * sn.getD 0 0) (lo := 0) (hi := 1000) hl2 hsn rfl hsn z21 hcust (by decide) (by decide)
  · refine ⟨v, sn, s9, b21, ?_, ?_, hsn, e3, e4, e5⟩
    · unfold gX1_askLaw
      rw [bd_lf0 _ hg1]
      simp only [jn_eq]
      rw [if_neg (show ¬ nI 1 = (0 : Int32) by decide), bd_lf0 _ hg2, if_neg (show ¬ nI 1 = (0 : Int32) by decide), bd_some g1]
      exact e1
    · unfold gX11_tellsOf
      have b2 := (k2 t ht).2.1
      rw [hwt] at b2
      have ei : gX11_inCloth (nI t) B = some (nI c, B) := by
        unfold gX11_inCloth
        simp (disch := first | omega | (simp only [up_ap, List.length_set, Nat.reduceEqDiff, reduceIte]; omega)) only [bd_pr, pr_ap, jn_eq, lt_eq, bd_bd, bd_ite, ite_ap, bd_ld, bd_sv, bd_la, bd_sa, bd_ln, bd_rz0, bd_rz1, rz_n0, rz_n1, e_lit2, nI_z, nI_eq0, nI_0eq, nI_le0, nI_lt0, nI_0lt, nI_0le, e_001, e_n10, e_n1lt, bd_la0, bd_sa0, bd_rz00, rz_0, rz_1, b2i_0, Int32.add_zero, Int32.zero_add, nI_add, nI_pred2, pk_sub, pk_mul, pk_div, e_nz, nI_eq, nI_leI, nI_ltI, e_nm1, e_nm2, up_ap, gd_set_ne, gd_set_same, List.length_set, Nat.add_sub_cancel, Nat.reduceEqDiff, Nat.reduceAdd, Nat.reduceMul, Nat.reduceSub, Nat.reduceLT, Nat.reduceLeDiff, reduceIte, Nat.not_lt_zero, not_true_eq_false, not_false_eq_true, and_true, true_and, and_false, false_and, b2]
      rw [bd_some ei]
      have i1 : bd (la 20 4) (fun v3 => bd (la 20 0) fun v4 => bd (gX11_lawTells 2 ((300 * v3) + (50 * v4)) 0 1000) fun r5 => pr r5) (up B 20 sn) = bd (gX11_lawTells 2 ((300 * sn.getD 4 0) + (50 * sn.getD 0 0)) 0 1000) (fun r5 => pr r5) (up B 20 sn) := by
        rw [show (4 : Int32) = nI 4 from rfl, bd_la _ (by rw [up_same, hsn]; decide) (by rw [up_same, hsn]; decide), up_same, bd_la0 _ (by rw [up_same, hsn]; decide) (by rw [up_same, hsn]; decide), up_same]
      have e2' : gX11_lawTells 2 ((300 * sn.getD 4 0) + (50 * sn.getD 0 0)) 0 1000 (up B 20 sn) = some (v, up (up B 20 sn) 21 b21) := e2
      rw [bd_some g2, i1, bd_some e2']; rfl
