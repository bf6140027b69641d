/-! PURE: book, look, fault, end, feed -/
set_option maxHeartbeats 400000 in
theorem op_book {A B : Bk} (h : R A B) (x y : Int32) : ∃ r A' B', gX10_book x y A = some (r, A') ∧ gX11_book x y B = some (r, B') ∧ R A' B' := by
  have hb0 := R_B0 h
  have hRt := R_told h
  obtain ⟨B0, hB0⟩ : ∃ z, z = up B 0 ((B 0).set 0 0) := ⟨_, rfl⟩
  rw [← hB0] at hRt
  have z0 := R_B0 hRt
  obtain ⟨⟨np, nc, nt, ks, wh, hH, hU⟩, hT, hI, hA, hB⟩ := id hRt
  obtain ⟨hW, hw0⟩ := R_W hH
  obtain ⟨hl, ⟨hn1, hn2, hn3, hn4⟩, ⟨p1, p2, p3, p4, p5, p6⟩, he, ⟨s1, s2, s3, s4, s5, s6, s7⟩, hod, ho, hd, hw, ⟨k1, k2, k3⟩⟩ := id hW
  obtain ⟨l0, l1, l2, l3, l4, l5, l6, l7, l8, l9, l10, l11, l12⟩ := id hl
  have b6 : (B0 0).getD 6 0 = nI np := hH.1.2.2.2.1.2.2.1
  have b7 : (B0 0).getD 7 0 = nI nc := hH.1.2.2.2.1.2.2.2.1
  have b8 : (B0 0).getD 8 0 = nI nt := hH.1.2.2.2.1.2.2.2.2
  have m4 : (B0 4).length = 20 := by rw [← hod.1]; exact l8
  have m5 : (B0 5).length = 20 := by rw [← hod.2]; exact l9
  obtain ⟨ln, hln, eln⟩ := he
  have p3' : (A 2).getD 3 0 = nI ln := by
    have : (A 2).getD 3 0 = (B0 1).getD 2 0 := p3
    rw [this]; exact eln
  have l0' : (A 2).length = 19 := l0
  have hbk : A 16 = B0 6 ∧ (B0 6).length = 600 := hH.1.2.2.1
  have m16 : (A 16).length = 600 := by rw [hbk.1]; exact hbk.2
  by_cases hx : 0 ≤ x ∧ x ≤ nI ln - 1
  · have hx' : 0 ≤ x ∧ x < nI ln := by
      rcases Nat.lt_or_ge 0 ln with q | q
      · obtain ⟨m, rfl⟩ : ∃ m, ln = m + 1 := ⟨ln - 1, by omega⟩
        have : nI (m + 1) - 1 = nI m := nI_pred m
        rw [this] at hx
        exact ⟨hx.1, Int32.lt_of_le_of_lt hx.2 (nI_lt (by omega) (by omega))⟩
      · have : ln = 0 := by omega
        subst this
        exact absurd (Int32.le_trans hx.1 hx.2) (by decide)
    obtain ⟨i, hi, rfl⟩ := in_rng (by omega) hx'
    by_cases hy : 0 ≤ y ∧ y ≤ nI 3
    · obtain ⟨k, hk, rfl⟩ := wi_rng (n := 3) (by decide) hy
      have e4 : i * 4 = 4 * i := Nat.mul_comm _ _
      have g1 : gX0_read (nI i) (nI k) (fun j => A (rh30 j)) = some ((B0 6).getD (4 * i + k) 0, fun j => A (rh30 j)) := by
        unfold gX0_read
        rw [bd_iw, b2i_t (show (0 : Int32) ≤ nI i ∧ nI i ≤ 149 from ⟨nI_pos' (by omega), nI_le (b := 149) (by omega) (by decide)⟩)]
        simp only [jn_eq]
        rw [if_neg (by decide), bd_iw, b2i_t (show (0 : Int32) ≤ nI k ∧ nI k ≤ 3 from hy), if_neg (by decide)]
        rw [show nI i * (4 : Int32) + nI k = nI (4 * i + k) by rw [show (4 : Int32) = nI 4 from rfl, pk_mul, nI_add, e4]]
        have hl : 4 * i + k < ((fun j => A (rh30 j)) 1).length := by
          show 4 * i + k < (A 16).length
          omega
        rw [bd_la (A := fun j => A (rh30 j)) (i := 1) _ hl (by show (A 16).length < 2 ^ 31; omega)]
        have e : ((fun j => A (rh30 j)) 1).getD (4 * i + k) 0 = (B0 6).getD (4 * i + k) 0 := by
          show (A 16).getD _ 0 = _
          rw [hbk.1]
        rw [e]; rfl
      refine ⟨(B0 6).getD (4 * i + k) 0, A, B0, ?_, ?_, hRt⟩
      · unfold gX10_book
        rw [bd_ld _ (by omega), p3', bd_iw, b2i_t hx]
        simp only [jn_eq]
        rw [if_neg (by decide), bd_iw, b2i_t (show (0 : Int32) ≤ nI k ∧ nI k ≤ 3 from hy), if_neg (by decide), bd_lf0 _ g1]; rfl
      · unfold gX11_book
        rw [told0 _ hb0, ← hB0, show (2 : Int32) = nI 2 from rfl, bd_la _ (by omega) (by omega), eln, bd_in, b2i_t hx]
        simp only [jn_eq]
        rw [if_neg (by decide), bd_in, b2i_t (show (0 : Int32) ≤ nI k ∧ nI k ≤ 3 from hy), if_neg (by decide)]
        have hb6 := hbk.2
        simp (disch := first | omega | (simp only [up_ap, List.length_set, Nat.reduceEqDiff, reduceIte] <;> omega)) only [Int32.le_refl, bd_pr, pr_ap, jn_eq, lt_eq, bd_bd, bd_ite, ite_ap, bd_ld, bd_sv, bd_la, bd_sa, bd_ln, bd_rz0, bd_rz1, rz_n0, rz_n1, e_lit2, nI_z, nI_eq0, nI_0eq, nI_le0, nI_lt0, nI_0lt, nI_0le, e_001, e_n10, e_n1lt, bd_la0, bd_sa0, bd_rz00, rz_0, rz_1, b2i_0, Int32.add_zero, Int32.zero_add, nI_add, nI_pred2, pk_sub, pk_mul, pk_div, e_nz, nI_eq, nI_leI, nI_ltI, e_nm1, e_nm2, up_ap, gd_set_ne, gd_set_same, List.length_set, Nat.add_sub_cancel, Nat.reduceEqDiff, Nat.reduceAdd, Nat.reduceMul, Nat.reduceSub, Nat.reduceLT, Nat.reduceLeDiff, reduceIte, Nat.not_lt_zero, not_true_eq_false, not_false_eq_true, and_true, true_and, and_false, false_and]
    · refine ⟨-nI 2, A, B0, ?_, ?_, hRt⟩
      · unfold gX10_book
        rw [bd_ld _ (by omega), p3', bd_iw, b2i_t hx]
        simp only [jn_eq]
        rw [if_neg (by decide), bd_iw, b2i_f (show ¬ ((0 : Int32) ≤ y ∧ y ≤ 3) from hy)]; rfl
      · unfold gX11_book
        rw [told0 _ hb0, ← hB0, show (2 : Int32) = nI 2 from rfl, bd_la _ (by omega) (by omega), eln, bd_in, b2i_t hx]
        simp only [jn_eq]
        rw [if_neg (by decide), bd_in, b2i_f (show ¬ ((0 : Int32) ≤ y ∧ y ≤ 3) from hy)]; rfl
  · refine ⟨-nI 2, A, B0, ?_, ?_, hRt⟩
    · unfold gX10_book
      rw [bd_ld _ (by omega), p3', bd_iw, b2i_f hx]; rfl
    · unfold gX11_book
      rw [told0 _ hb0, ← hB0, show (2 : Int32) = nI 2 from rfl, bd_la _ (by omega) (by omega), eln, bd_in, b2i_f hx]; rfl
theorem swl_c {α : Type} {x : Int32} {k : Nat} {K D : MM α} {L : List (Int × MM α)} (hk : k < 2 ^ 31) : swl x (((k : Int), K) :: L) D = if x = nI k then K else swl x L D := by
  show (if x.toInt = (k : Int) then K else swl x L D) = _
  by_cases h : x = nI k
  · rw [if_pos h, if_pos (by rw [h, nI_toInt hk])]
  · rw [if_neg h, if_neg (fun q => h (Int32.toInt_inj.mp (by rw [q, nI_toInt hk])))]
set_option maxHeartbeats 400000 in
theorem op_fault {A B : Bk} (h : R A B) (x : Int32) : ∃ r A' B', gX10_fault x A = some (r, A') ∧ gX11_fault x B = some (r, B') ∧ R A' B' := by
  have hb0 := R_B0 h
  have hRt := R_told h
  obtain ⟨B0, hB0⟩ : ∃ z, z = up B 0 ((B 0).set 0 0) := ⟨_, rfl⟩
  rw [← hB0] at hRt
  have z0 := R_B0 hRt
  obtain ⟨⟨np, nc, nt, ks, wh, hH, hU⟩, hT, hI, hA, hB⟩ := id hRt
  obtain ⟨hW, hw0⟩ := R_W hH
  obtain ⟨hl, ⟨hn1, hn2, hn3, hn4⟩, ⟨p1, p2, p3, p4, p5, p6⟩, he, ⟨s1, s2, s3, s4, s5, s6, s7⟩, hod, ho, hd, hw, ⟨k1, k2, k3⟩⟩ := id hW
  obtain ⟨l0, l1, l2, l3, l4, l5, l6, l7, l8, l9, l10, l11, l12⟩ := id hl
  have b6 : (B0 0).getD 6 0 = nI np := hH.1.2.2.2.1.2.2.1
  have b7 : (B0 0).getD 7 0 = nI nc := hH.1.2.2.2.1.2.2.2.1
  have b8 : (B0 0).getD 8 0 = nI nt := hH.1.2.2.2.1.2.2.2.2
  have m4 : (B0 4).length = 20 := by rw [← hod.1]; exact l8
  have m5 : (B0 5).length = 20 := by rw [← hod.2]; exact l9
  obtain ⟨t1, t2, t3, t4, t5, -⟩ := id hT
  have hsw : gX10_fault x = if x = nI 0 then (bd (ld 113 6) fun v1 => pr v1) else if x = nI 1 then (bd (ld 113 7) fun v2 => pr v2) else pr (-1) := by
    have e0 := swl_c (α := Int32) (x := x) (k := 0) (K := bd (ld 113 6) fun v1 => pr v1) (D := pr (-1)) (L := [((1 : Int), bd (ld 113 7) fun v2 => pr v2)]) (by decide)
    have e1 := swl_c (α := Int32) (x := x) (k := 1) (K := bd (ld 113 7) fun v2 => pr v2) (D := pr (-1)) (L := []) (by decide)
    exact e0.trans (by rw [show swl x [((1 : Int), bd (ld 113 7) fun v2 => pr v2)] (pr (-1)) = _ from e1]; rfl)
  by_cases h0 : x = 0
  · refine ⟨(B0 0).getD 33 0, A, B0, ?_, ?_, hRt⟩
    · rw [hsw, if_pos (show x = nI 0 from h0), bd_ld _ (by omega), t4]; rfl
    · unfold gX11_fault
      rw [told0 _ hb0, ← hB0]
      simp only [jn_eq]
      rw [if_pos h0, bd_ld _ (by omega)]; rfl
  · by_cases h1 : x = nI 1
    · refine ⟨(B0 0).getD 34 0, A, B0, ?_, ?_, hRt⟩
      · rw [hsw, if_neg (show ¬ x = nI 0 from h0), if_pos h1, bd_ld _ (by omega), t5]; rfl
      · unfold gX11_fault
        rw [told0 _ hb0, ← hB0]
        simp only [jn_eq]
        rw [if_neg h0, if_pos (show x = 1 from h1), bd_ld _ (by omega)]; rfl
    · refine ⟨-1, A, B0, ?_, ?_, hRt⟩
      · rw [hsw, if_neg (show ¬ x = nI 0 from h0), if_neg h1]; rfl
      · unfold gX11_fault
        rw [told0 _ hb0, ← hB0]
        simp only [jn_eq]
        rw [if_neg h0, if_neg (show ¬ x = 1 from h1)]; rfl
/-- the tape alone has changed -/
theorem R_TP {A A' B B' : Bk} (h : R A B) (x1 : ∀ j, j < 211 → j ≠ 113 → j ≠ 114 → A' j = A j) (x3 : ∀ i, i < 38 → i ≠ 0 → i ≠ 7 → B' i = B i) (x0 : (B' 0).length = (B 0).length) (x5 : ∀ k, k ∈ [3, 5, 6, 7, 8, 35, 37, 39, 43, 52, 54, 57, 61, 65] → (B' 0).getD k 0 = (B 0).getD k 0) (l113 : (A' 113).length = (A 113).length) (l114 : (A' 114).length = (A 114).length) (ht : TP A' B') : R A' B' := by
  obtain ⟨⟨np, nc, nt, ks, wh, hH, hU⟩, hT, hI, hA, hB⟩ := h
  have hc : ∀ i, i ∈ cBl → i < 38 ∧ i ≠ 0 ∧ i ≠ 7 := by decide
  have hs : ∀ k, k ∈ sBl → k ∈ [3, 5, 6, 7, 8, 35, 37, 39, 43, 52, 54, 57, 61, 65] := by decide
  have hv : ∀ i, i < 49 → rh24 i < 99 := by decide +kernel
  have e : ∀ i, i < 49 → A' (rh24 i) = A (rh24 i) := fun i hi => x1 _ (by have := hv i hi; omega) (by have := hv i hi; omega) (by have := hv i hi; omega)
  have hE : HE (fun i => A (rh24 i)) (fun i => A' (rh24 i)) B B' := ⟨fun i hi _ _ => e i hi, by show (A' (rh24 9)).length = _; rw [e 9 (by decide)], by show (A' (rh24 35)).length = _; rw [e 35 (by decide)], fun i hi => x3 i (hc i hi).1 (hc i hi).2.1 (hc i hi).2.2, by rw [x3 20 (by decide) (by decide) (by decide)], by rw [x3 21 (by decide) (by decide) (by decide)], x0, fun k hk => x5 k (hs k hk)⟩
  refine ⟨⟨np, nc, nt, ks, wh, HH_HE hH hE, UD_congr hU (by rw [x1 0 (by decide) (by decide) (by decide)]) (by rw [x1 0 (by decide) (by decide) (by decide)]) (x1 112 (by decide) (by decide) (by decide)) (fun j h1 h2 => x1 j h2 (by omega) (by omega)) (x3 2 (by decide) (by decide) (by decide)) (x3 4 (by decide) (by decide) (by decide)) (x3 5 (by decide) (by decide) (by decide)) (x5 3 (by decide))⟩, ht, ?_, ?_, ?_⟩
  · exact IM_congr hI (by rw [x1 0 (by decide) (by decide) (by decide)]) (fun j h1 h2 => x1 j (by omega) (by omega) (by omega)) (x3 37 (by decide) (by decide) (by decide)) (x5 65 (by decide))
  · exact SCA_congr hA (fun j h1 h2 => by
      by_cases q : j = 113
      · subst q; exact l113
      · by_cases q2 : j = 114
        · subst q2; exact l114
        · rw [x1 j (by omega) q q2]) (by rw [x1 99 (by decide) (by decide) (by decide)])
  · have hz : ∀ j, j ∈ [3, 16, 23, 24, 25, 26, 27, 28, 31, 34, 36] → j < 38 ∧ j ≠ 0 ∧ j ≠ 7 := by decide
    exact SCB_congr hB (fun j hj => by rw [x3 j (hz j hj).1 (hz j hj).2.1 (hz j hj).2.2]) (x3 8 (by decide) (by decide) (by decide)) (x3 33 (by decide) (by decide) (by decide))
set_option maxHeartbeats 400000 in
theorem op_end {A B : Bk} (h : R A B) (x : Int32) : ∃ r A' B', gX10_end x A = some (r, A') ∧ gX11_end x B = some (r, B') ∧ R A' B' := by
  have hb0 := R_B0 h
  have hRt := R_told h
  obtain ⟨B0, hB0⟩ : ∃ z, z = up B 0 ((B 0).set 0 0) := ⟨_, rfl⟩
  rw [← hB0] at hRt
  have z0 := R_B0 hRt
  obtain ⟨⟨np, nc, nt, ks, wh, hH, hU⟩, hT, hI, hA, hB⟩ := id hRt
  obtain ⟨hW, hw0⟩ := R_W hH
  obtain ⟨hl, ⟨hn1, hn2, hn3, hn4⟩, ⟨p1, p2, p3, p4, p5, p6⟩, he, ⟨s1, s2, s3, s4, s5, s6, s7⟩, hod, ho, hd, hw, ⟨k1, k2, k3⟩⟩ := id hW
  obtain ⟨l0, l1, l2, l3, l4, l5, l6, l7, l8, l9, l10, l11, l12⟩ := id hl
  have b6 : (B0 0).getD 6 0 = nI np := hH.1.2.2.2.1.2.2.1
  have b7 : (B0 0).getD 7 0 = nI nc := hH.1.2.2.2.1.2.2.2.1
  have b8 : (B0 0).getD 8 0 = nI nt := hH.1.2.2.2.1.2.2.2.2
  have m4 : (B0 4).length = 20 := by rw [← hod.1]; exact l8
  have m5 : (B0 5).length = 20 := by rw [← hod.2]; exact l9
  obtain ⟨t1, t2, t3, t4, t5, n, hn, t6, t7, t8⟩ := id hT
  by_cases hx : 0 ≤ x ∧ x ≤ nI n
  · obtain ⟨m, hm, rfl⟩ := wi_rng (by omega) hx
    refine ⟨nI 1, up A 113 ((A 113).set 0 (nI m)), up B0 0 ((B0 0).set 13 (nI m)), ?_, ?_, ?_⟩
    · unfold gX10_end
      rw [bd_ld _ (by omega), t6, bd_iw, b2i_t hx, if_neg (by decide)]
      simp (disch := first | omega | (simp only [up_ap, List.length_set, Nat.reduceEqDiff, reduceIte] <;> omega)) only [Int32.le_refl, bd_pr, pr_ap, jn_eq, lt_eq, bd_bd, bd_ite, ite_ap, bd_ld, bd_sv, bd_la, bd_sa, bd_ln, bd_rz0, bd_rz1, rz_n0, rz_n1, e_lit2, nI_z, nI_eq0, nI_0eq, nI_le0, nI_lt0, nI_0lt, nI_0le, e_001, e_n10, e_n1lt, bd_la0, bd_sa0, bd_rz00, rz_0, rz_1, b2i_0, Int32.add_zero, Int32.zero_add, nI_add, nI_pred2, pk_sub, pk_mul, pk_div, e_nz, nI_eq, nI_leI, nI_ltI, e_nm1, e_nm2, up_ap, gd_set_ne, gd_set_same, List.length_set, Nat.add_sub_cancel, Nat.reduceEqDiff, Nat.reduceAdd, Nat.reduceMul, Nat.reduceSub, Nat.reduceLT, Nat.reduceLeDiff, reduceIte, Nat.not_lt_zero, not_true_eq_false, not_false_eq_true, and_true, true_and, and_false, false_and]
    · unfold gX11_end
      rw [told0 _ hb0, ← hB0, bd_ld _ (by omega), t7, bd_in, b2i_t hx, if_neg (by decide)]
      simp (disch := first | omega | (simp only [up_ap, List.length_set, Nat.reduceEqDiff, reduceIte] <;> omega)) only [Int32.le_refl, bd_pr, pr_ap, jn_eq, lt_eq, bd_bd, bd_ite, ite_ap, bd_ld, bd_sv, bd_la, bd_sa, bd_ln, bd_rz0, bd_rz1, rz_n0, rz_n1, e_lit2, nI_z, nI_eq0, nI_0eq, nI_le0, nI_lt0, nI_0lt, nI_0le, e_001, e_n10, e_n1lt, bd_la0, bd_sa0, bd_rz00, rz_0, rz_1, b2i_0, Int32.add_zero, Int32.zero_add, nI_add, nI_pred2, pk_sub, pk_mul, pk_div, e_nz, nI_eq, nI_leI, nI_ltI, e_nm1, e_nm2, up_ap, gd_set_ne, gd_set_same, List.length_set, Nat.add_sub_cancel, Nat.reduceEqDiff, Nat.reduceAdd, Nat.reduceMul, Nat.reduceSub, Nat.reduceLT, Nat.reduceLeDiff, reduceIte, Nat.not_lt_zero, not_true_eq_false, not_false_eq_true, and_true, true_and, and_false, false_and]
    · refine R_TP hRt (fun j a b c => up_ne _ _ b) (fun i a b c => up_ne _ _ b) (up_len List.length_set 0) (fun k hk => by rw [up_same, gd_set_ne (by rintro rfl; exact absurd hk (by decide))]) (up_len List.length_set 113) (up_len List.length_set 114) ?_
      refine ⟨by rw [up_same, List.length_set]; exact t1, by rw [up_ne _ _ (by decide)]; exact t2, by rw [up_ne _ _ (by decide)]; exact t3, by rw [up_same, up_same, gd_set_ne (by decide), gd_set_ne (by decide)]; exact t4, by rw [up_same, up_same, gd_set_ne (by decide), gd_set_ne (by decide)]; exact t5, m, by omega, by rw [up_same, gd_set_same (by omega)], by rw [up_same, gd_set_same (by omega)], fun i hi => by rw [up_ne _ _ (by decide), up_ne _ _ (by decide)]; exact t8 i (by omega)⟩
  · refine ⟨0, A, B0, ?_, ?_, hRt⟩
    · unfold gX10_end
      rw [bd_ld _ (by omega), t6, bd_iw, b2i_f hx]; rfl
    · unfold gX11_end
      rw [told0 _ hb0, ← hB0, bd_ld _ (by omega), t7, bd_in, b2i_f hx]; rfl
/-- four bytes -/
def tb4 (x : Int32) (n : Nat) (l : List Int32) : Nat → List Int32 := fo (fun i y => y.set (n + i) (ish x (nI (24 - 8 * i)) &&& nI 255)) l
theorem tb4_len (x : Int32) (n : Nat) (l : List Int32) (k : Nat) : (tb4 x n l k).length = l.length := fo_len (fun i y => List.length_set) l k
theorem byte_sh (x : Int32) : ∀ k, k < 4 → ish x (nI (24 - 8 * k)) &&& nI 255 = (x >>> (nI (24 - 8 * k) &&& nI 31)) &&& nI 255 := by
  intro k hk
  apply b_ext
  intro i hi
  rw [b_and, b_and]
  by_cases h8 : i < 8
  · have e1 := b_ushr (24 - 8 * k) (by omega) x i
    have e2 := b_sshr (24 - 8 * k) (by omega) x hi
    rw [if_pos (by omega)] at e2
    rw [show bt (ish x (nI (24 - 8 * k))) i = _ from e1, show bt (x >>> (nI (24 - 8 * k) &&& nI 31)) i = _ from e2]
  · have : bt (nI 255) i = false := by
      have key : ∀ i, i < 32 → 8 ≤ i → bt (nI 255) i = false := by decide +kernel
      exact key i hi (by omega)
    rw [this, Bool.and_false, Bool.and_false]
theorem byte_n (x : Int32) : ∃ b : Nat, b < 256 ∧ x &&& nI 255 = nI b := by
  obtain ⟨j, hj, e⟩ := pk_andE x (m := nI 255) 8 (by decide)
  exact ⟨j, hj, e⟩
theorem tb4_get (x : Int32) (n : Nat) (l : List Int32) (hl : n + 4 ≤ l.length) : ∀ k, k ≤ 4 → ∀ q, (tb4 x n l k).getD q 0 = if n ≤ q ∧ q < n + k then ish x (nI (24 - 8 * (q - n))) &&& nI 255 else l.getD q 0
  | 0, _, q => by rw [if_neg (by omega)]; rfl
  | k + 1, hk, q => by
    have hq := tb4_len x n l k
    show ((tb4 x n l k).set (n + k) (ish x (nI (24 - 8 * k)) &&& nI 255)).getD q 0 = _
    by_cases h1 : q = n + k
    · subst h1
      rw [gd_set_same (by omega), if_pos (by omega), show n + k - n = k by omega]
    · rw [gd_set_ne (fun z => h1 z.symm), tb4_get x n l hl k (by omega)]
      by_cases h2 : n ≤ q ∧ q < n + k
      · rw [if_pos h2, if_pos (by omega)]
      · rw [if_neg h2, if_neg (by omega)]
theorem n8_lt : -nI 8 < 0 := by decide
theorem p_put {T : Bk} {n : Nat} (t0 : (T 0).length = 8) (t1 : (T 1).length = 400) (hn : n + 4 ≤ 400) (e0 : (T 0).getD 0 0 = nI n) (x : Int32) : gX7_put x T = some (0, up (up T 1 (tb4 x n (T 1) 4)) 0 ((T 0).set 0 (nI (n + 4)))) := by
  unfold gX7_put
  refine loopF 4 (fun j => if j = 4 then -nI 8 else nI (24 - 8 * j)) (fun j => up (up T 1 (tb4 x n (T 1) j)) 0 ((T 0).set 0 (nI (n + j)))) rfl ?_ (fun j hj self => ?_) (fun self => ?_) (by omega)
  · show up (up T 1 (T 1)) 0 ((T 0).set 0 (nI (n + 0))) = T
    rw [up_self, Nat.add_zero, set_self e0, up_self]
  · have hl2 := tb4_len x n (T 1) j
    have e : tb4 x n (T 1) (j + 1) = (tb4 x n (T 1) j).set (n + j) (ish x (nI (24 - 8 * j)) &&& nI 255) := rfl
    have hs : ((if j = 4 then -nI 8 else nI (24 - 8 * j)) : Int32) = nI (24 - 8 * j) := if_neg (by omega)
    have hs2 : nI (24 - 8 * j) + -nI 8 = if j + 1 = 4 then -nI 8 else nI (24 - 8 * (j + 1)) := by
      rcases (show j = 0 ∨ j = 1 ∨ j = 2 ∨ j = 3 by omega) with z | z | z | z <;> subst z <;> decide
    have n4 : ¬ 400 ≤ n + j := by omega
    have hsz : (T 0).set 0 (nI (n + (j + 1))) = ((T 0).set 0 (nI (n + j))).set 0 (nI (n + j + 1)) := by rw [List.set_set]; rfl
    rw [hs, e, hsz]
    simp (disch := first | omega | (simp only [up_ap, List.length_set, Nat.reduceEqDiff, reduceIte, hl2] <;> omega)) only [Int32.le_refl, bd_pr, pr_ap, jn_eq, lt_eq, bd_bd, bd_ite, ite_ap, bd_ld, bd_sv, bd_la, bd_sa, bd_ln, bd_rz0, bd_rz1, rz_n0, rz_n1, e_lit2, nI_z, nI_eq0, nI_0eq, nI_le0, nI_lt0, nI_0lt, nI_0le, e_001, e_n10, e_n1lt, bd_la0, bd_sa0, bd_rz00, rz_0, rz_1, b2i_0, Int32.add_zero, Int32.zero_add, nI_add, nI_pred2, pk_sub, pk_mul, pk_div, e_nz, nI_eq, nI_leI, nI_ltI, e_nm1, e_nm2, up_ap, gd_set_ne, gd_set_same, List.length_set, Nat.add_sub_cancel, Nat.reduceEqDiff, Nat.reduceAdd, Nat.reduceMul, Nat.reduceSub, Nat.reduceLT, Nat.reduceLeDiff, reduceIte, Nat.not_lt_zero, not_true_eq_false, not_false_eq_true, and_true, true_and, and_false, false_and, n4, hs2, up_up, e0]
    rw [up_comm _ (i := 0) (j := 1) (by decide), up_up, up_up]
  · rw [if_pos rfl]
    simp only [jn_eq]
    rw [if_pos n8_lt]; rfl
theorem p_types {B : Bk} {n : Nat} (t0 : (B 0).length = 68) (t1 : (B 7).length = 400) (hn : n + 4 ≤ 400) (e0 : (B 0).getD 13 0 = nI n) (x : Int32) : gX11_types x B = some (0, up (up B 7 (tb4 x n (B 7) 4)) 0 ((B 0).set 13 (nI (n + 4)))) := by
  unfold gX11_types
  refine loopF 4 (fun j => if j = 4 then -nI 8 else nI (24 - 8 * j)) (fun j => up (up B 7 (tb4 x n (B 7) j)) 0 ((B 0).set 13 (nI (n + j)))) rfl ?_ (fun j hj self => ?_) (fun self => ?_) (by omega)
  · show up (up B 7 (B 7)) 0 ((B 0).set 13 (nI (n + 0))) = B
    rw [up_self, Nat.add_zero, set_self e0, up_self]
  · have hl2 := tb4_len x n (B 7) j
    have e : tb4 x n (B 7) (j + 1) = (tb4 x n (B 7) j).set (n + j) (ish x (nI (24 - 8 * j)) &&& nI 255) := rfl
    have hs : ((if j = 4 then -nI 8 else nI (24 - 8 * j)) : Int32) = nI (24 - 8 * j) := if_neg (by omega)
    have hs2 : nI (24 - 8 * j) + -nI 8 = if j + 1 = 4 then -nI 8 else nI (24 - 8 * (j + 1)) := by
      rcases (show j = 0 ∨ j = 1 ∨ j = 2 ∨ j = 3 by omega) with z | z | z | z <;> subst z <;> decide
    have hsz : (B 0).set 13 (nI (n + (j + 1))) = ((B 0).set 13 (nI (n + j))).set 13 (nI (n + j + 1)) := by rw [List.set_set]; rfl
    rw [hs, e, hsz, byte_sh x j hj]
    simp (disch := first | omega | (simp only [up_ap, List.length_set, Nat.reduceEqDiff, reduceIte, hl2] <;> omega)) only [Int32.le_refl, bd_pr, pr_ap, jn_eq, lt_eq, bd_bd, bd_ite, ite_ap, bd_ld, bd_sv, bd_la, bd_sa, bd_ln, bd_rz0, bd_rz1, rz_n0, rz_n1, e_lit2, nI_z, nI_eq0, nI_0eq, nI_le0, nI_lt0, nI_0lt, nI_0le, e_001, e_n10, e_n1lt, bd_la0, bd_sa0, bd_rz00, rz_0, rz_1, b2i_0, Int32.add_zero, Int32.zero_add, nI_add, nI_pred2, pk_sub, pk_mul, pk_div, e_nz, nI_eq, nI_leI, nI_ltI, e_nm1, e_nm2, up_ap, gd_set_ne, gd_set_same, List.length_set, Nat.add_sub_cancel, Nat.reduceEqDiff, Nat.reduceAdd, Nat.reduceMul, Nat.reduceSub, Nat.reduceLT, Nat.reduceLeDiff, reduceIte, Nat.not_lt_zero, not_true_eq_false, not_false_eq_true, and_true, true_and, and_false, false_and, hs2, up_up, e0]
    rw [up_comm _ (i := 0) (j := 7) (by decide), up_up, up_up]
  · rw [if_pos rfl, if_pos n8_lt]; rfl
/-- a tape that goes on, four bytes in each -/
theorem TP_four {A B : Bk} {n : Nat} (h : TP A B) (hn : n + 4 ≤ 400) (e0 : (A 113).getD 0 0 = nI n) (hb : (B 0).length = 68) (x : Int32) :
    TP (up (up A 114 (tb4 x n (A 114) 4)) 113 ((A 113).set 0 (nI (n + 4)))) (up (up B 7 (tb4 x n (B 7) 4)) 0 ((B 0).set 13 (nI (n + 4)))) := by
  obtain ⟨t1, t2, t3, t4, t5, n', hn', t6, t7, t8⟩ := h
  have hnn : n = n' := (nI_eq (by omega) (by omega)).mp (e0.symm.trans t6)
  subst hnn
  have h13 : 13 < (B 0).length := by omega
  refine ⟨by rw [up_same, List.length_set]; exact t1, by rw [up_ne _ _ (by decide), up_same, tb4_len]; exact t2, by rw [up_ne _ _ (by decide), up_same, tb4_len]; exact t3, by rw [up_same, up_same, gd_set_ne (by decide), gd_set_ne (by decide)]; exact t4, by rw [up_same, up_same, gd_set_ne (by decide), gd_set_ne (by decide)]; exact t5, n + 4, by omega, by rw [up_same, gd_set_same (by omega)], by rw [up_same, gd_set_same h13], fun i hi => ?_⟩
  rw [up_ne _ _ (by decide), up_same, up_ne _ _ (by decide), up_same, tb4_get x n (A 114) (by omega) 4 (by omega), tb4_get x n (B 7) (by omega) 4 (by omega)]
  by_cases q : n ≤ i ∧ i < n + 4
  · rw [if_pos q, if_pos q]
    exact ⟨rfl, byte_n _⟩
  · rw [if_neg q, if_neg q]
    exact t8 i (by omega)
theorem rh25_inj : ∀ i j, i < 2 → j < 2 → rh25 i = rh25 j → i = j := inj_d (by decide +kernel)
theorem put_h {A B : Bk} {n : Nat} (h : R A B) (hn : n + 4 ≤ 400) (e0 : (A 113).getD 0 0 = nI n) (x : Int32) : ∃ A' B', lf rh25 2 (gX7_put x) A = some (0, A') ∧ gX11_types x B = some (0, B') ∧ R A' B' ∧ (A' 113).getD 0 0 = nI (n + 4) := by
  have hb0 := R_B0 h
  have hT := h.2.1
  obtain ⟨t1, t2, t3, t4, t5, n', hn', t6, t7, t8⟩ := id hT
  have hnn : n = n' := (nI_eq (by omega) (by omega)).mp (e0.symm.trans t6)
  subst hnn
  have g1 := p_put (T := fun i => A (rh25 i)) t1 t2 hn e0 x
  refine ⟨up (up A 114 (tb4 x n (A 114) 4)) 113 ((A 113).set 0 (nI (n + 4))), _, ?_, p_types hb0 t3 hn t7 x, ?_, by rw [up_same, gd_set_same (by omega)]⟩
  · rw [lf_run g1, pu_up rh25_inj (i := 0) (by decide), pu1 rh25_inj (i := 1) (by decide)]; rfl
  · refine R_TP h (fun j a b c => by rw [up_ne _ _ b, up_ne _ _ c]) (fun i a b c => by rw [up_ne _ _ b, up_ne _ _ c]) (by rw [up_same, List.length_set]) (fun k hk => by rw [up_same, gd_set_ne (by rintro rfl; exact absurd hk (by decide))]) (by rw [up_same, List.length_set]) (by rw [up_ne _ _ (by decide), up_same, tb4_len]) (TP_four hT hn e0 hb0 x)
set_option maxHeartbeats 400000 in
theorem op_feed {A B : Bk} (h : R A B) (x1 x2 x3 x4 x5 : Int32) : ∃ r A' B', gX10_feed x1 x2 x3 x4 x5 A = some (r, A') ∧ gX11_feed x1 x2 x3 x4 x5 B = some (r, B') ∧ R A' B' := by
  have hb0 := R_B0 h
  have hRt := R_told h
  obtain ⟨B0, hB0⟩ : ∃ z, z = up B 0 ((B 0).set 0 0) := ⟨_, rfl⟩
  rw [← hB0] at hRt
  have z0 := R_B0 hRt
  obtain ⟨⟨np, nc, nt, ks, wh, hH, hU⟩, hT, hI, hA, hB⟩ := id hRt
  obtain ⟨hW, hw0⟩ := R_W hH
  obtain ⟨hl, ⟨hn1, hn2, hn3, hn4⟩, ⟨p1, p2, p3, p4, p5, p6⟩, he, ⟨s1, s2, s3, s4, s5, s6, s7⟩, hod, ho, hd, hw, ⟨k1, k2, k3⟩⟩ := id hW
  obtain ⟨l0, l1, l2, l3, l4, l5, l6, l7, l8, l9, l10, l11, l12⟩ := id hl
  have b6 : (B0 0).getD 6 0 = nI np := hH.1.2.2.2.1.2.2.1
  have b7 : (B0 0).getD 7 0 = nI nc := hH.1.2.2.2.1.2.2.2.1
  have b8 : (B0 0).getD 8 0 = nI nt := hH.1.2.2.2.1.2.2.2.2
  have m4 : (B0 4).length = 20 := by rw [← hod.1]; exact l8
  have m5 : (B0 5).length = 20 := by rw [← hod.2]; exact l9
  obtain ⟨t1, t2, t3, t4, t5, n, hn, t6, t7, t8⟩ := id hT
  by_cases hf : n ≤ 380
  · obtain ⟨A1, B1, a1, b1, r1, e1⟩ := put_h hRt (by omega) t6 x1
    obtain ⟨A2, B2, a2, b2, r2, e2⟩ := put_h r1 (by omega) e1 x2
    obtain ⟨A3, B3, a3, b3, r3, e3⟩ := put_h r2 (by omega) e2 x3
    obtain ⟨A4, B4, a4, b4, r4, e4⟩ := put_h r3 (by omega) e3 x4
    obtain ⟨A5, B5, a5, b5, r5, e5⟩ := put_h r4 (by omega) e4 x5
    obtain ⟨u1, -, -, -, -, m, hm, u6, u7, -⟩ := r5.2.1
    have hz5 := R_B0 r5
    have hm2 : (B5 0).getD 13 0 = nI (n + 4 + 4 + 4 + 4 + 4) := by rw [u7, ← u6]; exact e5
    have hle : n + 20 ≤ 400 := by omega
    refine ⟨nI (n + 4 + 4 + 4 + 4 + 4), A5, B5, ?_, ?_, r5⟩
    · unfold gX10_feed
      rw [bd_ld _ (by omega), t6, if_pos (show nI n + 20 ≤ 400 from by
        rw [show (20 : Int32) = nI 20 from rfl, nI_add]
        exact nI_le (b := 400) hle (by decide)), bd_some a1, bd_some a2, bd_some a3, bd_some a4, bd_some a5, bd_ld _ (by omega), e5]; rfl
    · unfold gX11_feed
      rw [told0 _ hb0, ← hB0, bd_ld _ (by omega), t7, if_pos (show nI n ≤ 380 from nI_le (b := 380) hf (by decide)), bd_some b1, bd_some b2, bd_some b3, bd_some b4, bd_some b5, bd_ld _ (by omega), hm2]; rfl
  · refine ⟨-1, A, B0, ?_, ?_, hRt⟩
    · unfold gX10_feed
      rw [bd_ld _ (by omega), t6, if_neg (show ¬ nI n + 20 ≤ 400 from by
        rw [show (20 : Int32) = nI 20 from rfl, nI_add]
        exact nI_ge (a := 400) (by omega) (by omega))]; rfl
    · unfold gX11_feed
      rw [told0 _ hb0, ← hB0, bd_ld _ (by omega), t7, if_neg (show ¬ nI n ≤ 380 from nI_ge (a := 380) (by omega) (by omega))]; rfl
theorem p_setThatIs {B : Bk} {nt : Nat} (b0 : (B 0).length = 68) (b8 : (B 0).getD 8 0 = nI nt) (m1 : (B 1).length = 183) (hnt : nt ≤ 20) (x : Int32) : gX11_setThatIs x B = some (fo (fun i a => if (B 1).getD (163 + i) 0 = x then a ||| (nI 1 <<< (nI i &&& nI 31)) else a) 0 nt, B) := by
  unfold gX11_setThatIs
  refine loopF nt (fun j => (fo (fun i a => if (B 1).getD (163 + i) 0 = x then a ||| (nI 1 <<< (nI i &&& nI 31)) else a) 0 j, nI j)) (fun _ => B) rfl rfl (fun j hj self => ?_) (fun self => ?_) (by omega)
  · have n1 : ¬ nt ≤ j := by omega
    have e : fo (fun i a => if (B 1).getD (163 + i) 0 = x then a ||| (nI 1 <<< (nI i &&& nI 31)) else a) 0 (j + 1) = if (B 1).getD (163 + j) 0 = x then fo (fun i a => if (B 1).getD (163 + i) 0 = x then a ||| (nI 1 <<< (nI i &&& nI 31)) else a) 0 j ||| (nI 1 <<< (nI j &&& nI 31)) else fo (fun i a => if (B 1).getD (163 + i) 0 = x then a ||| (nI 1 <<< (nI i &&& nI 31)) else a) 0 j := rfl
    rw [e]
    by_cases hq : (B 1).getD (163 + j) 0 = x
    · rw [if_pos hq]
      simp (disch := first | omega | (simp only [up_ap, List.length_set, Nat.reduceEqDiff, reduceIte] <;> omega)) only [Int32.le_refl, bd_pr, pr_ap, jn_eq, lt_eq, bd_bd, bd_ite, ite_ap, bd_ld, bd_sv, bd_la, bd_sa, bd_ln, bd_rz0, bd_rz1, rz_n0, rz_n1, e_lit2, nI_z, nI_eq0, nI_0eq, nI_le0, nI_lt0, nI_0lt, nI_0le, e_001, e_n10, e_n1lt, bd_la0, bd_sa0, bd_rz00, rz_0, rz_1, b2i_0, Int32.add_zero, Int32.zero_add, nI_add, nI_pred2, pk_sub, pk_mul, pk_div, e_nz, nI_eq, nI_leI, nI_ltI, e_nm1, e_nm2, up_ap, gd_set_ne, gd_set_same, List.length_set, Nat.add_sub_cancel, Nat.reduceEqDiff, Nat.reduceAdd, Nat.reduceMul, Nat.reduceSub, Nat.reduceLT, Nat.reduceLeDiff, reduceIte, Nat.not_lt_zero, not_true_eq_false, not_false_eq_true, and_true, true_and, and_false, false_and, b8, n1, hq]
    · rw [if_neg hq]
      simp (disch := first | omega | (simp only [up_ap, List.length_set, Nat.reduceEqDiff, reduceIte] <;> omega)) only [Int32.le_refl, bd_pr, pr_ap, jn_eq, lt_eq, bd_bd, bd_ite, ite_ap, bd_ld, bd_sv, bd_la, bd_sa, bd_ln, bd_rz0, bd_rz1, rz_n0, rz_n1, e_lit2, nI_z, nI_eq0, nI_0eq, nI_le0, nI_lt0, nI_0lt, nI_0le, e_001, e_n10, e_n1lt, bd_la0, bd_sa0, bd_rz00, rz_0, rz_1, b2i_0, Int32.add_zero, Int32.zero_add, nI_add, nI_pred2, pk_sub, pk_mul, pk_div, e_nz, nI_eq, nI_leI, nI_ltI, e_nm1, e_nm2, up_ap, gd_set_ne, gd_set_same, List.length_set, Nat.add_sub_cancel, Nat.reduceEqDiff, Nat.reduceAdd, Nat.reduceMul, Nat.reduceSub, Nat.reduceLT, Nat.reduceLeDiff, reduceIte, Nat.not_lt_zero, not_true_eq_false, not_false_eq_true, and_true, true_and, and_false, false_and, b8, n1, hq]
  · simp (disch := first | omega | (simp only [up_ap, List.length_set, Nat.reduceEqDiff, reduceIte] <;> omega)) only [Int32.le_refl, bd_pr, pr_ap, jn_eq, lt_eq, bd_bd, bd_ite, ite_ap, bd_ld, bd_sv, bd_la, bd_sa, bd_ln, bd_rz0, bd_rz1, rz_n0, rz_n1, e_lit2, nI_z, nI_eq0, nI_0eq, nI_le0, nI_lt0, nI_0lt, nI_0le, e_001, e_n10, e_n1lt, bd_la0, bd_sa0, bd_rz00, rz_0, rz_1, b2i_0, Int32.add_zero, Int32.zero_add, nI_add, nI_pred2, pk_sub, pk_mul, pk_div, e_nz, nI_eq, nI_leI, nI_ltI, e_nm1, e_nm2, up_ap, gd_set_ne, gd_set_same, List.length_set, Nat.add_sub_cancel, Nat.reduceEqDiff, Nat.reduceAdd, Nat.reduceMul, Nat.reduceSub, Nat.reduceLT, Nat.reduceLeDiff, reduceIte, Nat.not_lt_zero, not_true_eq_false, not_false_eq_true, and_true, true_and, and_false, false_and, b8, Nat.le_refl]
set_option maxHeartbeats 400000 in
theorem op_look {A B : Bk} (h : R A B) (x : Int32) : ∃ r A' B', gX10_look x A = some (r, A') ∧ gX11_look x B = some (r, B') ∧ R A' B' := by
  have hb0 := R_B0 h
  have hRt := R_told h
  obtain ⟨B0, hB0⟩ : ∃ z, z = up B 0 ((B 0).set 0 0) := ⟨_, rfl⟩
  rw [← hB0] at hRt
  have z0 := R_B0 hRt
  obtain ⟨⟨np, nc, nt, ks, wh, hH, hU⟩, hT, hI, hA, hB⟩ := id hRt
  obtain ⟨hW, hw0⟩ := R_W hH
  obtain ⟨hl, ⟨hn1, hn2, hn3, hn4⟩, ⟨p1, p2, p3, p4, p5, p6⟩, he, ⟨s1, s2, s3, s4, s5, s6, s7⟩, hod, ho, hd, hw, ⟨k1, k2, k3⟩⟩ := id hW
  obtain ⟨l0, l1, l2, l3, l4, l5, l6, l7, l8, l9, l10, l11, l12⟩ := id hl
  have b6 : (B0 0).getD 6 0 = nI np := hH.1.2.2.2.1.2.2.1
  have b7 : (B0 0).getD 7 0 = nI nc := hH.1.2.2.2.1.2.2.2.1
  have b8 : (B0 0).getD 8 0 = nI nt := hH.1.2.2.2.1.2.2.2.2
  have m4 : (B0 4).length = 20 := by rw [← hod.1]; exact l8
  have m5 : (B0 5).length = 20 := by rw [← hod.2]; exact l9
  have l0' : (A 2).length = 19 := l0
  have p1' : (A 2).getD 1 0 = (B0 1).getD 1 0 := p1
  have p2' : (A 2).getD 2 0 = (B0 1).getD 0 0 := p2
  have p3' : (A 2).getD 3 0 = (B0 1).getD 2 0 := p3
  have p4' : (A 2).getD 4 0 = nI np := p4
  have p5' : (A 2).getD 5 0 = nI nc := p5
  have p6' : (A 2).getD 6 0 = nI nt := p6
  obtain ⟨-, hlaw, hdeeds, hminds, hfr, -⟩ := hH.1.2.2.2
  obtain ⟨⟨v0, -⟩, ⟨w9, -⟩, nl, cd, hnl, hcd, e0, e9, -⟩ := hlaw
  have v0 : (A 17).length = 8 := v0
  have e0 : (A 17).getD 0 0 = nI nl := e0
  obtain ⟨⟨d0, -⟩, nd, hnd, ed0, edm, -⟩ := hdeeds
  have d0 : (A 24).length = 5 := d0
  have ed0 : (A 24).getD 0 0 = nI nd := ed0
  obtain ⟨⟨m0, -⟩, nm, hnm, em0, emm, -⟩ := hminds
  have m0 : (A 29).length = 5 := m0
  have em0 : (A 29).getD 0 0 = nI nm := em0
  obtain ⟨⟨f0, -⟩, nf, hnf, ef0, efm, -⟩ := hfr
  have f0 : (A 34).length = 5 := f0
  have ef0 : (A 34).getD 0 0 = nI nf := ef0
  obtain ⟨a0, -, -, u, hu6, e5, e3, -⟩ := hU
  by_cases hy : 0 ≤ x ∧ x ≤ nI 13
  · obtain ⟨k, hk, rfl⟩ := wi_rng (n := 13) (by decide) hy
    have hcl : ∀ {r : Int32} {K : MM Int32} {L : List (MM Int32)} {D : MM Int32}, L.getD k D = K → K A = some (r, A) → swt (nI k) 0 L D A = some (r, A) := fun hL hK => by
      rw [swt_list (by omega), hL]; exact hK
    rcases (show k = 0 ∨ k = 1 ∨ k = 2 ∨ k = 3 ∨ k = 4 ∨ k = 5 ∨ k = 6 ∨ k = 7 ∨ k = 8 ∨ k = 9 ∨ k = 10 ∨ k = 11 ∨ k = 12 ∨ k = 13 by omega) with rfl | rfl | rfl | rfl | rfl | rfl | rfl | rfl | rfl | rfl | rfl | rfl | rfl | rfl
    · refine ⟨nI np, A, B0, ?_, ?_, hRt⟩
      · unfold gX10_look
        refine hcl rfl ?_
        simp (disch := first | omega | (simp only [up_ap, List.length_set, Nat.reduceEqDiff, reduceIte] <;> omega)) only [Int32.le_refl, bd_pr, pr_ap, jn_eq, lt_eq, bd_bd, bd_ite, ite_ap, bd_ld, bd_sv, bd_la, bd_sa, bd_ln, bd_rz0, bd_rz1, rz_n0, rz_n1, e_lit2, nI_z, nI_eq0, nI_0eq, nI_le0, nI_lt0, nI_0lt, nI_0le, e_001, e_n10, e_n1lt, bd_la0, bd_sa0, bd_rz00, rz_0, rz_1, b2i_0, Int32.add_zero, Int32.zero_add, nI_add, nI_pred2, pk_sub, pk_mul, pk_div, e_nz, nI_eq, nI_leI, nI_ltI, e_nm1, e_nm2, up_ap, gd_set_ne, gd_set_same, List.length_set, Nat.add_sub_cancel, Nat.reduceEqDiff, Nat.reduceAdd, Nat.reduceMul, Nat.reduceSub, Nat.reduceLT, Nat.reduceLeDiff, reduceIte, Nat.not_lt_zero, not_true_eq_false, not_false_eq_true, and_true, true_and, and_false, false_and, p4', List.getD_cons_zero, List.getD_cons_succ]
      · unfold gX11_look
        rw [told0 _ hb0, ← hB0]
        simp (disch := first | omega | (simp only [up_ap, List.length_set, Nat.reduceEqDiff, reduceIte] <;> omega)) only [Int32.le_refl, bd_pr, pr_ap, jn_eq, lt_eq, bd_bd, bd_ite, ite_ap, bd_ld, bd_sv, bd_la, bd_sa, bd_ln, bd_rz0, bd_rz1, rz_n0, rz_n1, e_lit2, nI_z, nI_eq0, nI_0eq, nI_le0, nI_lt0, nI_0lt, nI_0le, e_001, e_n10, e_n1lt, bd_la0, bd_sa0, bd_rz00, rz_0, rz_1, b2i_0, Int32.add_zero, Int32.zero_add, nI_add, nI_pred2, pk_sub, pk_mul, pk_div, e_nz, nI_eq, nI_leI, nI_ltI, e_nm1, e_nm2, up_ap, gd_set_ne, gd_set_same, List.length_set, Nat.add_sub_cancel, Nat.reduceEqDiff, Nat.reduceAdd, Nat.reduceMul, Nat.reduceSub, Nat.reduceLT, Nat.reduceLeDiff, reduceIte, Nat.not_lt_zero, not_true_eq_false, not_false_eq_true, and_true, true_and, and_false, false_and, Nat_1_le_0, b6]
    · refine ⟨nI nc, A, B0, ?_, ?_, hRt⟩
      · unfold gX10_look
        refine hcl rfl ?_
        simp (disch := first | omega | (simp only [up_ap, List.length_set, Nat.reduceEqDiff, reduceIte] <;> omega)) only [Int32.le_refl, bd_pr, pr_ap, jn_eq, lt_eq, bd_bd, bd_ite, ite_ap, bd_ld, bd_sv, bd_la, bd_sa, bd_ln, bd_rz0, bd_rz1, rz_n0, rz_n1, e_lit2, nI_z, nI_eq0, nI_0eq, nI_le0, nI_lt0, nI_0lt, nI_0le, e_001, e_n10, e_n1lt, bd_la0, bd_sa0, bd_rz00, rz_0, rz_1, b2i_0, Int32.add_zero, Int32.zero_add, nI_add, nI_pred2, pk_sub, pk_mul, pk_div, e_nz, nI_eq, nI_leI, nI_ltI, e_nm1, e_nm2, up_ap, gd_set_ne, gd_set_same, List.length_set, Nat.add_sub_cancel, Nat.reduceEqDiff, Nat.reduceAdd, Nat.reduceMul, Nat.reduceSub, Nat.reduceLT, Nat.reduceLeDiff, reduceIte, Nat.not_lt_zero, not_true_eq_false, not_false_eq_true, and_true, true_and, and_false, false_and, p5', List.getD_cons_zero, List.getD_cons_succ]
      · unfold gX11_look
        rw [told0 _ hb0, ← hB0]
        simp (disch := first | omega | (simp only [up_ap, List.length_set, Nat.reduceEqDiff, reduceIte] <;> omega)) only [Int32.le_refl, bd_pr, pr_ap, jn_eq, lt_eq, bd_bd, bd_ite, ite_ap, bd_ld, bd_sv, bd_la, bd_sa, bd_ln, bd_rz0, bd_rz1, rz_n0, rz_n1, e_lit2, nI_z, nI_eq0, nI_0eq, nI_le0, nI_lt0, nI_0lt, nI_0le, e_001, e_n10, e_n1lt, bd_la0, bd_sa0, bd_rz00, rz_0, rz_1, b2i_0, Int32.add_zero, Int32.zero_add, nI_add, nI_pred2, pk_sub, pk_mul, pk_div, e_nz, nI_eq, nI_leI, nI_ltI, e_nm1, e_nm2, up_ap, gd_set_ne, gd_set_same, List.length_set, Nat.add_sub_cancel, Nat.reduceEqDiff, Nat.reduceAdd, Nat.reduceMul, Nat.reduceSub, Nat.reduceLT, Nat.reduceLeDiff, reduceIte, Nat.not_lt_zero, not_true_eq_false, not_false_eq_true, and_true, true_and, and_false, false_and, Nat_1_le_0, b7]
    · refine ⟨nI nt, A, B0, ?_, ?_, hRt⟩
      · unfold gX10_look
        refine hcl rfl ?_
        simp (disch := first | omega | (simp only [up_ap, List.length_set, Nat.reduceEqDiff, reduceIte] <;> omega)) only [Int32.le_refl, bd_pr, pr_ap, jn_eq, lt_eq, bd_bd, bd_ite, ite_ap, bd_ld, bd_sv, bd_la, bd_sa, bd_ln, bd_rz0, bd_rz1, rz_n0, rz_n1, e_lit2, nI_z, nI_eq0, nI_0eq, nI_le0, nI_lt0, nI_0lt, nI_0le, e_001, e_n10, e_n1lt, bd_la0, bd_sa0, bd_rz00, rz_0, rz_1, b2i_0, Int32.add_zero, Int32.zero_add, nI_add, nI_pred2, pk_sub, pk_mul, pk_div, e_nz, nI_eq, nI_leI, nI_ltI, e_nm1, e_nm2, up_ap, gd_set_ne, gd_set_same, List.length_set, Nat.add_sub_cancel, Nat.reduceEqDiff, Nat.reduceAdd, Nat.reduceMul, Nat.reduceSub, Nat.reduceLT, Nat.reduceLeDiff, reduceIte, Nat.not_lt_zero, not_true_eq_false, not_false_eq_true, and_true, true_and, and_false, false_and, p6', List.getD_cons_zero, List.getD_cons_succ]
      · unfold gX11_look
        rw [told0 _ hb0, ← hB0]
        simp (disch := first | omega | (simp only [up_ap, List.length_set, Nat.reduceEqDiff, reduceIte] <;> omega)) only [Int32.le_refl, bd_pr, pr_ap, jn_eq, lt_eq, bd_bd, bd_ite, ite_ap, bd_ld, bd_sv, bd_la, bd_sa, bd_ln, bd_rz0, bd_rz1, rz_n0, rz_n1, e_lit2, nI_z, nI_eq0, nI_0eq, nI_le0, nI_lt0, nI_0lt, nI_0le, e_001, e_n10, e_n1lt, bd_la0, bd_sa0, bd_rz00, rz_0, rz_1, b2i_0, Int32.add_zero, Int32.zero_add, nI_add, nI_pred2, pk_sub, pk_mul, pk_div, e_nz, nI_eq, nI_leI, nI_ltI, e_nm1, e_nm2, up_ap, gd_set_ne, gd_set_same, List.length_set, Nat.add_sub_cancel, Nat.reduceEqDiff, Nat.reduceAdd, Nat.reduceMul, Nat.reduceSub, Nat.reduceLT, Nat.reduceLeDiff, reduceIte, Nat.not_lt_zero, not_true_eq_false, not_false_eq_true, and_true, true_and, and_false, false_and, Nat_1_le_0, b8]
    · have e1 := p_thingsThatAre (W := fun i => A (rh23 i)) l0 p6 l12 hn4 (0)
      have e2 := p_setThatIs z0 b8 hn1 hn4 (0)
      have e3' : fo (fun i a => if ((fun i => A (rh23 i)) 12).getD i 0 = 0 then a ||| (nI 1 <<< (nI i &&& nI 31)) else a) 0 nt = fo (fun i a => if (B0 1).getD (163 + i) 0 = 0 then a ||| (nI 1 <<< (nI i &&& nI 31)) else a) 0 nt := fo_congr (fun i hi z => by
        have : ((fun i => A (rh23 i)) 12).getD i 0 = (B0 1).getD (163 + i) 0 := s7 i (by omega)
        rw [this])
      refine ⟨fo (fun i a => if (B0 1).getD (163 + i) 0 = 0 then a ||| (nI 1 <<< (nI i &&& nI 31)) else a) 0 nt, A, B0, ?_, ?_, hRt⟩
      · unfold gX10_look
        refine hcl rfl ?_
        exact (bd_lf0 _ e1).trans (by rw [e3']; rfl)
      · unfold gX11_look
        rw [told0 _ hb0, ← hB0]
        simp (disch := first | omega | (simp only [up_ap, List.length_set, Nat.reduceEqDiff, reduceIte] <;> omega)) only [Int32.le_refl, bd_pr, pr_ap, jn_eq, lt_eq, bd_bd, bd_ite, ite_ap, bd_ld, bd_sv, bd_la, bd_sa, bd_ln, bd_rz0, bd_rz1, rz_n0, rz_n1, e_lit2, nI_z, nI_eq0, nI_0eq, nI_le0, nI_lt0, nI_0lt, nI_0le, e_001, e_n10, e_n1lt, bd_la0, bd_sa0, bd_rz00, rz_0, rz_1, b2i_0, Int32.add_zero, Int32.zero_add, nI_add, nI_pred2, pk_sub, pk_mul, pk_div, e_nz, nI_eq, nI_leI, nI_ltI, e_nm1, e_nm2, up_ap, gd_set_ne, gd_set_same, List.length_set, Nat.add_sub_cancel, Nat.reduceEqDiff, Nat.reduceAdd, Nat.reduceMul, Nat.reduceSub, Nat.reduceLT, Nat.reduceLeDiff, reduceIte, Nat.not_lt_zero, not_true_eq_false, not_false_eq_true, and_true, true_and, and_false, false_and, Nat_1_le_0]
        rw [bd_some e2]; rfl
    · have e1 := p_thingsThatAre (W := fun i => A (rh23 i)) l0 p6 l12 hn4 (nI 1)
      have e2 := p_setThatIs z0 b8 hn1 hn4 (nI 1)
      have e3' : fo (fun i a => if ((fun i => A (rh23 i)) 12).getD i 0 = nI 1 then a ||| (nI 1 <<< (nI i &&& nI 31)) else a) 0 nt = fo (fun i a => if (B0 1).getD (163 + i) 0 = nI 1 then a ||| (nI 1 <<< (nI i &&& nI 31)) else a) 0 nt := fo_congr (fun i hi z => by
        have : ((fun i => A (rh23 i)) 12).getD i 0 = (B0 1).getD (163 + i) 0 := s7 i (by omega)
        rw [this])
      refine ⟨fo (fun i a => if (B0 1).getD (163 + i) 0 = nI 1 then a ||| (nI 1 <<< (nI i &&& nI 31)) else a) 0 nt, A, B0, ?_, ?_, hRt⟩
      · unfold gX10_look
        refine hcl rfl ?_
        exact (bd_lf0 _ e1).trans (by rw [e3']; rfl)
      · unfold gX11_look
        rw [told0 _ hb0, ← hB0]
        simp (disch := first | omega | (simp only [up_ap, List.length_set, Nat.reduceEqDiff, reduceIte] <;> omega)) only [Int32.le_refl, bd_pr, pr_ap, jn_eq, lt_eq, bd_bd, bd_ite, ite_ap, bd_ld, bd_sv, bd_la, bd_sa, bd_ln, bd_rz0, bd_rz1, rz_n0, rz_n1, e_lit2, nI_z, nI_eq0, nI_0eq, nI_le0, nI_lt0, nI_0lt, nI_0le, e_001, e_n10, e_n1lt, bd_la0, bd_sa0, bd_rz00, rz_0, rz_1, b2i_0, Int32.add_zero, Int32.zero_add, nI_add, nI_pred2, pk_sub, pk_mul, pk_div, e_nz, nI_eq, nI_leI, nI_ltI, e_nm1, e_nm2, up_ap, gd_set_ne, gd_set_same, List.length_set, Nat.add_sub_cancel, Nat.reduceEqDiff, Nat.reduceAdd, Nat.reduceMul, Nat.reduceSub, Nat.reduceLT, Nat.reduceLeDiff, reduceIte, Nat.not_lt_zero, not_true_eq_false, not_false_eq_true, and_true, true_and, and_false, false_and, Nat_1_le_0]
        rw [bd_some e2]; rfl
    · have e1 := p_sum (T := fun i => A (rh47 i)) (n := nc) (by show nc ≤ (A 8).length; have : (A 8).length = 14 := l6; omega) (by show (A 8).length < 1000; have : (A 8).length = 14 := l6; omega)
      have e' : fo (fun i a => a + ((fun i => A (rh47 i)) 0).getD i 0) 0 nc = fo (fun i a => a + nI (ks i).length) 0 nc := fo_congr (fun i hi z => by
        have : (A 8).getD i 0 = nI (ks i).length := (k1 i hi).2.2.1
        show z + (A 8).getD i 0 = _
        rw [this])
      refine ⟨fo (fun i a => a + nI (ks i).length) 0 nc, A, B0, ?_, ?_, hRt⟩
      · unfold gX10_look
        refine hcl rfl ?_
        simp only [List.getD_cons_zero, List.getD_cons_succ]
        rw [bd_ld _ (by omega), p5', bd_lf0 _ e1, e']; rfl
      · unfold gX11_look
        rw [told0 _ hb0, ← hB0]
        simp (disch := first | omega | (simp only [up_ap, List.length_set, Nat.reduceEqDiff, reduceIte] <;> omega)) only [Int32.le_refl, bd_pr, pr_ap, jn_eq, lt_eq, bd_bd, bd_ite, ite_ap, bd_ld, bd_sv, bd_la, bd_sa, bd_ln, bd_rz0, bd_rz1, rz_n0, rz_n1, e_lit2, nI_z, nI_eq0, nI_0eq, nI_le0, nI_lt0, nI_0lt, nI_0le, e_001, e_n10, e_n1lt, bd_la0, bd_sa0, bd_rz00, rz_0, rz_1, b2i_0, Int32.add_zero, Int32.zero_add, nI_add, nI_pred2, pk_sub, pk_mul, pk_div, e_nz, nI_eq, nI_leI, nI_ltI, e_nm1, e_nm2, up_ap, gd_set_ne, gd_set_same, List.length_set, Nat.add_sub_cancel, Nat.reduceEqDiff, Nat.reduceAdd, Nat.reduceMul, Nat.reduceSub, Nat.reduceLT, Nat.reduceLeDiff, reduceIte, Nat.not_lt_zero, not_true_eq_false, not_false_eq_true, and_true, true_and, and_false, false_and, Nat_1_le_0]
        rw [bd_some (p_allKnots hW z0 b7)]; rfl
    · refine ⟨(B0 1).getD 0 0, A, B0, ?_, ?_, hRt⟩
      · unfold gX10_look
        refine hcl rfl ?_
        simp (disch := first | omega | (simp only [up_ap, List.length_set, Nat.reduceEqDiff, reduceIte] <;> omega)) only [Int32.le_refl, bd_pr, pr_ap, jn_eq, lt_eq, bd_bd, bd_ite, ite_ap, bd_ld, bd_sv, bd_la, bd_sa, bd_ln, bd_rz0, bd_rz1, rz_n0, rz_n1, e_lit2, nI_z, nI_eq0, nI_0eq, nI_le0, nI_lt0, nI_0lt, nI_0le, e_001, e_n10, e_n1lt, bd_la0, bd_sa0, bd_rz00, rz_0, rz_1, b2i_0, Int32.add_zero, Int32.zero_add, nI_add, nI_pred2, pk_sub, pk_mul, pk_div, e_nz, nI_eq, nI_leI, nI_ltI, e_nm1, e_nm2, up_ap, gd_set_ne, gd_set_same, List.length_set, Nat.add_sub_cancel, Nat.reduceEqDiff, Nat.reduceAdd, Nat.reduceMul, Nat.reduceSub, Nat.reduceLT, Nat.reduceLeDiff, reduceIte, Nat.not_lt_zero, not_true_eq_false, not_false_eq_true, and_true, true_and, and_false, false_and, p2', List.getD_cons_zero, List.getD_cons_succ]
      · unfold gX11_look
        rw [told0 _ hb0, ← hB0]
        simp (disch := first | omega | (simp only [up_ap, List.length_set, Nat.reduceEqDiff, reduceIte] <;> omega)) only [Int32.le_refl, bd_pr, pr_ap, jn_eq, lt_eq, bd_bd, bd_ite, ite_ap, bd_ld, bd_sv, bd_la, bd_sa, bd_ln, bd_rz0, bd_rz1, rz_n0, rz_n1, e_lit2, nI_z, nI_eq0, nI_0eq, nI_le0, nI_lt0, nI_0lt, nI_0le, e_001, e_n10, e_n1lt, bd_la0, bd_sa0, bd_rz00, rz_0, rz_1, b2i_0, Int32.add_zero, Int32.zero_add, nI_add, nI_pred2, pk_sub, pk_mul, pk_div, e_nz, nI_eq, nI_leI, nI_ltI, e_nm1, e_nm2, up_ap, gd_set_ne, gd_set_same, List.length_set, Nat.add_sub_cancel, Nat.reduceEqDiff, Nat.reduceAdd, Nat.reduceMul, Nat.reduceSub, Nat.reduceLT, Nat.reduceLeDiff, reduceIte, Nat.not_lt_zero, not_true_eq_false, not_false_eq_true, and_true, true_and, and_false, false_and, Nat_1_le_0]
    · refine ⟨(B0 1).getD 2 0, A, B0, ?_, ?_, hRt⟩
      · unfold gX10_look
        refine hcl rfl ?_
        simp (disch := first | omega | (simp only [up_ap, List.length_set, Nat.reduceEqDiff, reduceIte] <;> omega)) only [Int32.le_refl, bd_pr, pr_ap, jn_eq, lt_eq, bd_bd, bd_ite, ite_ap, bd_ld, bd_sv, bd_la, bd_sa, bd_ln, bd_rz0, bd_rz1, rz_n0, rz_n1, e_lit2, nI_z, nI_eq0, nI_0eq, nI_le0, nI_lt0, nI_0lt, nI_0le, e_001, e_n10, e_n1lt, bd_la0, bd_sa0, bd_rz00, rz_0, rz_1, b2i_0, Int32.add_zero, Int32.zero_add, nI_add, nI_pred2, pk_sub, pk_mul, pk_div, e_nz, nI_eq, nI_leI, nI_ltI, e_nm1, e_nm2, up_ap, gd_set_ne, gd_set_same, List.length_set, Nat.add_sub_cancel, Nat.reduceEqDiff, Nat.reduceAdd, Nat.reduceMul, Nat.reduceSub, Nat.reduceLT, Nat.reduceLeDiff, reduceIte, Nat.not_lt_zero, not_true_eq_false, not_false_eq_true, and_true, true_and, and_false, false_and, p3', List.getD_cons_zero, List.getD_cons_succ]
      · unfold gX11_look
        rw [told0 _ hb0, ← hB0]
        simp (disch := first | omega | (simp only [up_ap, List.length_set, Nat.reduceEqDiff, reduceIte] <;> omega)) only [Int32.le_refl, bd_pr, pr_ap, jn_eq, lt_eq, bd_bd, bd_ite, ite_ap, bd_ld, bd_sv, bd_la, bd_sa, bd_ln, bd_rz0, bd_rz1, rz_n0, rz_n1, e_lit2, nI_z, nI_eq0, nI_0eq, nI_le0, nI_lt0, nI_0lt, nI_0le, e_001, e_n10, e_n1lt, bd_la0, bd_sa0, bd_rz00, rz_0, rz_1, b2i_0, Int32.add_zero, Int32.zero_add, nI_add, nI_pred2, pk_sub, pk_mul, pk_div, e_nz, nI_eq, nI_leI, nI_ltI, e_nm1, e_nm2, up_ap, gd_set_ne, gd_set_same, List.length_set, Nat.add_sub_cancel, Nat.reduceEqDiff, Nat.reduceAdd, Nat.reduceMul, Nat.reduceSub, Nat.reduceLT, Nat.reduceLeDiff, reduceIte, Nat.not_lt_zero, not_true_eq_false, not_false_eq_true, and_true, true_and, and_false, false_and, Nat_1_le_0]
    · refine ⟨(B0 1).getD 1 0, A, B0, ?_, ?_, hRt⟩
      · unfold gX10_look
        refine hcl rfl ?_
        simp (disch := first | omega | (simp only [up_ap, List.length_set, Nat.reduceEqDiff, reduceIte] <;> omega)) only [Int32.le_refl, bd_pr, pr_ap, jn_eq, lt_eq, bd_bd, bd_ite, ite_ap, bd_ld, bd_sv, bd_la, bd_sa, bd_ln, bd_rz0, bd_rz1, rz_n0, rz_n1, e_lit2, nI_z, nI_eq0, nI_0eq, nI_le0, nI_lt0, nI_0lt, nI_0le, e_001, e_n10, e_n1lt, bd_la0, bd_sa0, bd_rz00, rz_0, rz_1, b2i_0, Int32.add_zero, Int32.zero_add, nI_add, nI_pred2, pk_sub, pk_mul, pk_div, e_nz, nI_eq, nI_leI, nI_ltI, e_nm1, e_nm2, up_ap, gd_set_ne, gd_set_same, List.length_set, Nat.add_sub_cancel, Nat.reduceEqDiff, Nat.reduceAdd, Nat.reduceMul, Nat.reduceSub, Nat.reduceLT, Nat.reduceLeDiff, reduceIte, Nat.not_lt_zero, not_true_eq_false, not_false_eq_true, and_true, true_and, and_false, false_and, p1', List.getD_cons_zero, List.getD_cons_succ]
      · unfold gX11_look
        rw [told0 _ hb0, ← hB0]
        simp (disch := first | omega | (simp only [up_ap, List.length_set, Nat.reduceEqDiff, reduceIte] <;> omega)) only [Int32.le_refl, bd_pr, pr_ap, jn_eq, lt_eq, bd_bd, bd_ite, ite_ap, bd_ld, bd_sv, bd_la, bd_sa, bd_ln, bd_rz0, bd_rz1, rz_n0, rz_n1, e_lit2, nI_z, nI_eq0, nI_0eq, nI_le0, nI_lt0, nI_0lt, nI_0le, e_001, e_n10, e_n1lt, bd_la0, bd_sa0, bd_rz00, rz_0, rz_1, b2i_0, Int32.add_zero, Int32.zero_add, nI_add, nI_pred2, pk_sub, pk_mul, pk_div, e_nz, nI_eq, nI_leI, nI_ltI, e_nm1, e_nm2, up_ap, gd_set_ne, gd_set_same, List.length_set, Nat.add_sub_cancel, Nat.reduceEqDiff, Nat.reduceAdd, Nat.reduceMul, Nat.reduceSub, Nat.reduceLT, Nat.reduceLeDiff, reduceIte, Nat.not_lt_zero, not_true_eq_false, not_false_eq_true, and_true, true_and, and_false, false_and, Nat_1_le_0]
    · refine ⟨nI nl, A, B0, ?_, ?_, hRt⟩
      · unfold gX10_look
        refine hcl rfl ?_
        simp (disch := first | omega | (simp only [up_ap, List.length_set, Nat.reduceEqDiff, reduceIte] <;> omega)) only [Int32.le_refl, bd_pr, pr_ap, jn_eq, lt_eq, bd_bd, bd_ite, ite_ap, bd_ld, bd_sv, bd_la, bd_sa, bd_ln, bd_rz0, bd_rz1, rz_n0, rz_n1, e_lit2, nI_z, nI_eq0, nI_0eq, nI_le0, nI_lt0, nI_0lt, nI_0le, e_001, e_n10, e_n1lt, bd_la0, bd_sa0, bd_rz00, rz_0, rz_1, b2i_0, Int32.add_zero, Int32.zero_add, nI_add, nI_pred2, pk_sub, pk_mul, pk_div, e_nz, nI_eq, nI_leI, nI_ltI, e_nm1, e_nm2, up_ap, gd_set_ne, gd_set_same, List.length_set, Nat.add_sub_cancel, Nat.reduceEqDiff, Nat.reduceAdd, Nat.reduceMul, Nat.reduceSub, Nat.reduceLT, Nat.reduceLeDiff, reduceIte, Nat.not_lt_zero, not_true_eq_false, not_false_eq_true, and_true, true_and, and_false, false_and, e0, List.getD_cons_zero, List.getD_cons_succ]
      · unfold gX11_look
        rw [told0 _ hb0, ← hB0]
        simp (disch := first | omega | (simp only [up_ap, List.length_set, Nat.reduceEqDiff, reduceIte] <;> omega)) only [Int32.le_refl, bd_pr, pr_ap, jn_eq, lt_eq, bd_bd, bd_ite, ite_ap, bd_ld, bd_sv, bd_la, bd_sa, bd_ln, bd_rz0, bd_rz1, rz_n0, rz_n1, e_lit2, nI_z, nI_eq0, nI_0eq, nI_le0, nI_lt0, nI_0lt, nI_0le, e_001, e_n10, e_n1lt, bd_la0, bd_sa0, bd_rz00, rz_0, rz_1, b2i_0, Int32.add_zero, Int32.zero_add, nI_add, nI_pred2, pk_sub, pk_mul, pk_div, e_nz, nI_eq, nI_leI, nI_ltI, e_nm1, e_nm2, up_ap, gd_set_ne, gd_set_same, List.length_set, Nat.add_sub_cancel, Nat.reduceEqDiff, Nat.reduceAdd, Nat.reduceMul, Nat.reduceSub, Nat.reduceLT, Nat.reduceLeDiff, reduceIte, Nat.not_lt_zero, not_true_eq_false, not_false_eq_true, and_true, true_and, and_false, false_and, Nat_1_le_0, e9]
    · refine ⟨nI nd, A, B0, ?_, ?_, hRt⟩
      · unfold gX10_look
        refine hcl rfl ?_
        simp (disch := first | omega | (simp only [up_ap, List.length_set, Nat.reduceEqDiff, reduceIte] <;> omega)) only [Int32.le_refl, bd_pr, pr_ap, jn_eq, lt_eq, bd_bd, bd_ite, ite_ap, bd_ld, bd_sv, bd_la, bd_sa, bd_ln, bd_rz0, bd_rz1, rz_n0, rz_n1, e_lit2, nI_z, nI_eq0, nI_0eq, nI_le0, nI_lt0, nI_0lt, nI_0le, e_001, e_n10, e_n1lt, bd_la0, bd_sa0, bd_rz00, rz_0, rz_1, b2i_0, Int32.add_zero, Int32.zero_add, nI_add, nI_pred2, pk_sub, pk_mul, pk_div, e_nz, nI_eq, nI_leI, nI_ltI, e_nm1, e_nm2, up_ap, gd_set_ne, gd_set_same, List.length_set, Nat.add_sub_cancel, Nat.reduceEqDiff, Nat.reduceAdd, Nat.reduceMul, Nat.reduceSub, Nat.reduceLT, Nat.reduceLeDiff, reduceIte, Nat.not_lt_zero, not_true_eq_false, not_false_eq_true, and_true, true_and, and_false, false_and, ed0, List.getD_cons_zero, List.getD_cons_succ]
      · unfold gX11_look
        rw [told0 _ hb0, ← hB0]
        simp (disch := first | omega | (simp only [up_ap, List.length_set, Nat.reduceEqDiff, reduceIte] <;> omega)) only [Int32.le_refl, bd_pr, pr_ap, jn_eq, lt_eq, bd_bd, bd_ite, ite_ap, bd_ld, bd_sv, bd_la, bd_sa, bd_ln, bd_rz0, bd_rz1, rz_n0, rz_n1, e_lit2, nI_z, nI_eq0, nI_0eq, nI_le0, nI_lt0, nI_0lt, nI_0le, e_001, e_n10, e_n1lt, bd_la0, bd_sa0, bd_rz00, rz_0, rz_1, b2i_0, Int32.add_zero, Int32.zero_add, nI_add, nI_pred2, pk_sub, pk_mul, pk_div, e_nz, nI_eq, nI_leI, nI_ltI, e_nm1, e_nm2, up_ap, gd_set_ne, gd_set_same, List.length_set, Nat.add_sub_cancel, Nat.reduceEqDiff, Nat.reduceAdd, Nat.reduceMul, Nat.reduceSub, Nat.reduceLT, Nat.reduceLeDiff, reduceIte, Nat.not_lt_zero, not_true_eq_false, not_false_eq_true, and_true, true_and, and_false, false_and, Nat_1_le_0, edm]
    · refine ⟨nI nm, A, B0, ?_, ?_, hRt⟩
      · unfold gX10_look
        refine hcl rfl ?_
        simp (disch := first | omega | (simp only [up_ap, List.length_set, Nat.reduceEqDiff, reduceIte] <;> omega)) only [Int32.le_refl, bd_pr, pr_ap, jn_eq, lt_eq, bd_bd, bd_ite, ite_ap, bd_ld, bd_sv, bd_la, bd_sa, bd_ln, bd_rz0, bd_rz1, rz_n0, rz_n1, e_lit2, nI_z, nI_eq0, nI_0eq, nI_le0, nI_lt0, nI_0lt, nI_0le, e_001, e_n10, e_n1lt, bd_la0, bd_sa0, bd_rz00, rz_0, rz_1, b2i_0, Int32.add_zero, Int32.zero_add, nI_add, nI_pred2, pk_sub, pk_mul, pk_div, e_nz, nI_eq, nI_leI, nI_ltI, e_nm1, e_nm2, up_ap, gd_set_ne, gd_set_same, List.length_set, Nat.add_sub_cancel, Nat.reduceEqDiff, Nat.reduceAdd, Nat.reduceMul, Nat.reduceSub, Nat.reduceLT, Nat.reduceLeDiff, reduceIte, Nat.not_lt_zero, not_true_eq_false, not_false_eq_true, and_true, true_and, and_false, false_and, em0, List.getD_cons_zero, List.getD_cons_succ]
      · unfold gX11_look
        rw [told0 _ hb0, ← hB0]
        simp (disch := first | omega | (simp only [up_ap, List.length_set, Nat.reduceEqDiff, reduceIte] <;> omega)) only [Int32.le_refl, bd_pr, pr_ap, jn_eq, lt_eq, bd_bd, bd_ite, ite_ap, bd_ld, bd_sv, bd_la, bd_sa, bd_ln, bd_rz0, bd_rz1, rz_n0, rz_n1, e_lit2, nI_z, nI_eq0, nI_0eq, nI_le0, nI_lt0, nI_0lt, nI_0le, e_001, e_n10, e_n1lt, bd_la0, bd_sa0, bd_rz00, rz_0, rz_1, b2i_0, Int32.add_zero, Int32.zero_add, nI_add, nI_pred2, pk_sub, pk_mul, pk_div, e_nz, nI_eq, nI_leI, nI_ltI, e_nm1, e_nm2, up_ap, gd_set_ne, gd_set_same, List.length_set, Nat.add_sub_cancel, Nat.reduceEqDiff, Nat.reduceAdd, Nat.reduceMul, Nat.reduceSub, Nat.reduceLT, Nat.reduceLeDiff, reduceIte, Nat.not_lt_zero, not_true_eq_false, not_false_eq_true, and_true, true_and, and_false, false_and, Nat_1_le_0, emm]
    · refine ⟨nI nf, A, B0, ?_, ?_, hRt⟩
      · unfold gX10_look
        refine hcl rfl ?_
        simp (disch := first | omega | (simp only [up_ap, List.length_set, Nat.reduceEqDiff, reduceIte] <;> omega)) only [Int32.le_refl, bd_pr, pr_ap, jn_eq, lt_eq, bd_bd, bd_ite, ite_ap, bd_ld, bd_sv, bd_la, bd_sa, bd_ln, bd_rz0, bd_rz1, rz_n0, rz_n1, e_lit2, nI_z, nI_eq0, nI_0eq, nI_le0, nI_lt0, nI_0lt, nI_0le, e_001, e_n10, e_n1lt, bd_la0, bd_sa0, bd_rz00, rz_0, rz_1, b2i_0, Int32.add_zero, Int32.zero_add, nI_add, nI_pred2, pk_sub, pk_mul, pk_div, e_nz, nI_eq, nI_leI, nI_ltI, e_nm1, e_nm2, up_ap, gd_set_ne, gd_set_same, List.length_set, Nat.add_sub_cancel, Nat.reduceEqDiff, Nat.reduceAdd, Nat.reduceMul, Nat.reduceSub, Nat.reduceLT, Nat.reduceLeDiff, reduceIte, Nat.not_lt_zero, not_true_eq_false, not_false_eq_true, and_true, true_and, and_false, false_and, ef0, List.getD_cons_zero, List.getD_cons_succ]
      · unfold gX11_look
        rw [told0 _ hb0, ← hB0]
        simp (disch := first | omega | (simp only [up_ap, List.length_set, Nat.reduceEqDiff, reduceIte] <;> omega)) only [Int32.le_refl, bd_pr, pr_ap, jn_eq, lt_eq, bd_bd, bd_ite, ite_ap, bd_ld, bd_sv, bd_la, bd_sa, bd_ln, bd_rz0, bd_rz1, rz_n0, rz_n1, e_lit2, nI_z, nI_eq0, nI_0eq, nI_le0, nI_lt0, nI_0lt, nI_0le, e_001, e_n10, e_n1lt, bd_la0, bd_sa0, bd_rz00, rz_0, rz_1, b2i_0, Int32.add_zero, Int32.zero_add, nI_add, nI_pred2, pk_sub, pk_mul, pk_div, e_nz, nI_eq, nI_leI, nI_ltI, e_nm1, e_nm2, up_ap, gd_set_ne, gd_set_same, List.length_set, Nat.add_sub_cancel, Nat.reduceEqDiff, Nat.reduceAdd, Nat.reduceMul, Nat.reduceSub, Nat.reduceLT, Nat.reduceLeDiff, reduceIte, Nat.not_lt_zero, not_true_eq_false, not_false_eq_true, and_true, true_and, and_false, false_and, Nat_1_le_0, efm]
    · refine ⟨nI u, A, B0, ?_, ?_, hRt⟩
      · unfold gX10_look
        refine hcl rfl ?_
        simp (disch := first | omega | (simp only [up_ap, List.length_set, Nat.reduceEqDiff, reduceIte] <;> omega)) only [Int32.le_refl, bd_pr, pr_ap, jn_eq, lt_eq, bd_bd, bd_ite, ite_ap, bd_ld, bd_sv, bd_la, bd_sa, bd_ln, bd_rz0, bd_rz1, rz_n0, rz_n1, e_lit2, nI_z, nI_eq0, nI_0eq, nI_le0, nI_lt0, nI_0lt, nI_0le, e_001, e_n10, e_n1lt, bd_la0, bd_sa0, bd_rz00, rz_0, rz_1, b2i_0, Int32.add_zero, Int32.zero_add, nI_add, nI_pred2, pk_sub, pk_mul, pk_div, e_nz, nI_eq, nI_leI, nI_ltI, e_nm1, e_nm2, up_ap, gd_set_ne, gd_set_same, List.length_set, Nat.add_sub_cancel, Nat.reduceEqDiff, Nat.reduceAdd, Nat.reduceMul, Nat.reduceSub, Nat.reduceLT, Nat.reduceLeDiff, reduceIte, Nat.not_lt_zero, not_true_eq_false, not_false_eq_true, and_true, true_and, and_false, false_and, e5, List.getD_cons_zero, List.getD_cons_succ]
      · unfold gX11_look
        rw [told0 _ hb0, ← hB0]
        simp (disch := first | omega | (simp only [up_ap, List.length_set, Nat.reduceEqDiff, reduceIte] <;> omega)) only [Int32.le_refl, bd_pr, pr_ap, jn_eq, lt_eq, bd_bd, bd_ite, ite_ap, bd_ld, bd_sv, bd_la, bd_sa, bd_ln, bd_rz0, bd_rz1, rz_n0, rz_n1, e_lit2, nI_z, nI_eq0, nI_0eq, nI_le0, nI_lt0, nI_0lt, nI_0le, e_001, e_n10, e_n1lt, bd_la0, bd_sa0, bd_rz00, rz_0, rz_1, b2i_0, Int32.add_zero, Int32.zero_add, nI_add, nI_pred2, pk_sub, pk_mul, pk_div, e_nz, nI_eq, nI_leI, nI_ltI, e_nm1, e_nm2, up_ap, gd_set_ne, gd_set_same, List.length_set, Nat.add_sub_cancel, Nat.reduceEqDiff, Nat.reduceAdd, Nat.reduceMul, Nat.reduceSub, Nat.reduceLT, Nat.reduceLeDiff, reduceIte, Nat.not_lt_zero, not_true_eq_false, not_false_eq_true, and_true, true_and, and_false, false_and, Nat_1_le_0, e3]
  · have hno : ∀ m : Nat, m < 14 → x ≠ nI m := fun m hm q => hy (by rw [q]; exact ⟨nI_pos' (by omega), nI_le (by omega) (by decide)⟩)
    have n0 : ¬ x = 0 := hno 0 (by decide)
    have n1 : ¬ x = nI 1 := hno 1 (by decide)
    have n2 : ¬ x = nI 2 := hno 2 (by decide)
    have n3 : ¬ x = nI 3 := hno 3 (by decide)
    have n4 : ¬ x = nI 4 := hno 4 (by decide)
    have n5 : ¬ x = nI 5 := hno 5 (by decide)
    have n6 : ¬ x = nI 6 := hno 6 (by decide)
    have n7 : ¬ x = nI 7 := hno 7 (by decide)
    have n8 : ¬ x = nI 8 := hno 8 (by decide)
    have n9 : ¬ x = nI 9 := hno 9 (by decide)
    have n10 : ¬ x = nI 10 := hno 10 (by decide)
    have n11 : ¬ x = nI 11 := hno 11 (by decide)
    have n12 : ¬ x = nI 12 := hno 12 (by decide)
    have n13 : ¬ x = nI 13 := hno 13 (by decide)
    refine ⟨-nI 100000, A, B0, ?_, ?_, hRt⟩
    · unfold gX10_look
      rw [swt_no (fun m hm => hno m (by simpa using hm)) (by simp)]; rfl
    · unfold gX11_look
      rw [told0 _ hb0, ← hB0]
      simp (disch := first | omega | (simp only [up_ap, List.length_set, Nat.reduceEqDiff, reduceIte] <;> omega)) only [Int32.le_refl, bd_pr, pr_ap, jn_eq, lt_eq, bd_bd, bd_ite, ite_ap, bd_ld, bd_sv, bd_la, bd_sa, bd_ln, bd_rz0, bd_rz1, rz_n0, rz_n1, e_lit2, nI_z, nI_eq0, nI_0eq, nI_le0, nI_lt0, nI_0lt, nI_0le, e_001, e_n10, e_n1lt, bd_la0, bd_sa0, bd_rz00, rz_0, rz_1, b2i_0, Int32.add_zero, Int32.zero_add, nI_add, nI_pred2, pk_sub, pk_mul, pk_div, e_nz, nI_eq, nI_leI, nI_ltI, e_nm1, e_nm2, up_ap, gd_set_ne, gd_set_same, List.length_set, Nat.add_sub_cancel, Nat.reduceEqDiff, Nat.reduceAdd, Nat.reduceMul, Nat.reduceSub, Nat.reduceLT, Nat.reduceLeDiff, reduceIte, Nat.not_lt_zero, not_true_eq_false, not_false_eq_true, and_true, true_and, and_false, false_and, n0, n1, n2, n3, n4, n5, n6, n7, n8, n9, n10, n11, n12, n13]
