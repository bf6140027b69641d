/-! PURE: what is told number by number -/
theorem R_TT {A A' B B' : Bk} (h : R A B) (x1 : ∀ j, j < 211 → ¬ (39 ≤ j ∧ j < 49) → A' j = A j) (x3 : ∀ i, i < 38 → i ≠ 0 → i ∉ [22, 29, 30, 32, 35] → B' i = B i) (x0 : (B' 0).length = (B 0).length) (x5 : ∀ k, k ∈ [3, 5, 6, 7, 8, 13, 33, 34, 35, 37, 39, 65] → (B' 0).getD k 0 = (B 0).getD k 0) (ht : TT (fun i => A' (rh24 i)) B') : R A' B' := by
  obtain ⟨⟨np, nc, nt, ks, wh, hH, hU⟩, hT, hI, hA, hB⟩ := h
  have hc : ∀ i, i ∈ cRl → i < 38 ∧ i ≠ 0 ∧ i ∉ [22, 29, 30, 32, 35] := by decide
  have hs : ∀ k, k ∈ sRl → k ∈ [3, 5, 6, 7, 8, 13, 33, 34, 35, 37, 39, 65] := by decide
  have hv : ∀ i, i < 49 → ¬ (25 ≤ i ∧ i < 35) → rh24 i < 211 ∧ ¬ (39 ≤ rh24 i ∧ rh24 i < 49) := by decide +kernel
  have e : ∀ i, i < 49 → ¬ (25 ≤ i ∧ i < 35) → A' (rh24 i) = A (rh24 i) := fun i hi h2 => x1 _ (hv i hi h2).1 (hv i hi h2).2
  have hE : HEr (fun i => A (rh24 i)) (fun i => A' (rh24 i)) B B' := 
    ⟨fun i hi _ _ h2 => e i hi h2, by show (A' (rh24 9)).length = _; rw [e 9 (by decide) (by decide)], by show (A' (rh24 35)).length = _; rw [e 35 (by decide) (by decide)], fun i hi => x3 i (hc i hi).1 (hc i hi).2.1 (hc i hi).2.2, by rw [x3 20 (by decide) (by decide) (by decide)], by rw [x3 21 (by decide) (by decide) (by decide)], x0, fun k hk => x5 k (hs k hk)⟩
  refine ⟨⟨np, nc, nt, ks, wh, ⟨HR_HE hH.1 hE, ht⟩, UD_congr hU (by rw [x1 0 (by decide) (by decide)]) (by rw [x1 0 (by decide) (by decide)]) (x1 112 (by decide) (by decide)) (fun j h1 h2 => x1 j h2 (by omega)) (x3 2 (by decide) (by decide) (by decide)) (x3 4 (by decide) (by decide) (by decide)) (x3 5 (by decide) (by decide) (by decide)) (x5 3 (by decide))⟩, ?_, ?_, ?_, ?_⟩
  · exact TP_congr hT (x1 113 (by decide) (by decide)) (x1 114 (by decide) (by decide)) (x3 7 (by decide) (by decide) (by decide)) (x5 13 (by decide)) (x5 33 (by decide)) (x5 34 (by decide))
  · exact IM_congr hI (by rw [x1 0 (by decide) (by decide)]) (fun j h1 h2 => x1 j (by omega) (by omega)) (x3 37 (by decide) (by decide) (by decide)) (x5 65 (by decide))
  · exact SCA_congr hA (fun j h1 h2 => by rw [x1 j (by omega) (by omega)]) (by rw [x1 99 (by decide) (by decide)])
  · have hz : ∀ j, j ∈ [3, 16, 23, 24, 25, 26, 27, 28, 31, 34, 36] → j < 38 ∧ j ≠ 0 ∧ j ∉ [22, 29, 30, 32, 35] := by decide
    exact SCB_congr hB (fun j hj => by rw [x3 j (hz j hj).1 (hz j hj).2.1 (hz j hj).2.2]) (x3 8 (by decide) (by decide) (by decide)) (x3 33 (by decide) (by decide) (by decide))
theorem RT_put {c row arr : List Int32} {n v : Int32} {k cap : Nat} {ok : Int32 → Prop} (h : RT c row n arr cap ok) (hk : k < cap) (hn : n = nI k) (hc : cap < 2 ^ 31) (hv : ok v) : RT (c.set 0 (nI (k + 1))) (row.set k v) (nI (k + 1)) (arr.set k v) cap ok := by
  obtain ⟨h1, h2, h3, k', hk', h4, h5, h6⟩ := h
  have hkk : k = k' := (nI_eq (by omega) (by omega)).mp (hn.symm.trans h5)
  subst hkk
  refine ⟨by rw [List.length_set]; exact h1, by rw [List.length_set]; exact h2, by rw [List.length_set]; exact h3, k + 1, hk, gd_set_same (by omega), rfl, fun i hi => ?_⟩
  by_cases hq : i = k
  · subst hq
    rw [gd_set_same (by omega), gd_set_same (by omega)]
    exact ⟨rfl, hv⟩
  · rw [gd_set_ne (fun q => hq q.symm), gd_set_ne (fun q => hq q.symm)]
    exact h6 i (by omega)
theorem RT_zero {c row arr : List Int32} {n : Int32} {cap : Nat} {ok : Int32 → Prop} (h : RT c row n arr cap ok) : RT (c.set 0 0) row 0 arr cap ok := by
  obtain ⟨h1, h2, h3, k', hk', h4, h5, h6⟩ := h
  exact ⟨by rw [List.length_set]; exact h1, h2, h3, 0, Nat.zero_le _, gd_set_same (by omega), rfl, fun i hi => absurd hi (Nat.not_lt_zero i)⟩
theorem okB_of {x : Int32} (h1 : -nI 4 ≤ x) (h2 : x ≤ nI 4) (h0 : ¬ x = 0) : okB x := by
  by_cases hx : x < 0
  · have h3 : (0 : Int) ≤ (-x).toInt ∧ (-x).toInt = - x.toInt := by
      rw [Int32.le_iff_toInt_le] at h1
      rw [Int32.lt_iff_toInt_lt] at hx
      have e1 : (-nI 4).toInt = -4 := by decide
      have e2 : (0 : Int32).toInt = 0 := by decide
      rw [e1] at h1
      rw [e2] at hx
      have : (-x).toInt = - x.toInt := by
        rw [Int32.toInt_neg]
        apply Int.bmod_eq_of_le <;> omega
      omega
    have h4 : ¬ -x < 0 := by
      rw [Int32.lt_iff_toInt_lt]
      have e2 : (0 : Int32).toInt = 0 := by decide
      rw [e2]; omega
    obtain ⟨j, hj, ej⟩ := nI_of h4
    have e5 : (nI j).toInt = j := nI_toInt hj
    rw [← ej] at e5
    rw [Int32.le_iff_toInt_le] at h1
    rw [Int32.lt_iff_toInt_lt] at hx
    have e1 : (-nI 4).toInt = -4 := by decide
    have e2 : (0 : Int32).toInt = 0 := by decide
    rw [e1] at h1
    rw [e2] at hx
    exact ⟨j, by omega, by omega, Or.inr (by rw [← ej, Int32.neg_neg])⟩
  · obtain ⟨j, hj, rfl⟩ := nI_of hx
    have := (nI_leI hj (by decide)).mp h2
    exact ⟨j, by have : j ≠ 0 := fun q => h0 (by rw [q]; rfl)
                 omega, this, Or.inl rfl⟩
set_option maxHeartbeats 400000 in
theorem op_crossing {A B : Bk} (h : R A B) (x : Int32) : ∃ r A' B', gX10_crossing x A = some (r, A') ∧ gX11_crossing x B = some (r, B') ∧ R A' B' := by
  have hb0 := R_B0 h
  have hRt := R_told h
  obtain ⟨⟨np, nc, nt, ks, wh, ⟨hR, ht⟩, hU⟩, -⟩ := id h
  obtain ⟨t0, t1, t2, t3, t4⟩ := id ht
  obtain ⟨c1, c2, c3, k, hk, c4, c5, c6⟩ := id t0
  have c1 : (A 39).length = 2 := c1
  have c2 : (A 40).length = 12 := c2
  have c4 : (A 39).getD 0 0 = nI k := c4
  have inj : ∀ i j, i < 2 → j < 2 → rh37 i = rh37 j → i = j := inj_d (by decide +kernel)
  by_cases h0 : x = 0
  · subst h0
    have g1 : lf rh37 2 gX8_empty A = some (0, up A 39 ((A 39).set 0 0)) := by
      rw [lf_run (p_empty (T := fun i => A (rh37 i)) c1), pu1 inj (i := 0) (by decide)]; rfl
    refine ⟨0, up A 39 ((A 39).set 0 0), up B 0 (((B 0).set 0 0).set 43 0), ?_, ?_, ?_⟩
    · unfold gX10_crossing
      simp (disch := first | omega | (simp only [up_ap, List.length_set, Nat.reduceEqDiff, reduceIte]; omega)) only [bd_pr, pr_ap, jn_eq, lt_eq, bd_bd, bd_ite, ite_ap, bd_ld, bd_sv, bd_la, bd_sa, bd_ln, bd_rz0, bd_rz1, rz_n0, rz_n1, e_lit2, nI_z, nI_eq0, nI_0eq, nI_le0, nI_lt0, nI_0lt, nI_0le, e_001, e_n10, e_n1lt, bd_la0, bd_sa0, bd_rz00, rz_0, rz_1, b2i_0, Int32.add_zero, Int32.zero_add, nI_add, nI_pred2, pk_sub, pk_mul, pk_div, e_nz, nI_eq, nI_leI, nI_ltI, e_nm1, e_nm2, up_ap, gd_set_ne, gd_set_same, List.length_set, Nat.add_sub_cancel, Nat.reduceEqDiff, Nat.reduceAdd, Nat.reduceMul, Nat.reduceSub, Nat.reduceLT, Nat.reduceLeDiff, reduceIte, Nat.not_lt_zero, not_true_eq_false, not_false_eq_true, and_true, true_and, and_false, false_and]
      rw [bd_some g1]
      first | done | rfl
    · unfold gX11_crossing
      simp (disch := first | omega | (simp only [up_ap, List.length_set, Nat.reduceEqDiff, reduceIte]; omega)) only [bd_pr, pr_ap, jn_eq, lt_eq, bd_bd, bd_ite, ite_ap, bd_ld, bd_sv, bd_la, bd_sa, bd_ln, bd_rz0, bd_rz1, rz_n0, rz_n1, e_lit2, nI_z, nI_eq0, nI_0eq, nI_le0, nI_lt0, nI_0lt, nI_0le, e_001, e_n10, e_n1lt, bd_la0, bd_sa0, bd_rz00, rz_0, rz_1, b2i_0, Int32.add_zero, Int32.zero_add, nI_add, nI_pred2, pk_sub, pk_mul, pk_div, e_nz, nI_eq, nI_leI, nI_ltI, e_nm1, e_nm2, up_ap, gd_set_ne, gd_set_same, List.length_set, Nat.add_sub_cancel, Nat.reduceEqDiff, Nat.reduceAdd, Nat.reduceMul, Nat.reduceSub, Nat.reduceLT, Nat.reduceLeDiff, reduceIte, Nat.not_lt_zero, not_true_eq_false, not_false_eq_true, and_true, true_and, and_false, false_and, up_up]
    · refine R_TT h (fun j a b => up_ne _ _ (by omega)) (fun i a b c => up_ne _ _ b) (up_len (by simp only [List.length_set]) 0) (fun s hs => ?_) ?_
      · rw [up_same, gd_set_ne (fun q => by subst q; exact absurd hs (by decide)), gd_set_ne (fun q => by subst q; exact absurd hs (by decide))]
      · have e : ((((B 0).set 0 0).set 43 0)).getD 43 0 = 0 := gd_set_same (by rw [List.length_set, hb0]; decide)
        have n0 : RT ((A 39).set 0 0) (A 40) (((((B 0).set 0 0).set 43 0)).getD 43 0) (B 22) 12 okB := by rw [e]; exact RT_zero t0
        have o1 : RT (A 41) (A 42) (((((B 0).set 0 0).set 43 0)).getD 52 0) (B 29) 16 (okN 1) := by
          rw [gd_set_ne (by decide), gd_set_ne (by decide)]; exact t1
        have o2 : RT (A 43) (A 44) (((((B 0).set 0 0).set 43 0)).getD 54 0) (B 30) 12 (okN 99) := by
          rw [gd_set_ne (by decide), gd_set_ne (by decide)]; exact t2
        have o3 : RT (A 45) (A 46) (((((B 0).set 0 0).set 43 0)).getD 57 0) (B 32) 16 (okN 9) := by
          rw [gd_set_ne (by decide), gd_set_ne (by decide)]; exact t3
        have o4 : RT (A 47) (A 48) (((((B 0).set 0 0).set 43 0)).getD 61 0) (B 35) 10 (okN 9) := by
          rw [gd_set_ne (by decide), gd_set_ne (by decide)]; exact t4
        exact ⟨n0, o1, o2, o3, o4⟩
  · by_cases hx : -nI 4 ≤ x ∧ x ≤ nI 4
    · by_cases hf : k = 12
      · have g1 : lf rh37 2 (gX8_tell x) A = some (-1, A) := by
          have := p_tell (T := fun i => A (rh37 i)) (v := x) c1 c2 (by decide) hk c4
          rw [if_pos hf] at this
          rw [lf_run this, pu_self]
        refine ⟨-nI 1, A, _, ?_, ?_, hRt⟩
        · unfold gX10_crossing
          simp (disch := first | omega | (simp only [up_ap, List.length_set, Nat.reduceEqDiff, reduceIte]; omega)) only [bd_pr, pr_ap, jn_eq, lt_eq, bd_bd, bd_ite, ite_ap, bd_ld, bd_sv, bd_la, bd_sa, bd_ln, bd_rz0, bd_rz1, rz_n0, rz_n1, e_lit2, nI_z, nI_eq0, nI_0eq, nI_le0, nI_lt0, nI_0lt, nI_0le, e_001, e_n10, e_n1lt, bd_la0, bd_sa0, bd_rz00, rz_0, rz_1, b2i_0, Int32.add_zero, Int32.zero_add, nI_add, nI_pred2, pk_sub, pk_mul, pk_div, e_nz, nI_eq, nI_leI, nI_ltI, e_nm1, e_nm2, up_ap, gd_set_ne, gd_set_same, List.length_set, Nat.add_sub_cancel, Nat.reduceEqDiff, Nat.reduceAdd, Nat.reduceMul, Nat.reduceSub, Nat.reduceLT, Nat.reduceLeDiff, reduceIte, Nat.not_lt_zero, not_true_eq_false, not_false_eq_true, and_true, true_and, and_false, false_and, h0]
          rw [bd_iw, b2i_t hx]
          simp (disch := first | omega | (simp only [up_ap, List.length_set, Nat.reduceEqDiff, reduceIte]; omega)) only [bd_pr, pr_ap, jn_eq, lt_eq, bd_bd, bd_ite, ite_ap, bd_ld, bd_sv, bd_la, bd_sa, bd_ln, bd_rz0, bd_rz1, rz_n0, rz_n1, e_lit2, nI_z, nI_eq0, nI_0eq, nI_le0, nI_lt0, nI_0lt, nI_0le, e_001, e_n10, e_n1lt, bd_la0, bd_sa0, bd_rz00, rz_0, rz_1, b2i_0, Int32.add_zero, Int32.zero_add, nI_add, nI_pred2, pk_sub, pk_mul, pk_div, e_nz, nI_eq, nI_leI, nI_ltI, e_nm1, e_nm2, up_ap, gd_set_ne, gd_set_same, List.length_set, Nat.add_sub_cancel, Nat.reduceEqDiff, Nat.reduceAdd, Nat.reduceMul, Nat.reduceSub, Nat.reduceLT, Nat.reduceLeDiff, reduceIte, Nat.not_lt_zero, not_true_eq_false, not_false_eq_true, and_true, true_and, and_false, false_and, Nat_1_le_0]
          rw [bd_some g1]; rfl
        · unfold gX11_crossing
          simp (disch := first | omega | (simp only [up_ap, List.length_set, Nat.reduceEqDiff, reduceIte]; omega)) only [bd_pr, pr_ap, jn_eq, lt_eq, bd_bd, bd_ite, ite_ap, bd_ld, bd_sv, bd_la, bd_sa, bd_ln, bd_rz0, bd_rz1, rz_n0, rz_n1, e_lit2, nI_z, nI_eq0, nI_0eq, nI_le0, nI_lt0, nI_0lt, nI_0le, e_001, e_n10, e_n1lt, bd_la0, bd_sa0, bd_rz00, rz_0, rz_1, b2i_0, Int32.add_zero, Int32.zero_add, nI_add, nI_pred2, pk_sub, pk_mul, pk_div, e_nz, nI_eq, nI_leI, nI_ltI, e_nm1, e_nm2, up_ap, gd_set_ne, gd_set_same, List.length_set, Nat.add_sub_cancel, Nat.reduceEqDiff, Nat.reduceAdd, Nat.reduceMul, Nat.reduceSub, Nat.reduceLT, Nat.reduceLeDiff, reduceIte, Nat.not_lt_zero, not_true_eq_false, not_false_eq_true, and_true, true_and, and_false, false_and, h0]
          rw [bd_in, b2i_t hx]
          simp (disch := first | omega | (simp only [up_ap, List.length_set, Nat.reduceEqDiff, reduceIte]; omega)) only [bd_pr, pr_ap, jn_eq, lt_eq, bd_bd, bd_ite, ite_ap, bd_ld, bd_sv, bd_la, bd_sa, bd_ln, bd_rz0, bd_rz1, rz_n0, rz_n1, e_lit2, nI_z, nI_eq0, nI_0eq, nI_le0, nI_lt0, nI_0lt, nI_0le, e_001, e_n10, e_n1lt, bd_la0, bd_sa0, bd_rz00, rz_0, rz_1, b2i_0, Int32.add_zero, Int32.zero_add, nI_add, nI_pred2, pk_sub, pk_mul, pk_div, e_nz, nI_eq, nI_leI, nI_ltI, e_nm1, e_nm2, up_ap, gd_set_ne, gd_set_same, List.length_set, Nat.add_sub_cancel, Nat.reduceEqDiff, Nat.reduceAdd, Nat.reduceMul, Nat.reduceSub, Nat.reduceLT, Nat.reduceLeDiff, reduceIte, Nat.not_lt_zero, not_true_eq_false, not_false_eq_true, and_true, true_and, and_false, false_and, Nat_1_le_0, c5, hf]
      · have g1 : lf rh37 2 (gX8_tell x) A = some (nI (k + 1), up (up A 40 ((A 40).set k x)) 39 ((A 39).set 0 (nI (k + 1)))) := by
          have := p_tell (T := fun i => A (rh37 i)) (v := x) c1 c2 (by decide) hk c4
          rw [if_neg hf] at this
          rw [lf_run this, pu_up inj (i := 0) (by decide), pu1 inj (i := 1) (by decide)]; rfl
        refine ⟨nI (k + 1), up (up A 40 ((A 40).set k x)) 39 ((A 39).set 0 (nI (k + 1))), up (up B 22 ((B 22).set k x)) 0 (((B 0).set 0 0).set 43 (nI (k + 1))), ?_, ?_, ?_⟩
        · unfold gX10_crossing
          simp (disch := first | omega | (simp only [up_ap, List.length_set, Nat.reduceEqDiff, reduceIte]; omega)) only [bd_pr, pr_ap, jn_eq, lt_eq, bd_bd, bd_ite, ite_ap, bd_ld, bd_sv, bd_la, bd_sa, bd_ln, bd_rz0, bd_rz1, rz_n0, rz_n1, e_lit2, nI_z, nI_eq0, nI_0eq, nI_le0, nI_lt0, nI_0lt, nI_0le, e_001, e_n10, e_n1lt, bd_la0, bd_sa0, bd_rz00, rz_0, rz_1, b2i_0, Int32.add_zero, Int32.zero_add, nI_add, nI_pred2, pk_sub, pk_mul, pk_div, e_nz, nI_eq, nI_leI, nI_ltI, e_nm1, e_nm2, up_ap, gd_set_ne, gd_set_same, List.length_set, Nat.add_sub_cancel, Nat.reduceEqDiff, Nat.reduceAdd, Nat.reduceMul, Nat.reduceSub, Nat.reduceLT, Nat.reduceLeDiff, reduceIte, Nat.not_lt_zero, not_true_eq_false, not_false_eq_true, and_true, true_and, and_false, false_and, h0]
          rw [bd_iw, b2i_t hx]
          simp (disch := first | omega | (simp only [up_ap, List.length_set, Nat.reduceEqDiff, reduceIte]; omega)) only [bd_pr, pr_ap, jn_eq, lt_eq, bd_bd, bd_ite, ite_ap, bd_ld, bd_sv, bd_la, bd_sa, bd_ln, bd_rz0, bd_rz1, rz_n0, rz_n1, e_lit2, nI_z, nI_eq0, nI_0eq, nI_le0, nI_lt0, nI_0lt, nI_0le, e_001, e_n10, e_n1lt, bd_la0, bd_sa0, bd_rz00, rz_0, rz_1, b2i_0, Int32.add_zero, Int32.zero_add, nI_add, nI_pred2, pk_sub, pk_mul, pk_div, e_nz, nI_eq, nI_leI, nI_ltI, e_nm1, e_nm2, up_ap, gd_set_ne, gd_set_same, List.length_set, Nat.add_sub_cancel, Nat.reduceEqDiff, Nat.reduceAdd, Nat.reduceMul, Nat.reduceSub, Nat.reduceLT, Nat.reduceLeDiff, reduceIte, Nat.not_lt_zero, not_true_eq_false, not_false_eq_true, and_true, true_and, and_false, false_and, Nat_1_le_0]
          rw [bd_some g1]
          first | done | rfl
        · unfold gX11_crossing
          simp (disch := first | omega | (simp only [up_ap, List.length_set, Nat.reduceEqDiff, reduceIte]; omega)) only [bd_pr, pr_ap, jn_eq, lt_eq, bd_bd, bd_ite, ite_ap, bd_ld, bd_sv, bd_la, bd_sa, bd_ln, bd_rz0, bd_rz1, rz_n0, rz_n1, e_lit2, nI_z, nI_eq0, nI_0eq, nI_le0, nI_lt0, nI_0lt, nI_0le, e_001, e_n10, e_n1lt, bd_la0, bd_sa0, bd_rz00, rz_0, rz_1, b2i_0, Int32.add_zero, Int32.zero_add, nI_add, nI_pred2, pk_sub, pk_mul, pk_div, e_nz, nI_eq, nI_leI, nI_ltI, e_nm1, e_nm2, up_ap, gd_set_ne, gd_set_same, List.length_set, Nat.add_sub_cancel, Nat.reduceEqDiff, Nat.reduceAdd, Nat.reduceMul, Nat.reduceSub, Nat.reduceLT, Nat.reduceLeDiff, reduceIte, Nat.not_lt_zero, not_true_eq_false, not_false_eq_true, and_true, true_and, and_false, false_and, h0]
          rw [bd_in, b2i_t hx]
          simp (disch := first | omega | (simp only [up_ap, List.length_set, Nat.reduceEqDiff, reduceIte]; omega)) only [bd_pr, pr_ap, jn_eq, lt_eq, bd_bd, bd_ite, ite_ap, bd_ld, bd_sv, bd_la, bd_sa, bd_ln, bd_rz0, bd_rz1, rz_n0, rz_n1, e_lit2, nI_z, nI_eq0, nI_0eq, nI_le0, nI_lt0, nI_0lt, nI_0le, e_001, e_n10, e_n1lt, bd_la0, bd_sa0, bd_rz00, rz_0, rz_1, b2i_0, Int32.add_zero, Int32.zero_add, nI_add, nI_pred2, pk_sub, pk_mul, pk_div, e_nz, nI_eq, nI_leI, nI_ltI, e_nm1, e_nm2, up_ap, gd_set_ne, gd_set_same, List.length_set, Nat.add_sub_cancel, Nat.reduceEqDiff, Nat.reduceAdd, Nat.reduceMul, Nat.reduceSub, Nat.reduceLT, Nat.reduceLeDiff, reduceIte, Nat.not_lt_zero, not_true_eq_false, not_false_eq_true, and_true, true_and, and_false, false_and, Nat_1_le_0, c5, hf, up_up]
          first | done | rw [up_comm B (i := 0) (j := 22) (by decide), up_up]
        · refine R_TT h (fun j a b => by rw [up_ne _ _ (by omega), up_ne _ _ (by omega)]) (fun i a b c => by rw [up_ne _ _ b, up_ne _ _ (fun q => c (by rw [q]; decide))]) (by rw [up_same]; simp only [List.length_set]) (fun s hs => ?_) ?_
          · rw [up_same, gd_set_ne (fun q => by subst q; exact absurd hs (by decide)), gd_set_ne (fun q => by subst q; exact absurd hs (by decide))]
          · have e : ((((B 0).set 0 0).set 43 (nI (k + 1)))).getD 43 0 = nI (k + 1) := gd_set_same (by rw [List.length_set, hb0]; decide)
            have n0 : RT ((A 39).set 0 (nI (k + 1))) ((A 40).set k x) (((((B 0).set 0 0).set 43 (nI (k + 1)))).getD 43 0) ((B 22).set k x) 12 okB := by rw [e]; exact RT_put t0 (by omega) c5 (by decide) (okB_of hx.1 hx.2 h0)
            have o1 : RT (A 41) (A 42) (((((B 0).set 0 0).set 43 (nI (k + 1)))).getD 52 0) (B 29) 16 (okN 1) := by
              rw [gd_set_ne (by decide), gd_set_ne (by decide)]; exact t1
            have o2 : RT (A 43) (A 44) (((((B 0).set 0 0).set 43 (nI (k + 1)))).getD 54 0) (B 30) 12 (okN 99) := by
              rw [gd_set_ne (by decide), gd_set_ne (by decide)]; exact t2
            have o3 : RT (A 45) (A 46) (((((B 0).set 0 0).set 43 (nI (k + 1)))).getD 57 0) (B 32) 16 (okN 9) := by
              rw [gd_set_ne (by decide), gd_set_ne (by decide)]; exact t3
            have o4 : RT (A 47) (A 48) (((((B 0).set 0 0).set 43 (nI (k + 1)))).getD 61 0) (B 35) 10 (okN 9) := by
              rw [gd_set_ne (by decide), gd_set_ne (by decide)]; exact t4
            exact ⟨n0, o1, o2, o3, o4⟩
    · refine ⟨-nI 1, A, _, ?_, ?_, hRt⟩
      · unfold gX10_crossing
        simp (disch := first | omega | (simp only [up_ap, List.length_set, Nat.reduceEqDiff, reduceIte]; omega)) only [bd_pr, pr_ap, jn_eq, lt_eq, bd_bd, bd_ite, ite_ap, bd_ld, bd_sv, bd_la, bd_sa, bd_ln, bd_rz0, bd_rz1, rz_n0, rz_n1, e_lit2, nI_z, nI_eq0, nI_0eq, nI_le0, nI_lt0, nI_0lt, nI_0le, e_001, e_n10, e_n1lt, bd_la0, bd_sa0, bd_rz00, rz_0, rz_1, b2i_0, Int32.add_zero, Int32.zero_add, nI_add, nI_pred2, pk_sub, pk_mul, pk_div, e_nz, nI_eq, nI_leI, nI_ltI, e_nm1, e_nm2, up_ap, gd_set_ne, gd_set_same, List.length_set, Nat.add_sub_cancel, Nat.reduceEqDiff, Nat.reduceAdd, Nat.reduceMul, Nat.reduceSub, Nat.reduceLT, Nat.reduceLeDiff, reduceIte, Nat.not_lt_zero, not_true_eq_false, not_false_eq_true, and_true, true_and, and_false, false_and, h0]
        rw [bd_iw, b2i_f hx]
        simp (disch := first | omega | (simp only [up_ap, List.length_set, Nat.reduceEqDiff, reduceIte]; omega)) only [bd_pr, pr_ap, jn_eq, lt_eq, bd_bd, bd_ite, ite_ap, bd_ld, bd_sv, bd_la, bd_sa, bd_ln, bd_rz0, bd_rz1, rz_n0, rz_n1, e_lit2, nI_z, nI_eq0, nI_0eq, nI_le0, nI_lt0, nI_0lt, nI_0le, e_001, e_n10, e_n1lt, bd_la0, bd_sa0, bd_rz00, rz_0, rz_1, b2i_0, Int32.add_zero, Int32.zero_add, nI_add, nI_pred2, pk_sub, pk_mul, pk_div, e_nz, nI_eq, nI_leI, nI_ltI, e_nm1, e_nm2, up_ap, gd_set_ne, gd_set_same, List.length_set, Nat.add_sub_cancel, Nat.reduceEqDiff, Nat.reduceAdd, Nat.reduceMul, Nat.reduceSub, Nat.reduceLT, Nat.reduceLeDiff, reduceIte, Nat.not_lt_zero, not_true_eq_false, not_false_eq_true, and_true, true_and, and_false, false_and]
      · unfold gX11_crossing
        simp (disch := first | omega | (simp only [up_ap, List.length_set, Nat.reduceEqDiff, reduceIte]; omega)) only [bd_pr, pr_ap, jn_eq, lt_eq, bd_bd, bd_ite, ite_ap, bd_ld, bd_sv, bd_la, bd_sa, bd_ln, bd_rz0, bd_rz1, rz_n0, rz_n1, e_lit2, nI_z, nI_eq0, nI_0eq, nI_le0, nI_lt0, nI_0lt, nI_0le, e_001, e_n10, e_n1lt, bd_la0, bd_sa0, bd_rz00, rz_0, rz_1, b2i_0, Int32.add_zero, Int32.zero_add, nI_add, nI_pred2, pk_sub, pk_mul, pk_div, e_nz, nI_eq, nI_leI, nI_ltI, e_nm1, e_nm2, up_ap, gd_set_ne, gd_set_same, List.length_set, Nat.add_sub_cancel, Nat.reduceEqDiff, Nat.reduceAdd, Nat.reduceMul, Nat.reduceSub, Nat.reduceLT, Nat.reduceLeDiff, reduceIte, Nat.not_lt_zero, not_true_eq_false, not_false_eq_true, and_true, true_and, and_false, false_and, h0]
        rw [bd_in, b2i_f hx]
        simp (disch := first | omega | (simp only [up_ap, List.length_set, Nat.reduceEqDiff, reduceIte]; omega)) only [bd_pr, pr_ap, jn_eq, lt_eq, bd_bd, bd_ite, ite_ap, bd_ld, bd_sv, bd_la, bd_sa, bd_ln, bd_rz0, bd_rz1, rz_n0, rz_n1, e_lit2, nI_z, nI_eq0, nI_0eq, nI_le0, nI_lt0, nI_0lt, nI_0le, e_001, e_n10, e_n1lt, bd_la0, bd_sa0, bd_rz00, rz_0, rz_1, b2i_0, Int32.add_zero, Int32.zero_add, nI_add, nI_pred2, pk_sub, pk_mul, pk_div, e_nz, nI_eq, nI_leI, nI_ltI, e_nm1, e_nm2, up_ap, gd_set_ne, gd_set_same, List.length_set, Nat.add_sub_cancel, Nat.reduceEqDiff, Nat.reduceAdd, Nat.reduceMul, Nat.reduceSub, Nat.reduceLT, Nat.reduceLeDiff, reduceIte, Nat.not_lt_zero, not_true_eq_false, not_false_eq_true, and_true, true_and, and_false, false_and]
set_option maxHeartbeats 400000 in
theorem op_answer {A B : Bk} (h : R A B) (x : Int32) : ∃ r A' B', gX10_answer x A = some (r, A') ∧ gX11_answer x B = some (r, B') ∧ R A' B' := by
  have hb0 := R_B0 h
  have hRt := R_told h
  obtain ⟨⟨np, nc, nt, ks, wh, ⟨hR, ht⟩, hU⟩, -⟩ := id h
  obtain ⟨t0, t1, t2, t3, t4⟩ := id ht
  obtain ⟨c1, c2, c3, k, hk, c4, c5, c6⟩ := id t1
  have c1 : (A 41).length = 2 := c1
  have c2 : (A 42).length = 16 := c2
  have c4 : (A 41).getD 0 0 = nI k := c4
  have inj : ∀ i j, i < 2 → j < 2 → rh40 i = rh40 j → i = j := inj_d (by decide +kernel)
  by_cases h0 : x = -nI 1
  · subst h0
    have g1 : lf rh40 2 gX8_empty A = some (0, up A 41 ((A 41).set 0 0)) := by
      rw [lf_run (p_empty (T := fun i => A (rh40 i)) c1), pu1 inj (i := 0) (by decide)]; rfl
    refine ⟨0, up A 41 ((A 41).set 0 0), up B 0 (((B 0).set 0 0).set 52 0), ?_, ?_, ?_⟩
    · unfold gX10_answer
      simp (disch := first | omega | (simp only [up_ap, List.length_set, Nat.reduceEqDiff, reduceIte]; omega)) only [bd_pr, pr_ap, jn_eq, lt_eq, bd_bd, bd_ite, ite_ap, bd_ld, bd_sv, bd_la, bd_sa, bd_ln, bd_rz0, bd_rz1, rz_n0, rz_n1, e_lit2, nI_z, nI_eq0, nI_0eq, nI_le0, nI_lt0, nI_0lt, nI_0le, e_001, e_n10, e_n1lt, bd_la0, bd_sa0, bd_rz00, rz_0, rz_1, b2i_0, Int32.add_zero, Int32.zero_add, nI_add, nI_pred2, pk_sub, pk_mul, pk_div, e_nz, nI_eq, nI_leI, nI_ltI, e_nm1, e_nm2, up_ap, gd_set_ne, gd_set_same, List.length_set, Nat.add_sub_cancel, Nat.reduceEqDiff, Nat.reduceAdd, Nat.reduceMul, Nat.reduceSub, Nat.reduceLT, Nat.reduceLeDiff, reduceIte, Nat.not_lt_zero, not_true_eq_false, not_false_eq_true, and_true, true_and, and_false, false_and]
      rw [bd_some g1]
      first | done | rfl
    · unfold gX11_answer
      simp (disch := first | omega | (simp only [up_ap, List.length_set, Nat.reduceEqDiff, reduceIte]; omega)) only [bd_pr, pr_ap, jn_eq, lt_eq, bd_bd, bd_ite, ite_ap, bd_ld, bd_sv, bd_la, bd_sa, bd_ln, bd_rz0, bd_rz1, rz_n0, rz_n1, e_lit2, nI_z, nI_eq0, nI_0eq, nI_le0, nI_lt0, nI_0lt, nI_0le, e_001, e_n10, e_n1lt, bd_la0, bd_sa0, bd_rz00, rz_0, rz_1, b2i_0, Int32.add_zero, Int32.zero_add, nI_add, nI_pred2, pk_sub, pk_mul, pk_div, e_nz, nI_eq, nI_leI, nI_ltI, e_nm1, e_nm2, up_ap, gd_set_ne, gd_set_same, List.length_set, Nat.add_sub_cancel, Nat.reduceEqDiff, Nat.reduceAdd, Nat.reduceMul, Nat.reduceSub, Nat.reduceLT, Nat.reduceLeDiff, reduceIte, Nat.not_lt_zero, not_true_eq_false, not_false_eq_true, and_true, true_and, and_false, false_and, up_up]
    · refine R_TT h (fun j a b => up_ne _ _ (by omega)) (fun i a b c => up_ne _ _ b) (up_len (by simp only [List.length_set]) 0) (fun s hs => ?_) ?_
      · rw [up_same, gd_set_ne (fun q => by subst q; exact absurd hs (by decide)), gd_set_ne (fun q => by subst q; exact absurd hs (by decide))]
      · have e : ((((B 0).set 0 0).set 52 0)).getD 52 0 = 0 := gd_set_same (by rw [List.length_set, hb0]; decide)
        have n1 : RT ((A 41).set 0 0) (A 42) (((((B 0).set 0 0).set 52 0)).getD 52 0) (B 29) 16 (okN 1) := by rw [e]; exact RT_zero t1
        have o0 : RT (A 39) (A 40) (((((B 0).set 0 0).set 52 0)).getD 43 0) (B 22) 12 okB := by
          rw [gd_set_ne (by decide), gd_set_ne (by decide)]; exact t0
        have o2 : RT (A 43) (A 44) (((((B 0).set 0 0).set 52 0)).getD 54 0) (B 30) 12 (okN 99) := by
          rw [gd_set_ne (by decide), gd_set_ne (by decide)]; exact t2
        have o3 : RT (A 45) (A 46) (((((B 0).set 0 0).set 52 0)).getD 57 0) (B 32) 16 (okN 9) := by
          rw [gd_set_ne (by decide), gd_set_ne (by decide)]; exact t3
        have o4 : RT (A 47) (A 48) (((((B 0).set 0 0).set 52 0)).getD 61 0) (B 35) 10 (okN 9) := by
          rw [gd_set_ne (by decide), gd_set_ne (by decide)]; exact t4
        exact ⟨o0, n1, o2, o3, o4⟩
  · by_cases hx : 0 ≤ x ∧ x ≤ nI 1
    · by_cases hf : k = 16
      · have g1 : lf rh40 2 (gX8_tell x) A = some (-1, A) := by
          have := p_tell (T := fun i => A (rh40 i)) (v := x) c1 c2 (by decide) hk c4
          rw [if_pos hf] at this
          rw [lf_run this, pu_self]
        refine ⟨-nI 1, A, _, ?_, ?_, hRt⟩
        · unfold gX10_answer
          simp (disch := first | omega | (simp only [up_ap, List.length_set, Nat.reduceEqDiff, reduceIte]; omega)) only [bd_pr, pr_ap, jn_eq, lt_eq, bd_bd, bd_ite, ite_ap, bd_ld, bd_sv, bd_la, bd_sa, bd_ln, bd_rz0, bd_rz1, rz_n0, rz_n1, e_lit2, nI_z, nI_eq0, nI_0eq, nI_le0, nI_lt0, nI_0lt, nI_0le, e_001, e_n10, e_n1lt, bd_la0, bd_sa0, bd_rz00, rz_0, rz_1, b2i_0, Int32.add_zero, Int32.zero_add, nI_add, nI_pred2, pk_sub, pk_mul, pk_div, e_nz, nI_eq, nI_leI, nI_ltI, e_nm1, e_nm2, up_ap, gd_set_ne, gd_set_same, List.length_set, Nat.add_sub_cancel, Nat.reduceEqDiff, Nat.reduceAdd, Nat.reduceMul, Nat.reduceSub, Nat.reduceLT, Nat.reduceLeDiff, reduceIte, Nat.not_lt_zero, not_true_eq_false, not_false_eq_true, and_true, true_and, and_false, false_and, h0]
          rw [bd_iw, b2i_t hx]
          simp (disch := first | omega | (simp only [up_ap, List.length_set, Nat.reduceEqDiff, reduceIte]; omega)) only [bd_pr, pr_ap, jn_eq, lt_eq, bd_bd, bd_ite, ite_ap, bd_ld, bd_sv, bd_la, bd_sa, bd_ln, bd_rz0, bd_rz1, rz_n0, rz_n1, e_lit2, nI_z, nI_eq0, nI_0eq, nI_le0, nI_lt0, nI_0lt, nI_0le, e_001, e_n10, e_n1lt, bd_la0, bd_sa0, bd_rz00, rz_0, rz_1, b2i_0, Int32.add_zero, Int32.zero_add, nI_add, nI_pred2, pk_sub, pk_mul, pk_div, e_nz, nI_eq, nI_leI, nI_ltI, e_nm1, e_nm2, up_ap, gd_set_ne, gd_set_same, List.length_set, Nat.add_sub_cancel, Nat.reduceEqDiff, Nat.reduceAdd, Nat.reduceMul, Nat.reduceSub, Nat.reduceLT, Nat.reduceLeDiff, reduceIte, Nat.not_lt_zero, not_true_eq_false, not_false_eq_true, and_true, true_and, and_false, false_and, Nat_1_le_0]
          rw [bd_some g1]; rfl
        · unfold gX11_answer
          simp (disch := first | omega | (simp only [up_ap, List.length_set, Nat.reduceEqDiff, reduceIte]; omega)) only [bd_pr, pr_ap, jn_eq, lt_eq, bd_bd, bd_ite, ite_ap, bd_ld, bd_sv, bd_la, bd_sa, bd_ln, bd_rz0, bd_rz1, rz_n0, rz_n1, e_lit2, nI_z, nI_eq0, nI_0eq, nI_le0, nI_lt0, nI_0lt, nI_0le, e_001, e_n10, e_n1lt, bd_la0, bd_sa0, bd_rz00, rz_0, rz_1, b2i_0, Int32.add_zero, Int32.zero_add, nI_add, nI_pred2, pk_sub, pk_mul, pk_div, e_nz, nI_eq, nI_leI, nI_ltI, e_nm1, e_nm2, up_ap, gd_set_ne, gd_set_same, List.length_set, Nat.add_sub_cancel, Nat.reduceEqDiff, Nat.reduceAdd, Nat.reduceMul, Nat.reduceSub, Nat.reduceLT, Nat.reduceLeDiff, reduceIte, Nat.not_lt_zero, not_true_eq_false, not_false_eq_true, and_true, true_and, and_false, false_and, h0]
          rw [bd_in, b2i_t hx]
          simp (disch := first | omega | (simp only [up_ap, List.length_set, Nat.reduceEqDiff, reduceIte]; omega)) only [bd_pr, pr_ap, jn_eq, lt_eq, bd_bd, bd_ite, ite_ap, bd_ld, bd_sv, bd_la, bd_sa, bd_ln, bd_rz0, bd_rz1, rz_n0, rz_n1, e_lit2, nI_z, nI_eq0, nI_0eq, nI_le0, nI_lt0, nI_0lt, nI_0le, e_001, e_n10, e_n1lt, bd_la0, bd_sa0, bd_rz00, rz_0, rz_1, b2i_0, Int32.add_zero, Int32.zero_add, nI_add, nI_pred2, pk_sub, pk_mul, pk_div, e_nz, nI_eq, nI_leI, nI_ltI, e_nm1, e_nm2, up_ap, gd_set_ne, gd_set_same, List.length_set, Nat.add_sub_cancel, Nat.reduceEqDiff, Nat.reduceAdd, Nat.reduceMul, Nat.reduceSub, Nat.reduceLT, Nat.reduceLeDiff, reduceIte, Nat.not_lt_zero, not_true_eq_false, not_false_eq_true, and_true, true_and, and_false, false_and, Nat_1_le_0, c5, hf]
      · have g1 : lf rh40 2 (gX8_tell x) A = some (nI (k + 1), up (up A 42 ((A 42).set k x)) 41 ((A 41).set 0 (nI (k + 1)))) := by
          have := p_tell (T := fun i => A (rh40 i)) (v := x) c1 c2 (by decide) hk c4
          rw [if_neg hf] at this
          rw [lf_run this, pu_up inj (i := 0) (by decide), pu1 inj (i := 1) (by decide)]; rfl
        refine ⟨nI (k + 1), up (up A 42 ((A 42).set k x)) 41 ((A 41).set 0 (nI (k + 1))), up (up B 29 ((B 29).set k x)) 0 (((B 0).set 0 0).set 52 (nI (k + 1))), ?_, ?_, ?_⟩
        · unfold gX10_answer
          simp (disch := first | omega | (simp only [up_ap, List.length_set, Nat.reduceEqDiff, reduceIte]; omega)) only [bd_pr, pr_ap, jn_eq, lt_eq, bd_bd, bd_ite, ite_ap, bd_ld, bd_sv, bd_la, bd_sa, bd_ln, bd_rz0, bd_rz1, rz_n0, rz_n1, e_lit2, nI_z, nI_eq0, nI_0eq, nI_le0, nI_lt0, nI_0lt, nI_0le, e_001, e_n10, e_n1lt, bd_la0, bd_sa0, bd_rz00, rz_0, rz_1, b2i_0, Int32.add_zero, Int32.zero_add, nI_add, nI_pred2, pk_sub, pk_mul, pk_div, e_nz, nI_eq, nI_leI, nI_ltI, e_nm1, e_nm2, up_ap, gd_set_ne, gd_set_same, List.length_set, Nat.add_sub_cancel, Nat.reduceEqDiff, Nat.reduceAdd, Nat.reduceMul, Nat.reduceSub, Nat.reduceLT, Nat.reduceLeDiff, reduceIte, Nat.not_lt_zero, not_true_eq_false, not_false_eq_true, and_true, true_and, and_false, false_and, h0]
          rw [bd_iw, b2i_t hx]
          simp (disch := first | omega | (simp only [up_ap, List.length_set, Nat.reduceEqDiff, reduceIte]; omega)) only [bd_pr, pr_ap, jn_eq, lt_eq, bd_bd, bd_ite, ite_ap, bd_ld, bd_sv, bd_la, bd_sa, bd_ln, bd_rz0, bd_rz1, rz_n0, rz_n1, e_lit2, nI_z, nI_eq0, nI_0eq, nI_le0, nI_lt0, nI_0lt, nI_0le, e_001, e_n10, e_n1lt, bd_la0, bd_sa0, bd_rz00, rz_0, rz_1, b2i_0, Int32.add_zero, Int32.zero_add, nI_add, nI_pred2, pk_sub, pk_mul, pk_div, e_nz, nI_eq, nI_leI, nI_ltI, e_nm1, e_nm2, up_ap, gd_set_ne, gd_set_same, List.length_set, Nat.add_sub_cancel, Nat.reduceEqDiff, Nat.reduceAdd, Nat.reduceMul, Nat.reduceSub, Nat.reduceLT, Nat.reduceLeDiff, reduceIte, Nat.not_lt_zero, not_true_eq_false, not_false_eq_true, and_true, true_and, and_false, false_and, Nat_1_le_0]
          rw [bd_some g1]
          first | done | rfl
        · unfold gX11_answer
          simp (disch := first | omega | (simp only [up_ap, List.length_set, Nat.reduceEqDiff, reduceIte]; omega)) only [bd_pr, pr_ap, jn_eq, lt_eq, bd_bd, bd_ite, ite_ap, bd_ld, bd_sv, bd_la, bd_sa, bd_ln, bd_rz0, bd_rz1, rz_n0, rz_n1, e_lit2, nI_z, nI_eq0, nI_0eq, nI_le0, nI_lt0, nI_0lt, nI_0le, e_001, e_n10, e_n1lt, bd_la0, bd_sa0, bd_rz00, rz_0, rz_1, b2i_0, Int32.add_zero, Int32.zero_add, nI_add, nI_pred2, pk_sub, pk_mul, pk_div, e_nz, nI_eq, nI_leI, nI_ltI, e_nm1, e_nm2, up_ap, gd_set_ne, gd_set_same, List.length_set, Nat.add_sub_cancel, Nat.reduceEqDiff, Nat.reduceAdd, Nat.reduceMul, Nat.reduceSub, Nat.reduceLT, Nat.reduceLeDiff, reduceIte, Nat.not_lt_zero, not_true_eq_false, not_false_eq_true, and_true, true_and, and_false, false_and, h0]
          rw [bd_in, b2i_t hx]
          simp (disch := first | omega | (simp only [up_ap, List.length_set, Nat.reduceEqDiff, reduceIte]; omega)) only [bd_pr, pr_ap, jn_eq, lt_eq, bd_bd, bd_ite, ite_ap, bd_ld, bd_sv, bd_la, bd_sa, bd_ln, bd_rz0, bd_rz1, rz_n0, rz_n1, e_lit2, nI_z, nI_eq0, nI_0eq, nI_le0, nI_lt0, nI_0lt, nI_0le, e_001, e_n10, e_n1lt, bd_la0, bd_sa0, bd_rz00, rz_0, rz_1, b2i_0, Int32.add_zero, Int32.zero_add, nI_add, nI_pred2, pk_sub, pk_mul, pk_div, e_nz, nI_eq, nI_leI, nI_ltI, e_nm1, e_nm2, up_ap, gd_set_ne, gd_set_same, List.length_set, Nat.add_sub_cancel, Nat.reduceEqDiff, Nat.reduceAdd, Nat.reduceMul, Nat.reduceSub, Nat.reduceLT, Nat.reduceLeDiff, reduceIte, Nat.not_lt_zero, not_true_eq_false, not_false_eq_true, and_true, true_and, and_false, false_and, Nat_1_le_0, c5, hf, up_up]
          first | done | rw [up_comm B (i := 0) (j := 29) (by decide), up_up]
        · refine R_TT h (fun j a b => by rw [up_ne _ _ (by omega), up_ne _ _ (by omega)]) (fun i a b c => by rw [up_ne _ _ b, up_ne _ _ (fun q => c (by rw [q]; decide))]) (by rw [up_same]; simp only [List.length_set]) (fun s hs => ?_) ?_
          · rw [up_same, gd_set_ne (fun q => by subst q; exact absurd hs (by decide)), gd_set_ne (fun q => by subst q; exact absurd hs (by decide))]
          · have e : ((((B 0).set 0 0).set 52 (nI (k + 1)))).getD 52 0 = nI (k + 1) := gd_set_same (by rw [List.length_set, hb0]; decide)
            have n1 : RT ((A 41).set 0 (nI (k + 1))) ((A 42).set k x) (((((B 0).set 0 0).set 52 (nI (k + 1)))).getD 52 0) ((B 29).set k x) 16 (okN 1) := by rw [e]; exact RT_put t1 (by omega) c5 (by decide) (by obtain ⟨j, hj, rfl⟩ := wi_rng (n := 1) (by decide) hx; exact ⟨j, hj, rfl⟩)
            have o0 : RT (A 39) (A 40) (((((B 0).set 0 0).set 52 (nI (k + 1)))).getD 43 0) (B 22) 12 okB := by
              rw [gd_set_ne (by decide), gd_set_ne (by decide)]; exact t0
            have o2 : RT (A 43) (A 44) (((((B 0).set 0 0).set 52 (nI (k + 1)))).getD 54 0) (B 30) 12 (okN 99) := by
              rw [gd_set_ne (by decide), gd_set_ne (by decide)]; exact t2
            have o3 : RT (A 45) (A 46) (((((B 0).set 0 0).set 52 (nI (k + 1)))).getD 57 0) (B 32) 16 (okN 9) := by
              rw [gd_set_ne (by decide), gd_set_ne (by decide)]; exact t3
            have o4 : RT (A 47) (A 48) (((((B 0).set 0 0).set 52 (nI (k + 1)))).getD 61 0) (B 35) 10 (okN 9) := by
              rw [gd_set_ne (by decide), gd_set_ne (by decide)]; exact t4
            exact ⟨o0, n1, o2, o3, o4⟩
    · refine ⟨-nI 1, A, _, ?_, ?_, hRt⟩
      · unfold gX10_answer
        simp (disch := first | omega | (simp only [up_ap, List.length_set, Nat.reduceEqDiff, reduceIte]; omega)) only [bd_pr, pr_ap, jn_eq, lt_eq, bd_bd, bd_ite, ite_ap, bd_ld, bd_sv, bd_la, bd_sa, bd_ln, bd_rz0, bd_rz1, rz_n0, rz_n1, e_lit2, nI_z, nI_eq0, nI_0eq, nI_le0, nI_lt0, nI_0lt, nI_0le, e_001, e_n10, e_n1lt, bd_la0, bd_sa0, bd_rz00, rz_0, rz_1, b2i_0, Int32.add_zero, Int32.zero_add, nI_add, nI_pred2, pk_sub, pk_mul, pk_div, e_nz, nI_eq, nI_leI, nI_ltI, e_nm1, e_nm2, up_ap, gd_set_ne, gd_set_same, List.length_set, Nat.add_sub_cancel, Nat.reduceEqDiff, Nat.reduceAdd, Nat.reduceMul, Nat.reduceSub, Nat.reduceLT, Nat.reduceLeDiff, reduceIte, Nat.not_lt_zero, not_true_eq_false, not_false_eq_true, and_true, true_and, and_false, false_and, h0]
        rw [bd_iw, b2i_f hx]
        simp (disch := first | omega | (simp only [up_ap, List.length_set, Nat.reduceEqDiff, reduceIte]; omega)) only [bd_pr, pr_ap, jn_eq, lt_eq, bd_bd, bd_ite, ite_ap, bd_ld, bd_sv, bd_la, bd_sa, bd_ln, bd_rz0, bd_rz1, rz_n0, rz_n1, e_lit2, nI_z, nI_eq0, nI_0eq, nI_le0, nI_lt0, nI_0lt, nI_0le, e_001, e_n10, e_n1lt, bd_la0, bd_sa0, bd_rz00, rz_0, rz_1, b2i_0, Int32.add_zero, Int32.zero_add, nI_add, nI_pred2, pk_sub, pk_mul, pk_div, e_nz, nI_eq, nI_leI, nI_ltI, e_nm1, e_nm2, up_ap, gd_set_ne, gd_set_same, List.length_set, Nat.add_sub_cancel, Nat.reduceEqDiff, Nat.reduceAdd, Nat.reduceMul, Nat.reduceSub, Nat.reduceLT, Nat.reduceLeDiff, reduceIte, Nat.not_lt_zero, not_true_eq_false, not_false_eq_true, and_true, true_and, and_false, false_and]
      · unfold gX11_answer
        simp (disch := first | omega | (simp only [up_ap, List.length_set, Nat.reduceEqDiff, reduceIte]; omega)) only [bd_pr, pr_ap, jn_eq, lt_eq, bd_bd, bd_ite, ite_ap, bd_ld, bd_sv, bd_la, bd_sa, bd_ln, bd_rz0, bd_rz1, rz_n0, rz_n1, e_lit2, nI_z, nI_eq0, nI_0eq, nI_le0, nI_lt0, nI_0lt, nI_0le, e_001, e_n10, e_n1lt, bd_la0, bd_sa0, bd_rz00, rz_0, rz_1, b2i_0, Int32.add_zero, Int32.zero_add, nI_add, nI_pred2, pk_sub, pk_mul, pk_div, e_nz, nI_eq, nI_leI, nI_ltI, e_nm1, e_nm2, up_ap, gd_set_ne, gd_set_same, List.length_set, Nat.add_sub_cancel, Nat.reduceEqDiff, Nat.reduceAdd, Nat.reduceMul, Nat.reduceSub, Nat.reduceLT, Nat.reduceLeDiff, reduceIte, Nat.not_lt_zero, not_true_eq_false, not_false_eq_true, and_true, true_and, and_false, false_and, h0]
        rw [bd_in, b2i_f hx]
        simp (disch := first | omega | (simp only [up_ap, List.length_set, Nat.reduceEqDiff, reduceIte]; omega)) only [bd_pr, pr_ap, jn_eq, lt_eq, bd_bd, bd_ite, ite_ap, bd_ld, bd_sv, bd_la, bd_sa, bd_ln, bd_rz0, bd_rz1, rz_n0, rz_n1, e_lit2, nI_z, nI_eq0, nI_0eq, nI_le0, nI_lt0, nI_0lt, nI_0le, e_001, e_n10, e_n1lt, bd_la0, bd_sa0, bd_rz00, rz_0, rz_1, b2i_0, Int32.add_zero, Int32.zero_add, nI_add, nI_pred2, pk_sub, pk_mul, pk_div, e_nz, nI_eq, nI_leI, nI_ltI, e_nm1, e_nm2, up_ap, gd_set_ne, gd_set_same, List.length_set, Nat.add_sub_cancel, Nat.reduceEqDiff, Nat.reduceAdd, Nat.reduceMul, Nat.reduceSub, Nat.reduceLT, Nat.reduceLeDiff, reduceIte, Nat.not_lt_zero, not_true_eq_false, not_false_eq_true, and_true, true_and, and_false, false_and]
set_option maxHeartbeats 400000 in
theorem op_key {A B : Bk} (h : R A B) (x : Int32) : ∃ r A' B', gX10_key x A = some (r, A') ∧ gX11_key x B = some (r, B') ∧ R A' B' := by
  have hb0 := R_B0 h
  have hRt := R_told h
  obtain ⟨⟨np, nc, nt, ks, wh, ⟨hR, ht⟩, hU⟩, -⟩ := id h
  obtain ⟨t0, t1, t2, t3, t4⟩ := id ht
  obtain ⟨c1, c2, c3, k, hk, c4, c5, c6⟩ := id t2
  have c1 : (A 43).length = 2 := c1
  have c2 : (A 44).length = 12 := c2
  have c4 : (A 43).getD 0 0 = nI k := c4
  have inj : ∀ i j, i < 2 → j < 2 → rh41 i = rh41 j → i = j := inj_d (by decide +kernel)
  by_cases h0 : x = -nI 1
  · subst h0
    have g1 : lf rh41 2 gX8_empty A = some (0, up A 43 ((A 43).set 0 0)) := by
      rw [lf_run (p_empty (T := fun i => A (rh41 i)) c1), pu1 inj (i := 0) (by decide)]; rfl
    refine ⟨0, up A 43 ((A 43).set 0 0), up B 0 (((B 0).set 0 0).set 54 0), ?_, ?_, ?_⟩
    · unfold gX10_key
      simp (disch := first | omega | (simp only [up_ap, List.length_set, Nat.reduceEqDiff, reduceIte]; omega)) only [bd_pr, pr_ap, jn_eq, lt_eq, bd_bd, bd_ite, ite_ap, bd_ld, bd_sv, bd_la, bd_sa, bd_ln, bd_rz0, bd_rz1, rz_n0, rz_n1, e_lit2, nI_z, nI_eq0, nI_0eq, nI_le0, nI_lt0, nI_0lt, nI_0le, e_001, e_n10, e_n1lt, bd_la0, bd_sa0, bd_rz00, rz_0, rz_1, b2i_0, Int32.add_zero, Int32.zero_add, nI_add, nI_pred2, pk_sub, pk_mul, pk_div, e_nz, nI_eq, nI_leI, nI_ltI, e_nm1, e_nm2, up_ap, gd_set_ne, gd_set_same, List.length_set, Nat.add_sub_cancel, Nat.reduceEqDiff, Nat.reduceAdd, Nat.reduceMul, Nat.reduceSub, Nat.reduceLT, Nat.reduceLeDiff, reduceIte, Nat.not_lt_zero, not_true_eq_false, not_false_eq_true, and_true, true_and, and_false, false_and]
      rw [bd_some g1]
      first | done | rfl
    · unfold gX11_key
      simp (disch := first | omega | (simp only [up_ap, List.length_set, Nat.reduceEqDiff, reduceIte]; omega)) only [bd_pr, pr_ap, jn_eq, lt_eq, bd_bd, bd_ite, ite_ap, bd_ld, bd_sv, bd_la, bd_sa, bd_ln, bd_rz0, bd_rz1, rz_n0, rz_n1, e_lit2, nI_z, nI_eq0, nI_0eq, nI_le0, nI_lt0, nI_0lt, nI_0le, e_001, e_n10, e_n1lt, bd_la0, bd_sa0, bd_rz00, rz_0, rz_1, b2i_0, Int32.add_zero, Int32.zero_add, nI_add, nI_pred2, pk_sub, pk_mul, pk_div, e_nz, nI_eq, nI_leI, nI_ltI, e_nm1, e_nm2, up_ap, gd_set_ne, gd_set_same, List.length_set, Nat.add_sub_cancel, Nat.reduceEqDiff, Nat.reduceAdd, Nat.reduceMul, Nat.reduceSub, Nat.reduceLT, Nat.reduceLeDiff, reduceIte, Nat.not_lt_zero, not_true_eq_false, not_false_eq_true, and_true, true_and, and_false, false_and, up_up]
    · refine R_TT h (fun j a b => up_ne _ _ (by omega)) (fun i a b c => up_ne _ _ b) (up_len (by simp only [List.length_set]) 0) (fun s hs => ?_) ?_
      · rw [up_same, gd_set_ne (fun q => by subst q; exact absurd hs (by decide)), gd_set_ne (fun q => by subst q; exact absurd hs (by decide))]
      · have e : ((((B 0).set 0 0).set 54 0)).getD 54 0 = 0 := gd_set_same (by rw [List.length_set, hb0]; decide)
        have n2 : RT ((A 43).set 0 0) (A 44) (((((B 0).set 0 0).set 54 0)).getD 54 0) (B 30) 12 (okN 99) := by rw [e]; exact RT_zero t2
        have o0 : RT (A 39) (A 40) (((((B 0).set 0 0).set 54 0)).getD 43 0) (B 22) 12 okB := by
          rw [gd_set_ne (by decide), gd_set_ne (by decide)]; exact t0
        have o1 : RT (A 41) (A 42) (((((B 0).set 0 0).set 54 0)).getD 52 0) (B 29) 16 (okN 1) := by
          rw [gd_set_ne (by decide), gd_set_ne (by decide)]; exact t1
        have o3 : RT (A 45) (A 46) (((((B 0).set 0 0).set 54 0)).getD 57 0) (B 32) 16 (okN 9) := by
          rw [gd_set_ne (by decide), gd_set_ne (by decide)]; exact t3
        have o4 : RT (A 47) (A 48) (((((B 0).set 0 0).set 54 0)).getD 61 0) (B 35) 10 (okN 9) := by
          rw [gd_set_ne (by decide), gd_set_ne (by decide)]; exact t4
        exact ⟨o0, o1, n2, o3, o4⟩
  · by_cases hx : 0 ≤ x ∧ x ≤ nI 99
    · by_cases hf : k = 12
      · have g1 : lf rh41 2 (gX8_tell x) A = some (-1, A) := by
          have := p_tell (T := fun i => A (rh41 i)) (v := x) c1 c2 (by decide) hk c4
          rw [if_pos hf] at this
          rw [lf_run this, pu_self]
        refine ⟨-nI 1, A, _, ?_, ?_, hRt⟩
        · unfold gX10_key
          simp (disch := first | omega | (simp only [up_ap, List.length_set, Nat.reduceEqDiff, reduceIte]; omega)) only [bd_pr, pr_ap, jn_eq, lt_eq, bd_bd, bd_ite, ite_ap, bd_ld, bd_sv, bd_la, bd_sa, bd_ln, bd_rz0, bd_rz1, rz_n0, rz_n1, e_lit2, nI_z, nI_eq0, nI_0eq, nI_le0, nI_lt0, nI_0lt, nI_0le, e_001, e_n10, e_n1lt, bd_la0, bd_sa0, bd_rz00, rz_0, rz_1, b2i_0, Int32.add_zero, Int32.zero_add, nI_add, nI_pred2, pk_sub, pk_mul, pk_div, e_nz, nI_eq, nI_leI, nI_ltI, e_nm1, e_nm2, up_ap, gd_set_ne, gd_set_same, List.length_set, Nat.add_sub_cancel, Nat.reduceEqDiff, Nat.reduceAdd, Nat.reduceMul, Nat.reduceSub, Nat.reduceLT, Nat.reduceLeDiff, reduceIte, Nat.not_lt_zero, not_true_eq_false, not_false_eq_true, and_true, true_and, and_false, false_and, h0]
          rw [bd_iw, b2i_t hx]
          simp (disch := first | omega | (simp only [up_ap, List.length_set, Nat.reduceEqDiff, reduceIte]; omega)) only [bd_pr, pr_ap, jn_eq, lt_eq, bd_bd, bd_ite, ite_ap, bd_ld, bd_sv, bd_la, bd_sa, bd_ln, bd_rz0, bd_rz1, rz_n0, rz_n1, e_lit2, nI_z, nI_eq0, nI_0eq, nI_le0, nI_lt0, nI_0lt, nI_0le, e_001, e_n10, e_n1lt, bd_la0, bd_sa0, bd_rz00, rz_0, rz_1, b2i_0, Int32.add_zero, Int32.zero_add, nI_add, nI_pred2, pk_sub, pk_mul, pk_div, e_nz, nI_eq, nI_leI, nI_ltI, e_nm1, e_nm2, up_ap, gd_set_ne, gd_set_same, List.length_set, Nat.add_sub_cancel, Nat.reduceEqDiff, Nat.reduceAdd, Nat.reduceMul, Nat.reduceSub, Nat.reduceLT, Nat.reduceLeDiff, reduceIte, Nat.not_lt_zero, not_true_eq_false, not_false_eq_true, and_true, true_and, and_false, false_and, Nat_1_le_0]
          rw [bd_some g1]; rfl
        · unfold gX11_key
          simp (disch := first | omega | (simp only [up_ap, List.length_set, Nat.reduceEqDiff, reduceIte]; omega)) only [bd_pr, pr_ap, jn_eq, lt_eq, bd_bd, bd_ite, ite_ap, bd_ld, bd_sv, bd_la, bd_sa, bd_ln, bd_rz0, bd_rz1, rz_n0, rz_n1, e_lit2, nI_z, nI_eq0, nI_0eq, nI_le0, nI_lt0, nI_0lt, nI_0le, e_001, e_n10, e_n1lt, bd_la0, bd_sa0, bd_rz00, rz_0, rz_1, b2i_0, Int32.add_zero, Int32.zero_add, nI_add, nI_pred2, pk_sub, pk_mul, pk_div, e_nz, nI_eq, nI_leI, nI_ltI, e_nm1, e_nm2, up_ap, gd_set_ne, gd_set_same, List.length_set, Nat.add_sub_cancel, Nat.reduceEqDiff, Nat.reduceAdd, Nat.reduceMul, Nat.reduceSub, Nat.reduceLT, Nat.reduceLeDiff, reduceIte, Nat.not_lt_zero, not_true_eq_false, not_false_eq_true, and_true, true_and, and_false, false_and, h0]
          rw [bd_in, b2i_t hx]
          simp (disch := first | omega | (simp only [up_ap, List.length_set, Nat.reduceEqDiff, reduceIte]; omega)) only [bd_pr, pr_ap, jn_eq, lt_eq, bd_bd, bd_ite, ite_ap, bd_ld, bd_sv, bd_la, bd_sa, bd_ln, bd_rz0, bd_rz1, rz_n0, rz_n1, e_lit2, nI_z, nI_eq0, nI_0eq, nI_le0, nI_lt0, nI_0lt, nI_0le, e_001, e_n10, e_n1lt, bd_la0, bd_sa0, bd_rz00, rz_0, rz_1, b2i_0, Int32.add_zero, Int32.zero_add, nI_add, nI_pred2, pk_sub, pk_mul, pk_div, e_nz, nI_eq, nI_leI, nI_ltI, e_nm1, e_nm2, up_ap, gd_set_ne, gd_set_same, List.length_set, Nat.add_sub_cancel, Nat.reduceEqDiff, Nat.reduceAdd, Nat.reduceMul, Nat.reduceSub, Nat.reduceLT, Nat.reduceLeDiff, reduceIte, Nat.not_lt_zero, not_true_eq_false, not_false_eq_true, and_true, true_and, and_false, false_and, Nat_1_le_0, c5, hf]
      · have g1 : lf rh41 2 (gX8_tell x) A = some (nI (k + 1), up (up A 44 ((A 44).set k x)) 43 ((A 43).set 0 (nI (k + 1)))) := by
          have := p_tell (T := fun i => A (rh41 i)) (v := x) c1 c2 (by decide) hk c4
          rw [if_neg hf] at this
          rw [lf_run this, pu_up inj (i := 0) (by decide), pu1 inj (i := 1) (by decide)]; rfl
        refine ⟨nI (k + 1), up (up A 44 ((A 44).set k x)) 43 ((A 43).set 0 (nI (k + 1))), up (up B 30 ((B 30).set k x)) 0 (((B 0).set 0 0).set 54 (nI (k + 1))), ?_, ?_, ?_⟩
        · unfold gX10_key
          simp (disch := first | omega | (simp only [up_ap, List.length_set, Nat.reduceEqDiff, reduceIte]; omega)) only [bd_pr, pr_ap, jn_eq, lt_eq, bd_bd, bd_ite, ite_ap, bd_ld, bd_sv, bd_la, bd_sa, bd_ln, bd_rz0, bd_rz1, rz_n0, rz_n1, e_lit2, nI_z, nI_eq0, nI_0eq, nI_le0, nI_lt0, nI_0lt, nI_0le, e_001, e_n10, e_n1lt, bd_la0, bd_sa0, bd_rz00, rz_0, rz_1, b2i_0, Int32.add_zero, Int32.zero_add, nI_add, nI_pred2, pk_sub, pk_mul, pk_div, e_nz, nI_eq, nI_leI, nI_ltI, e_nm1, e_nm2, up_ap, gd_set_ne, gd_set_same, List.length_set, Nat.add_sub_cancel, Nat.reduceEqDiff, Nat.reduceAdd, Nat.reduceMul, Nat.reduceSub, Nat.reduceLT, Nat.reduceLeDiff, reduceIte, Nat.not_lt_zero, not_true_eq_false, not_false_eq_true, and_true, true_and, and_false, false_and, h0]
          rw [bd_iw, b2i_t hx]
          simp (disch := first | omega | (simp only [up_ap, List.length_set, Nat.reduceEqDiff, reduceIte]; omega)) only [bd_pr, pr_ap, jn_eq, lt_eq, bd_bd, bd_ite, ite_ap, bd_ld, bd_sv, bd_la, bd_sa, bd_ln, bd_rz0, bd_rz1, rz_n0, rz_n1, e_lit2, nI_z, nI_eq0, nI_0eq, nI_le0, nI_lt0, nI_0lt, nI_0le, e_001, e_n10, e_n1lt, bd_la0, bd_sa0, bd_rz00, rz_0, rz_1, b2i_0, Int32.add_zero, Int32.zero_add, nI_add, nI_pred2, pk_sub, pk_mul, pk_div, e_nz, nI_eq, nI_leI, nI_ltI, e_nm1, e_nm2, up_ap, gd_set_ne, gd_set_same, List.length_set, Nat.add_sub_cancel, Nat.reduceEqDiff, Nat.reduceAdd, Nat.reduceMul, Nat.reduceSub, Nat.reduceLT, Nat.reduceLeDiff, reduceIte, Nat.not_lt_zero, not_true_eq_false, not_false_eq_true, and_true, true_and, and_false, false_and, Nat_1_le_0]
          rw [bd_some g1]
          first | done | rfl
        · unfold gX11_key
          simp (disch := first | omega | (simp only [up_ap, List.length_set, Nat.reduceEqDiff, reduceIte]; omega)) only [bd_pr, pr_ap, jn_eq, lt_eq, bd_bd, bd_ite, ite_ap, bd_ld, bd_sv, bd_la, bd_sa, bd_ln, bd_rz0, bd_rz1, rz_n0, rz_n1, e_lit2, nI_z, nI_eq0, nI_0eq, nI_le0, nI_lt0, nI_0lt, nI_0le, e_001, e_n10, e_n1lt, bd_la0, bd_sa0, bd_rz00, rz_0, rz_1, b2i_0, Int32.add_zero, Int32.zero_add, nI_add, nI_pred2, pk_sub, pk_mul, pk_div, e_nz, nI_eq, nI_leI, nI_ltI, e_nm1, e_nm2, up_ap, gd_set_ne, gd_set_same, List.length_set, Nat.add_sub_cancel, Nat.reduceEqDiff, Nat.reduceAdd, Nat.reduceMul, Nat.reduceSub, Nat.reduceLT, Nat.reduceLeDiff, reduceIte, Nat.not_lt_zero, not_true_eq_false, not_false_eq_true, and_true, true_and, and_false, false_and, h0]
          rw [bd_in, b2i_t hx]
          simp (disch := first | omega | (simp only [up_ap, List.length_set, Nat.reduceEqDiff, reduceIte]; omega)) only [bd_pr, pr_ap, jn_eq, lt_eq, bd_bd, bd_ite, ite_ap, bd_ld, bd_sv, bd_la, bd_sa, bd_ln, bd_rz0, bd_rz1, rz_n0, rz_n1, e_lit2, nI_z, nI_eq0, nI_0eq, nI_le0, nI_lt0, nI_0lt, nI_0le, e_001, e_n10, e_n1lt, bd_la0, bd_sa0, bd_rz00, rz_0, rz_1, b2i_0, Int32.add_zero, Int32.zero_add, nI_add, nI_pred2, pk_sub, pk_mul, pk_div, e_nz, nI_eq, nI_leI, nI_ltI, e_nm1, e_nm2, up_ap, gd_set_ne, gd_set_same, List.length_set, Nat.add_sub_cancel, Nat.reduceEqDiff, Nat.reduceAdd, Nat.reduceMul, Nat.reduceSub, Nat.reduceLT, Nat.reduceLeDiff, reduceIte, Nat.not_lt_zero, not_true_eq_false, not_false_eq_true, and_true, true_and, and_false, false_and, Nat_1_le_0, c5, hf, up_up]
          first | done | rw [up_comm B (i := 0) (j := 30) (by decide), up_up]
        · refine R_TT h (fun j a b => by rw [up_ne _ _ (by omega), up_ne _ _ (by omega)]) (fun i a b c => by rw [up_ne _ _ b, up_ne _ _ (fun q => c (by rw [q]; decide))]) (by rw [up_same]; simp only [List.length_set]) (fun s hs => ?_) ?_
          · rw [up_same, gd_set_ne (fun q => by subst q; exact absurd hs (by decide)), gd_set_ne (fun q => by subst q; exact absurd hs (by decide))]
          · have e : ((((B 0).set 0 0).set 54 (nI (k + 1)))).getD 54 0 = nI (k + 1) := gd_set_same (by rw [List.length_set, hb0]; decide)
            have n2 : RT ((A 43).set 0 (nI (k + 1))) ((A 44).set k x) (((((B 0).set 0 0).set 54 (nI (k + 1)))).getD 54 0) ((B 30).set k x) 12 (okN 99) := by rw [e]; exact RT_put t2 (by omega) c5 (by decide) (by obtain ⟨j, hj, rfl⟩ := wi_rng (n := 99) (by decide) hx; exact ⟨j, hj, rfl⟩)
            have o0 : RT (A 39) (A 40) (((((B 0).set 0 0).set 54 (nI (k + 1)))).getD 43 0) (B 22) 12 okB := by
              rw [gd_set_ne (by decide), gd_set_ne (by decide)]; exact t0
            have o1 : RT (A 41) (A 42) (((((B 0).set 0 0).set 54 (nI (k + 1)))).getD 52 0) (B 29) 16 (okN 1) := by
              rw [gd_set_ne (by decide), gd_set_ne (by decide)]; exact t1
            have o3 : RT (A 45) (A 46) (((((B 0).set 0 0).set 54 (nI (k + 1)))).getD 57 0) (B 32) 16 (okN 9) := by
              rw [gd_set_ne (by decide), gd_set_ne (by decide)]; exact t3
            have o4 : RT (A 47) (A 48) (((((B 0).set 0 0).set 54 (nI (k + 1)))).getD 61 0) (B 35) 10 (okN 9) := by
              rw [gd_set_ne (by decide), gd_set_ne (by decide)]; exact t4
            exact ⟨o0, o1, n2, o3, o4⟩
    · refine ⟨-nI 1, A, _, ?_, ?_, hRt⟩
      · unfold gX10_key
        simp (disch := first | omega | (simp only [up_ap, List.length_set, Nat.reduceEqDiff, reduceIte]; omega)) only [bd_pr, pr_ap, jn_eq, lt_eq, bd_bd, bd_ite, ite_ap, bd_ld, bd_sv, bd_la, bd_sa, bd_ln, bd_rz0, bd_rz1, rz_n0, rz_n1, e_lit2, nI_z, nI_eq0, nI_0eq, nI_le0, nI_lt0, nI_0lt, nI_0le, e_001, e_n10, e_n1lt, bd_la0, bd_sa0, bd_rz00, rz_0, rz_1, b2i_0, Int32.add_zero, Int32.zero_add, nI_add, nI_pred2, pk_sub, pk_mul, pk_div, e_nz, nI_eq, nI_leI, nI_ltI, e_nm1, e_nm2, up_ap, gd_set_ne, gd_set_same, List.length_set, Nat.add_sub_cancel, Nat.reduceEqDiff, Nat.reduceAdd, Nat.reduceMul, Nat.reduceSub, Nat.reduceLT, Nat.reduceLeDiff, reduceIte, Nat.not_lt_zero, not_true_eq_false, not_false_eq_true, and_true, true_and, and_false, false_and, h0]
        rw [bd_iw, b2i_f hx]
        simp (disch := first | omega | (simp only [up_ap, List.length_set, Nat.reduceEqDiff, reduceIte]; omega)) only [bd_pr, pr_ap, jn_eq, lt_eq, bd_bd, bd_ite, ite_ap, bd_ld, bd_sv, bd_la, bd_sa, bd_ln, bd_rz0, bd_rz1, rz_n0, rz_n1, e_lit2, nI_z, nI_eq0, nI_0eq, nI_le0, nI_lt0, nI_0lt, nI_0le, e_001, e_n10, e_n1lt, bd_la0, bd_sa0, bd_rz00, rz_0, rz_1, b2i_0, Int32.add_zero, Int32.zero_add, nI_add, nI_pred2, pk_sub, pk_mul, pk_div, e_nz, nI_eq, nI_leI, nI_ltI, e_nm1, e_nm2, up_ap, gd_set_ne, gd_set_same, List.length_set, Nat.add_sub_cancel, Nat.reduceEqDiff, Nat.reduceAdd, Nat.reduceMul, Nat.reduceSub, Nat.reduceLT, Nat.reduceLeDiff, reduceIte, Nat.not_lt_zero, not_true_eq_false, not_false_eq_true, and_true, true_and, and_false, false_and]
      · unfold gX11_key
        simp (disch := first | omega | (simp only [up_ap, List.length_set, Nat.reduceEqDiff, reduceIte]; omega)) only [bd_pr, pr_ap, jn_eq, lt_eq, bd_bd, bd_ite, ite_ap, bd_ld, bd_sv, bd_la, bd_sa, bd_ln, bd_rz0, bd_rz1, rz_n0, rz_n1, e_lit2, nI_z, nI_eq0, nI_0eq, nI_le0, nI_lt0, nI_0lt, nI_0le, e_001, e_n10, e_n1lt, bd_la0, bd_sa0, bd_rz00, rz_0, rz_1, b2i_0, Int32.add_zero, Int32.zero_add, nI_add, nI_pred2, pk_sub, pk_mul, pk_div, e_nz, nI_eq, nI_leI, nI_ltI, e_nm1, e_nm2, up_ap, gd_set_ne, gd_set_same, List.length_set, Nat.add_sub_cancel, Nat.reduceEqDiff, Nat.reduceAdd, Nat.reduceMul, Nat.reduceSub, Nat.reduceLT, Nat.reduceLeDiff, reduceIte, Nat.not_lt_zero, not_true_eq_false, not_false_eq_true, and_true, true_and, and_false, false_and, h0]
        rw [bd_in, b2i_f hx]
        simp (disch := first | omega | (simp only [up_ap, List.length_set, Nat.reduceEqDiff, reduceIte]; omega)) only [bd_pr, pr_ap, jn_eq, lt_eq, bd_bd, bd_ite, ite_ap, bd_ld, bd_sv, bd_la, bd_sa, bd_ln, bd_rz0, bd_rz1, rz_n0, rz_n1, e_lit2, nI_z, nI_eq0, nI_0eq, nI_le0, nI_lt0, nI_0lt, nI_0le, e_001, e_n10, e_n1lt, bd_la0, bd_sa0, bd_rz00, rz_0, rz_1, b2i_0, Int32.add_zero, Int32.zero_add, nI_add, nI_pred2, pk_sub, pk_mul, pk_div, e_nz, nI_eq, nI_leI, nI_ltI, e_nm1, e_nm2, up_ap, gd_set_ne, gd_set_same, List.length_set, Nat.add_sub_cancel, Nat.reduceEqDiff, Nat.reduceAdd, Nat.reduceMul, Nat.reduceSub, Nat.reduceLT, Nat.reduceLeDiff, reduceIte, Nat.not_lt_zero, not_true_eq_false, not_false_eq_true, and_true, true_and, and_false, false_and]
set_option maxHeartbeats 400000 in
theorem op_ask {A B : Bk} (h : R A B) (x : Int32) : ∃ r A' B', gX10_ask x A = some (r, A') ∧ gX11_ask x B = some (r, B') ∧ R A' B' := by
  have hb0 := R_B0 h
  have hRt := R_told h
  obtain ⟨⟨np, nc, nt, ks, wh, ⟨hR, ht⟩, hU⟩, -⟩ := id h
  obtain ⟨t0, t1, t2, t3, t4⟩ := id ht
  obtain ⟨c1, c2, c3, k, hk, c4, c5, c6⟩ := id t3
  have c1 : (A 45).length = 2 := c1
  have c2 : (A 46).length = 16 := c2
  have c4 : (A 45).getD 0 0 = nI k := c4
  have inj : ∀ i j, i < 2 → j < 2 → rh43 i = rh43 j → i = j := inj_d (by decide +kernel)
  by_cases h0 : x = -nI 1
  · subst h0
    have g1 : lf rh43 2 gX8_empty A = some (0, up A 45 ((A 45).set 0 0)) := by
      rw [lf_run (p_empty (T := fun i => A (rh43 i)) c1), pu1 inj (i := 0) (by decide)]; rfl
    refine ⟨0, up A 45 ((A 45).set 0 0), up B 0 (((B 0).set 0 0).set 57 0), ?_, ?_, ?_⟩
    · unfold gX10_ask
      simp (disch := first | omega | (simp only [up_ap, List.length_set, Nat.reduceEqDiff, reduceIte]; omega)) only [bd_pr, pr_ap, jn_eq, lt_eq, bd_bd, bd_ite, ite_ap, bd_ld, bd_sv, bd_la, bd_sa, bd_ln, bd_rz0, bd_rz1, rz_n0, rz_n1, e_lit2, nI_z, nI_eq0, nI_0eq, nI_le0, nI_lt0, nI_0lt, nI_0le, e_001, e_n10, e_n1lt, bd_la0, bd_sa0, bd_rz00, rz_0, rz_1, b2i_0, Int32.add_zero, Int32.zero_add, nI_add, nI_pred2, pk_sub, pk_mul, pk_div, e_nz, nI_eq, nI_leI, nI_ltI, e_nm1, e_nm2, up_ap, gd_set_ne, gd_set_same, List.length_set, Nat.add_sub_cancel, Nat.reduceEqDiff, Nat.reduceAdd, Nat.reduceMul, Nat.reduceSub, Nat.reduceLT, Nat.reduceLeDiff, reduceIte, Nat.not_lt_zero, not_true_eq_false, not_false_eq_true, and_true, true_and, and_false, false_and]
      rw [bd_some g1]
      first | done | rfl
    · unfold gX11_ask
      simp (disch := first | omega | (simp only [up_ap, List.length_set, Nat.reduceEqDiff, reduceIte]; omega)) only [bd_pr, pr_ap, jn_eq, lt_eq, bd_bd, bd_ite, ite_ap, bd_ld, bd_sv, bd_la, bd_sa, bd_ln, bd_rz0, bd_rz1, rz_n0, rz_n1, e_lit2, nI_z, nI_eq0, nI_0eq, nI_le0, nI_lt0, nI_0lt, nI_0le, e_001, e_n10, e_n1lt, bd_la0, bd_sa0, bd_rz00, rz_0, rz_1, b2i_0, Int32.add_zero, Int32.zero_add, nI_add, nI_pred2, pk_sub, pk_mul, pk_div, e_nz, nI_eq, nI_leI, nI_ltI, e_nm1, e_nm2, up_ap, gd_set_ne, gd_set_same, List.length_set, Nat.add_sub_cancel, Nat.reduceEqDiff, Nat.reduceAdd, Nat.reduceMul, Nat.reduceSub, Nat.reduceLT, Nat.reduceLeDiff, reduceIte, Nat.not_lt_zero, not_true_eq_false, not_false_eq_true, and_true, true_and, and_false, false_and, up_up]
    · refine R_TT h (fun j a b => up_ne _ _ (by omega)) (fun i a b c => up_ne _ _ b) (up_len (by simp only [List.length_set]) 0) (fun s hs => ?_) ?_
      · rw [up_same, gd_set_ne (fun q => by subst q; exact absurd hs (by decide)), gd_set_ne (fun q => by subst q; exact absurd hs (by decide))]
      · have e : ((((B 0).set 0 0).set 57 0)).getD 57 0 = 0 := gd_set_same (by rw [List.length_set, hb0]; decide)
        have n3 : RT ((A 45).set 0 0) (A 46) (((((B 0).set 0 0).set 57 0)).getD 57 0) (B 32) 16 (okN 9) := by rw [e]; exact RT_zero t3
        have o0 : RT (A 39) (A 40) (((((B 0).set 0 0).set 57 0)).getD 43 0) (B 22) 12 okB := by
          rw [gd_set_ne (by decide), gd_set_ne (by decide)]; exact t0
        have o1 : RT (A 41) (A 42) (((((B 0).set 0 0).set 57 0)).getD 52 0) (B 29) 16 (okN 1) := by
          rw [gd_set_ne (by decide), gd_set_ne (by decide)]; exact t1
        have o2 : RT (A 43) (A 44) (((((B 0).set 0 0).set 57 0)).getD 54 0) (B 30) 12 (okN 99) := by
          rw [gd_set_ne (by decide), gd_set_ne (by decide)]; exact t2
        have o4 : RT (A 47) (A 48) (((((B 0).set 0 0).set 57 0)).getD 61 0) (B 35) 10 (okN 9) := by
          rw [gd_set_ne (by decide), gd_set_ne (by decide)]; exact t4
        exact ⟨o0, o1, o2, n3, o4⟩
  · by_cases hx : 0 ≤ x ∧ x ≤ nI 9
    · by_cases hf : k = 16
      · have g1 : lf rh43 2 (gX8_tell x) A = some (-1, A) := by
          have := p_tell (T := fun i => A (rh43 i)) (v := x) c1 c2 (by decide) hk c4
          rw [if_pos hf] at this
          rw [lf_run this, pu_self]
        refine ⟨-nI 1, A, _, ?_, ?_, hRt⟩
        · unfold gX10_ask
          simp (disch := first | omega | (simp only [up_ap, List.length_set, Nat.reduceEqDiff, reduceIte]; omega)) only [bd_pr, pr_ap, jn_eq, lt_eq, bd_bd, bd_ite, ite_ap, bd_ld, bd_sv, bd_la, bd_sa, bd_ln, bd_rz0, bd_rz1, rz_n0, rz_n1, e_lit2, nI_z, nI_eq0, nI_0eq, nI_le0, nI_lt0, nI_0lt, nI_0le, e_001, e_n10, e_n1lt, bd_la0, bd_sa0, bd_rz00, rz_0, rz_1, b2i_0, Int32.add_zero, Int32.zero_add, nI_add, nI_pred2, pk_sub, pk_mul, pk_div, e_nz, nI_eq, nI_leI, nI_ltI, e_nm1, e_nm2, up_ap, gd_set_ne, gd_set_same, List.length_set, Nat.add_sub_cancel, Nat.reduceEqDiff, Nat.reduceAdd, Nat.reduceMul, Nat.reduceSub, Nat.reduceLT, Nat.reduceLeDiff, reduceIte, Nat.not_lt_zero, not_true_eq_false, not_false_eq_true, and_true, true_and, and_false, false_and, h0]
          rw [bd_iw, b2i_t hx]
          simp (disch := first | omega | (simp only [up_ap, List.length_set, Nat.reduceEqDiff, reduceIte]; omega)) only [bd_pr, pr_ap, jn_eq, lt_eq, bd_bd, bd_ite, ite_ap, bd_ld, bd_sv, bd_la, bd_sa, bd_ln, bd_rz0, bd_rz1, rz_n0, rz_n1, e_lit2, nI_z, nI_eq0, nI_0eq, nI_le0, nI_lt0, nI_0lt, nI_0le, e_001, e_n10, e_n1lt, bd_la0, bd_sa0, bd_rz00, rz_0, rz_1, b2i_0, Int32.add_zero, Int32.zero_add, nI_add, nI_pred2, pk_sub, pk_mul, pk_div, e_nz, nI_eq, nI_leI, nI_ltI, e_nm1, e_nm2, up_ap, gd_set_ne, gd_set_same, List.length_set, Nat.add_sub_cancel, Nat.reduceEqDiff, Nat.reduceAdd, Nat.reduceMul, Nat.reduceSub, Nat.reduceLT, Nat.reduceLeDiff, reduceIte, Nat.not_lt_zero, not_true_eq_false, not_false_eq_true, and_true, true_and, and_false, false_and, Nat_1_le_0]
          rw [bd_some g1]; rfl
        · unfold gX11_ask
          simp (disch := first | omega | (simp only [up_ap, List.length_set, Nat.reduceEqDiff, reduceIte]; omega)) only [bd_pr, pr_ap, jn_eq, lt_eq, bd_bd, bd_ite, ite_ap, bd_ld, bd_sv, bd_la, bd_sa, bd_ln, bd_rz0, bd_rz1, rz_n0, rz_n1, e_lit2, nI_z, nI_eq0, nI_0eq, nI_le0, nI_lt0, nI_0lt, nI_0le, e_001, e_n10, e_n1lt, bd_la0, bd_sa0, bd_rz00, rz_0, rz_1, b2i_0, Int32.add_zero, Int32.zero_add, nI_add, nI_pred2, pk_sub, pk_mul, pk_div, e_nz, nI_eq, nI_leI, nI_ltI, e_nm1, e_nm2, up_ap, gd_set_ne, gd_set_same, List.length_set, Nat.add_sub_cancel, Nat.reduceEqDiff, Nat.reduceAdd, Nat.reduceMul, Nat.reduceSub, Nat.reduceLT, Nat.reduceLeDiff, reduceIte, Nat.not_lt_zero, not_true_eq_false, not_false_eq_true, and_true, true_and, and_false, false_and, h0]
          rw [bd_in, b2i_t hx]
          simp (disch := first | omega | (simp only [up_ap, List.length_set, Nat.reduceEqDiff, reduceIte]; omega)) only [bd_pr, pr_ap, jn_eq, lt_eq, bd_bd, bd_ite, ite_ap, bd_ld, bd_sv, bd_la, bd_sa, bd_ln, bd_rz0, bd_rz1, rz_n0, rz_n1, e_lit2, nI_z, nI_eq0, nI_0eq, nI_le0, nI_lt0, nI_0lt, nI_0le, e_001, e_n10, e_n1lt, bd_la0, bd_sa0, bd_rz00, rz_0, rz_1, b2i_0, Int32.add_zero, Int32.zero_add, nI_add, nI_pred2, pk_sub, pk_mul, pk_div, e_nz, nI_eq, nI_leI, nI_ltI, e_nm1, e_nm2, up_ap, gd_set_ne, gd_set_same, List.length_set, Nat.add_sub_cancel, Nat.reduceEqDiff, Nat.reduceAdd, Nat.reduceMul, Nat.reduceSub, Nat.reduceLT, Nat.reduceLeDiff, reduceIte, Nat.not_lt_zero, not_true_eq_false, not_false_eq_true, and_true, true_and, and_false, false_and, Nat_1_le_0, c5, hf]
      · have g1 : lf rh43 2 (gX8_tell x) A = some (nI (k + 1), up (up A 46 ((A 46).set k x)) 45 ((A 45).set 0 (nI (k + 1)))) := by
          have := p_tell (T := fun i => A (rh43 i)) (v := x) c1 c2 (by decide) hk c4
          rw [if_neg hf] at this
          rw [lf_run this, pu_up inj (i := 0) (by decide), pu1 inj (i := 1) (by decide)]; rfl
        refine ⟨nI (k + 1), up (up A 46 ((A 46).set k x)) 45 ((A 45).set 0 (nI (k + 1))), up (up B 32 ((B 32).set k x)) 0 (((B 0).set 0 0).set 57 (nI (k + 1))), ?_, ?_, ?_⟩
        · unfold gX10_ask
          simp (disch := first | omega | (simp only [up_ap, List.length_set, Nat.reduceEqDiff, reduceIte]; omega)) only [bd_pr, pr_ap, jn_eq, lt_eq, bd_bd, bd_ite, ite_ap, bd_ld, bd_sv, bd_la, bd_sa, bd_ln, bd_rz0, bd_rz1, rz_n0, rz_n1, e_lit2, nI_z, nI_eq0, nI_0eq, nI_le0, nI_lt0, nI_0lt, nI_0le, e_001, e_n10, e_n1lt, bd_la0, bd_sa0, bd_rz00, rz_0, rz_1, b2i_0, Int32.add_zero, Int32.zero_add, nI_add, nI_pred2, pk_sub, pk_mul, pk_div, e_nz, nI_eq, nI_leI, nI_ltI, e_nm1, e_nm2, up_ap, gd_set_ne, gd_set_same, List.length_set, Nat.add_sub_cancel, Nat.reduceEqDiff, Nat.reduceAdd, Nat.reduceMul, Nat.reduceSub, Nat.reduceLT, Nat.reduceLeDiff, reduceIte, Nat.not_lt_zero, not_true_eq_false, not_false_eq_true, and_true, true_and, and_false, false_and, h0]
          rw [bd_iw, b2i_t hx]
          simp (disch := first | omega | (simp only [up_ap, List.length_set, Nat.reduceEqDiff, reduceIte]; omega)) only [bd_pr, pr_ap, jn_eq, lt_eq, bd_bd, bd_ite, ite_ap, bd_ld, bd_sv, bd_la, bd_sa, bd_ln, bd_rz0, bd_rz1, rz_n0, rz_n1, e_lit2, nI_z, nI_eq0, nI_0eq, nI_le0, nI_lt0, nI_0lt, nI_0le, e_001, e_n10, e_n1lt, bd_la0, bd_sa0, bd_rz00, rz_0, rz_1, b2i_0, Int32.add_zero, Int32.zero_add, nI_add, nI_pred2, pk_sub, pk_mul, pk_div, e_nz, nI_eq, nI_leI, nI_ltI, e_nm1, e_nm2, up_ap, gd_set_ne, gd_set_same, List.length_set, Nat.add_sub_cancel, Nat.reduceEqDiff, Nat.reduceAdd, Nat.reduceMul, Nat.reduceSub, Nat.reduceLT, Nat.reduceLeDiff, reduceIte, Nat.not_lt_zero, not_true_eq_false, not_false_eq_true, and_true, true_and, and_false, false_and, Nat_1_le_0]
          rw [bd_some g1]
          first | done | rfl
        · unfold gX11_ask
          simp (disch := first | omega | (simp only [up_ap, List.length_set, Nat.reduceEqDiff, reduceIte]; omega)) only [bd_pr, pr_ap, jn_eq, lt_eq, bd_bd, bd_ite, ite_ap, bd_ld, bd_sv, bd_la, bd_sa, bd_ln, bd_rz0, bd_rz1, rz_n0, rz_n1, e_lit2, nI_z, nI_eq0, nI_0eq, nI_le0, nI_lt0, nI_0lt, nI_0le, e_001, e_n10, e_n1lt, bd_la0, bd_sa0, bd_rz00, rz_0, rz_1, b2i_0, Int32.add_zero, Int32.zero_add, nI_add, nI_pred2, pk_sub, pk_mul, pk_div, e_nz, nI_eq, nI_leI, nI_ltI, e_nm1, e_nm2, up_ap, gd_set_ne, gd_set_same, List.length_set, Nat.add_sub_cancel, Nat.reduceEqDiff, Nat.reduceAdd, Nat.reduceMul, Nat.reduceSub, Nat.reduceLT, Nat.reduceLeDiff, reduceIte, Nat.not_lt_zero, not_true_eq_false, not_false_eq_true, and_true, true_and, and_false, false_and, h0]
          rw [bd_in, b2i_t hx]
          simp (disch := first | omega | (simp only [up_ap, List.length_set, Nat.reduceEqDiff, reduceIte]; omega)) only [bd_pr, pr_ap, jn_eq, lt_eq, bd_bd, bd_ite, ite_ap, bd_ld, bd_sv, bd_la, bd_sa, bd_ln, bd_rz0, bd_rz1, rz_n0, rz_n1, e_lit2, nI_z, nI_eq0, nI_0eq, nI_le0, nI_lt0, nI_0lt, nI_0le, e_001, e_n10, e_n1lt, bd_la0, bd_sa0, bd_rz00, rz_0, rz_1, b2i_0, Int32.add_zero, Int32.zero_add, nI_add, nI_pred2, pk_sub, pk_mul, pk_div, e_nz, nI_eq, nI_leI, nI_ltI, e_nm1, e_nm2, up_ap, gd_set_ne, gd_set_same, List.length_set, Nat.add_sub_cancel, Nat.reduceEqDiff, Nat.reduceAdd, Nat.reduceMul, Nat.reduceSub, Nat.reduceLT, Nat.reduceLeDiff, reduceIte, Nat.not_lt_zero, not_true_eq_false, not_false_eq_true, and_true, true_and, and_false, false_and, Nat_1_le_0, c5, hf, up_up]
          first | done | rw [up_comm B (i := 0) (j := 32) (by decide), up_up]
        · refine R_TT h (fun j a b => by rw [up_ne _ _ (by omega), up_ne _ _ (by omega)]) (fun i a b c => by rw [up_ne _ _ b, up_ne _ _ (fun q => c (by rw [q]; decide))]) (by rw [up_same]; simp only [List.length_set]) (fun s hs => ?_) ?_
          · rw [up_same, gd_set_ne (fun q => by subst q; exact absurd hs (by decide)), gd_set_ne (fun q => by subst q; exact absurd hs (by decide))]
          · have e : ((((B 0).set 0 0).set 57 (nI (k + 1)))).getD 57 0 = nI (k + 1) := gd_set_same (by rw [List.length_set, hb0]; decide)
            have n3 : RT ((A 45).set 0 (nI (k + 1))) ((A 46).set k x) (((((B 0).set 0 0).set 57 (nI (k + 1)))).getD 57 0) ((B 32).set k x) 16 (okN 9) := by rw [e]; exact RT_put t3 (by omega) c5 (by decide) (by obtain ⟨j, hj, rfl⟩ := wi_rng (n := 9) (by decide) hx; exact ⟨j, hj, rfl⟩)
            have o0 : RT (A 39) (A 40) (((((B 0).set 0 0).set 57 (nI (k + 1)))).getD 43 0) (B 22) 12 okB := by
              rw [gd_set_ne (by decide), gd_set_ne (by decide)]; exact t0
            have o1 : RT (A 41) (A 42) (((((B 0).set 0 0).set 57 (nI (k + 1)))).getD 52 0) (B 29) 16 (okN 1) := by
              rw [gd_set_ne (by decide), gd_set_ne (by decide)]; exact t1
            have o2 : RT (A 43) (A 44) (((((B 0).set 0 0).set 57 (nI (k + 1)))).getD 54 0) (B 30) 12 (okN 99) := by
              rw [gd_set_ne (by decide), gd_set_ne (by decide)]; exact t2
            have o4 : RT (A 47) (A 48) (((((B 0).set 0 0).set 57 (nI (k + 1)))).getD 61 0) (B 35) 10 (okN 9) := by
              rw [gd_set_ne (by decide), gd_set_ne (by decide)]; exact t4
            exact ⟨o0, o1, o2, n3, o4⟩
    · refine ⟨-nI 1, A, _, ?_, ?_, hRt⟩
      · unfold gX10_ask
        simp (disch := first | omega | (simp only [up_ap, List.length_set, Nat.reduceEqDiff, reduceIte]; omega)) only [bd_pr, pr_ap, jn_eq, lt_eq, bd_bd, bd_ite, ite_ap, bd_ld, bd_sv, bd_la, bd_sa, bd_ln, bd_rz0, bd_rz1, rz_n0, rz_n1, e_lit2, nI_z, nI_eq0, nI_0eq, nI_le0, nI_lt0, nI_0lt, nI_0le, e_001, e_n10, e_n1lt, bd_la0, bd_sa0, bd_rz00, rz_0, rz_1, b2i_0, Int32.add_zero, Int32.zero_add, nI_add, nI_pred2, pk_sub, pk_mul, pk_div, e_nz, nI_eq, nI_leI, nI_ltI, e_nm1, e_nm2, up_ap, gd_set_ne, gd_set_same, List.length_set, Nat.add_sub_cancel, Nat.reduceEqDiff, Nat.reduceAdd, Nat.reduceMul, Nat.reduceSub, Nat.reduceLT, Nat.reduceLeDiff, reduceIte, Nat.not_lt_zero, not_true_eq_false, not_false_eq_true, and_true, true_and, and_false, false_and, h0]
        rw [bd_iw, b2i_f hx]
        simp (disch := first | omega | (simp only [up_ap, List.length_set, Nat.reduceEqDiff, reduceIte]; omega)) only [bd_pr, pr_ap, jn_eq, lt_eq, bd_bd, bd_ite, ite_ap, bd_ld, bd_sv, bd_la, bd_sa, bd_ln, bd_rz0, bd_rz1, rz_n0, rz_n1, e_lit2, nI_z, nI_eq0, nI_0eq, nI_le0, nI_lt0, nI_0lt, nI_0le, e_001, e_n10, e_n1lt, bd_la0, bd_sa0, bd_rz00, rz_0, rz_1, b2i_0, Int32.add_zero, Int32.zero_add, nI_add, nI_pred2, pk_sub, pk_mul, pk_div, e_nz, nI_eq, nI_leI, nI_ltI, e_nm1, e_nm2, up_ap, gd_set_ne, gd_set_same, List.length_set, Nat.add_sub_cancel, Nat.reduceEqDiff, Nat.reduceAdd, Nat.reduceMul, Nat.reduceSub, Nat.reduceLT, Nat.reduceLeDiff, reduceIte, Nat.not_lt_zero, not_true_eq_false, not_false_eq_true, and_true, true_and, and_false, false_and]
      · unfold gX11_ask
        simp (disch := first | omega | (simp only [up_ap, List.length_set, Nat.reduceEqDiff, reduceIte]; omega)) only [bd_pr, pr_ap, jn_eq, lt_eq, bd_bd, bd_ite, ite_ap, bd_ld, bd_sv, bd_la, bd_sa, bd_ln, bd_rz0, bd_rz1, rz_n0, rz_n1, e_lit2, nI_z, nI_eq0, nI_0eq, nI_le0, nI_lt0, nI_0lt, nI_0le, e_001, e_n10, e_n1lt, bd_la0, bd_sa0, bd_rz00, rz_0, rz_1, b2i_0, Int32.add_zero, Int32.zero_add, nI_add, nI_pred2, pk_sub, pk_mul, pk_div, e_nz, nI_eq, nI_leI, nI_ltI, e_nm1, e_nm2, up_ap, gd_set_ne, gd_set_same, List.length_set, Nat.add_sub_cancel, Nat.reduceEqDiff, Nat.reduceAdd, Nat.reduceMul, Nat.reduceSub, Nat.reduceLT, Nat.reduceLeDiff, reduceIte, Nat.not_lt_zero, not_true_eq_false, not_false_eq_true, and_true, true_and, and_false, false_and, h0]
        rw [bd_in, b2i_f hx]
        simp (disch := first | omega | (simp only [up_ap, List.length_set, Nat.reduceEqDiff, reduceIte]; omega)) only [bd_pr, pr_ap, jn_eq, lt_eq, bd_bd, bd_ite, ite_ap, bd_ld, bd_sv, bd_la, bd_sa, bd_ln, bd_rz0, bd_rz1, rz_n0, rz_n1, e_lit2, nI_z, nI_eq0, nI_0eq, nI_le0, nI_lt0, nI_0lt, nI_0le, e_001, e_n10, e_n1lt, bd_la0, bd_sa0, bd_rz00, rz_0, rz_1, b2i_0, Int32.add_zero, Int32.zero_add, nI_add, nI_pred2, pk_sub, pk_mul, pk_div, e_nz, nI_eq, nI_leI, nI_ltI, e_nm1, e_nm2, up_ap, gd_set_ne, gd_set_same, List.length_set, Nat.add_sub_cancel, Nat.reduceEqDiff, Nat.reduceAdd, Nat.reduceMul, Nat.reduceSub, Nat.reduceLT, Nat.reduceLeDiff, reduceIte, Nat.not_lt_zero, not_true_eq_false, not_false_eq_true, and_true, true_and, and_false, false_and]
set_option maxHeartbeats 400000 in
theorem op_digit {A B : Bk} (h : R A B) (x : Int32) : ∃ r A' B', gX10_digit x A = some (r, A') ∧ gX11_digit x B = some (r, B') ∧ R A' B' := by
  have hb0 := R_B0 h
  have hRt := R_told h
  obtain ⟨⟨np, nc, nt, ks, wh, ⟨hR, ht⟩, hU⟩, -⟩ := id h
  obtain ⟨t0, t1, t2, t3, t4⟩ := id ht
  obtain ⟨c1, c2, c3, k, hk, c4, c5, c6⟩ := id t4
  have c1 : (A 47).length = 2 := c1
  have c2 : (A 48).length = 10 := c2
  have c4 : (A 47).getD 0 0 = nI k := c4
  have inj : ∀ i j, i < 2 → j < 2 → rh44 i = rh44 j → i = j := inj_d (by decide +kernel)
  by_cases h0 : x = -nI 1
  · subst h0
    have g1 : lf rh44 2 gX8_empty A = some (0, up A 47 ((A 47).set 0 0)) := by
      rw [lf_run (p_empty (T := fun i => A (rh44 i)) c1), pu1 inj (i := 0) (by decide)]; rfl
    refine ⟨0, up A 47 ((A 47).set 0 0), up B 0 (((B 0).set 0 0).set 61 0), ?_, ?_, ?_⟩
    · unfold gX10_digit
      simp (disch := first | omega | (simp only [up_ap, List.length_set, Nat.reduceEqDiff, reduceIte]; omega)) only [bd_pr, pr_ap, jn_eq, lt_eq, bd_bd, bd_ite, ite_ap, bd_ld, bd_sv, bd_la, bd_sa, bd_ln, bd_rz0, bd_rz1, rz_n0, rz_n1, e_lit2, nI_z, nI_eq0, nI_0eq, nI_le0, nI_lt0, nI_0lt, nI_0le, e_001, e_n10, e_n1lt, bd_la0, bd_sa0, bd_rz00, rz_0, rz_1, b2i_0, Int32.add_zero, Int32.zero_add, nI_add, nI_pred2, pk_sub, pk_mul, pk_div, e_nz, nI_eq, nI_leI, nI_ltI, e_nm1, e_nm2, up_ap, gd_set_ne, gd_set_same, List.length_set, Nat.add_sub_cancel, Nat.reduceEqDiff, Nat.reduceAdd, Nat.reduceMul, Nat.reduceSub, Nat.reduceLT, Nat.reduceLeDiff, reduceIte, Nat.not_lt_zero, not_true_eq_false, not_false_eq_true, and_true, true_and, and_false, false_and]
      rw [bd_some g1]
      first | done | rfl
    · unfold gX11_digit
      simp (disch := first | omega | (simp only [up_ap, List.length_set, Nat.reduceEqDiff, reduceIte]; omega)) only [bd_pr, pr_ap, jn_eq, lt_eq, bd_bd, bd_ite, ite_ap, bd_ld, bd_sv, bd_la, bd_sa, bd_ln, bd_rz0, bd_rz1, rz_n0, rz_n1, e_lit2, nI_z, nI_eq0, nI_0eq, nI_le0, nI_lt0, nI_0lt, nI_0le, e_001, e_n10, e_n1lt, bd_la0, bd_sa0, bd_rz00, rz_0, rz_1, b2i_0, Int32.add_zero, Int32.zero_add, nI_add, nI_pred2, pk_sub, pk_mul, pk_div, e_nz, nI_eq, nI_leI, nI_ltI, e_nm1, e_nm2, up_ap, gd_set_ne, gd_set_same, List.length_set, Nat.add_sub_cancel, Nat.reduceEqDiff, Nat.reduceAdd, Nat.reduceMul, Nat.reduceSub, Nat.reduceLT, Nat.reduceLeDiff, reduceIte, Nat.not_lt_zero, not_true_eq_false, not_false_eq_true, and_true, true_and, and_false, false_and, up_up]
    · refine R_TT h (fun j a b => up_ne _ _ (by omega)) (fun i a b c => up_ne _ _ b) (up_len (by simp only [List.length_set]) 0) (fun s hs => ?_) ?_
      · rw [up_same, gd_set_ne (fun q => by subst q; exact absurd hs (by decide)), gd_set_ne (fun q => by subst q; exact absurd hs (by decide))]
      · have e : ((((B 0).set 0 0).set 61 0)).getD 61 0 = 0 := gd_set_same (by rw [List.length_set, hb0]; decide)
        have n4 : RT ((A 47).set 0 0) (A 48) (((((B 0).set 0 0).set 61 0)).getD 61 0) (B 35) 10 (okN 9) := by rw [e]; exact RT_zero t4
        have o0 : RT (A 39) (A 40) (((((B 0).set 0 0).set 61 0)).getD 43 0) (B 22) 12 okB := by
          rw [gd_set_ne (by decide), gd_set_ne (by decide)]; exact t0
        have o1 : RT (A 41) (A 42) (((((B 0).set 0 0).set 61 0)).getD 52 0) (B 29) 16 (okN 1) := by
          rw [gd_set_ne (by decide), gd_set_ne (by decide)]; exact t1
        have o2 : RT (A 43) (A 44) (((((B 0).set 0 0).set 61 0)).getD 54 0) (B 30) 12 (okN 99) := by
          rw [gd_set_ne (by decide), gd_set_ne (by decide)]; exact t2
        have o3 : RT (A 45) (A 46) (((((B 0).set 0 0).set 61 0)).getD 57 0) (B 32) 16 (okN 9) := by
          rw [gd_set_ne (by decide), gd_set_ne (by decide)]; exact t3
        exact ⟨o0, o1, o2, o3, n4⟩
  · by_cases hx : 0 ≤ x ∧ x ≤ nI 9
    · by_cases hf : k = 10
      · have g1 : lf rh44 2 (gX8_tell x) A = some (-1, A) := by
          have := p_tell (T := fun i => A (rh44 i)) (v := x) c1 c2 (by decide) hk c4
          rw [if_pos hf] at this
          rw [lf_run this, pu_self]
        refine ⟨-nI 1, A, _, ?_, ?_, hRt⟩
        · unfold gX10_digit
          simp (disch := first | omega | (simp only [up_ap, List.length_set, Nat.reduceEqDiff, reduceIte]; omega)) only [bd_pr, pr_ap, jn_eq, lt_eq, bd_bd, bd_ite, ite_ap, bd_ld, bd_sv, bd_la, bd_sa, bd_ln, bd_rz0, bd_rz1, rz_n0, rz_n1, e_lit2, nI_z, nI_eq0, nI_0eq, nI_le0, nI_lt0, nI_0lt, nI_0le, e_001, e_n10, e_n1lt, bd_la0, bd_sa0, bd_rz00, rz_0, rz_1, b2i_0, Int32.add_zero, Int32.zero_add, nI_add, nI_pred2, pk_sub, pk_mul, pk_div, e_nz, nI_eq, nI_leI, nI_ltI, e_nm1, e_nm2, up_ap, gd_set_ne, gd_set_same, List.length_set, Nat.add_sub_cancel, Nat.reduceEqDiff, Nat.reduceAdd, Nat.reduceMul, Nat.reduceSub, Nat.reduceLT, Nat.reduceLeDiff, reduceIte, Nat.not_lt_zero, not_true_eq_false, not_false_eq_true, and_true, true_and, and_false, false_and, h0]
          rw [bd_iw, b2i_t hx]
          simp (disch := first | omega | (simp only [up_ap, List.length_set, Nat.reduceEqDiff, reduceIte]; omega)) only [bd_pr, pr_ap, jn_eq, lt_eq, bd_bd, bd_ite, ite_ap, bd_ld, bd_sv, bd_la, bd_sa, bd_ln, bd_rz0, bd_rz1, rz_n0, rz_n1, e_lit2, nI_z, nI_eq0, nI_0eq, nI_le0, nI_lt0, nI_0lt, nI_0le, e_001, e_n10, e_n1lt, bd_la0, bd_sa0, bd_rz00, rz_0, rz_1, b2i_0, Int32.add_zero, Int32.zero_add, nI_add, nI_pred2, pk_sub, pk_mul, pk_div, e_nz, nI_eq, nI_leI, nI_ltI, e_nm1, e_nm2, up_ap, gd_set_ne, gd_set_same, List.length_set, Nat.add_sub_cancel, Nat.reduceEqDiff, Nat.reduceAdd, Nat.reduceMul, Nat.reduceSub, Nat.reduceLT, Nat.reduceLeDiff, reduceIte, Nat.not_lt_zero, not_true_eq_false, not_false_eq_true, and_true, true_and, and_false, false_and, Nat_1_le_0]
          rw [bd_some g1]; rfl
        · unfold gX11_digit
          simp (disch := first | omega | (simp only [up_ap, List.length_set, Nat.reduceEqDiff, reduceIte]; omega)) only [bd_pr, pr_ap, jn_eq, lt_eq, bd_bd, bd_ite, ite_ap, bd_ld, bd_sv, bd_la, bd_sa, bd_ln, bd_rz0, bd_rz1, rz_n0, rz_n1, e_lit2, nI_z, nI_eq0, nI_0eq, nI_le0, nI_lt0, nI_0lt, nI_0le, e_001, e_n10, e_n1lt, bd_la0, bd_sa0, bd_rz00, rz_0, rz_1, b2i_0, Int32.add_zero, Int32.zero_add, nI_add, nI_pred2, pk_sub, pk_mul, pk_div, e_nz, nI_eq, nI_leI, nI_ltI, e_nm1, e_nm2, up_ap, gd_set_ne, gd_set_same, List.length_set, Nat.add_sub_cancel, Nat.reduceEqDiff, Nat.reduceAdd, Nat.reduceMul, Nat.reduceSub, Nat.reduceLT, Nat.reduceLeDiff, reduceIte, Nat.not_lt_zero, not_true_eq_false, not_false_eq_true, and_true, true_and, and_false, false_and, h0]
          rw [bd_in, b2i_t hx]
          simp (disch := first | omega | (simp only [up_ap, List.length_set, Nat.reduceEqDiff, reduceIte]; omega)) only [bd_pr, pr_ap, jn_eq, lt_eq, bd_bd, bd_ite, ite_ap, bd_ld, bd_sv, bd_la, bd_sa, bd_ln, bd_rz0, bd_rz1, rz_n0, rz_n1, e_lit2, nI_z, nI_eq0, nI_0eq, nI_le0, nI_lt0, nI_0lt, nI_0le, e_001, e_n10, e_n1lt, bd_la0, bd_sa0, bd_rz00, rz_0, rz_1, b2i_0, Int32.add_zero, Int32.zero_add, nI_add, nI_pred2, pk_sub, pk_mul, pk_div, e_nz, nI_eq, nI_leI, nI_ltI, e_nm1, e_nm2, up_ap, gd_set_ne, gd_set_same, List.length_set, Nat.add_sub_cancel, Nat.reduceEqDiff, Nat.reduceAdd, Nat.reduceMul, Nat.reduceSub, Nat.reduceLT, Nat.reduceLeDiff, reduceIte, Nat.not_lt_zero, not_true_eq_false, not_false_eq_true, and_true, true_and, and_false, false_and, Nat_1_le_0, c5, hf]
      · have g1 : lf rh44 2 (gX8_tell x) A = some (nI (k + 1), up (up A 48 ((A 48).set k x)) 47 ((A 47).set 0 (nI (k + 1)))) := by
          have := p_tell (T := fun i => A (rh44 i)) (v := x) c1 c2 (by decide) hk c4
          rw [if_neg hf] at this
          rw [lf_run this, pu_up inj (i := 0) (by decide), pu1 inj (i := 1) (by decide)]; rfl
        refine ⟨nI (k + 1), up (up A 48 ((A 48).set k x)) 47 ((A 47).set 0 (nI (k + 1))), up (up B 35 ((B 35).set k x)) 0 (((B 0).set 0 0).set 61 (nI (k + 1))), ?_, ?_, ?_⟩
        · unfold gX10_digit
          simp (disch := first | omega | (simp only [up_ap, List.length_set, Nat.reduceEqDiff, reduceIte]; omega)) only [bd_pr, pr_ap, jn_eq, lt_eq, bd_bd, bd_ite, ite_ap, bd_ld, bd_sv, bd_la, bd_sa, bd_ln, bd_rz0, bd_rz1, rz_n0, rz_n1, e_lit2, nI_z, nI_eq0, nI_0eq, nI_le0, nI_lt0, nI_0lt, nI_0le, e_001, e_n10, e_n1lt, bd_la0, bd_sa0, bd_rz00, rz_0, rz_1, b2i_0, Int32.add_zero, Int32.zero_add, nI_add, nI_pred2, pk_sub, pk_mul, pk_div, e_nz, nI_eq, nI_leI, nI_ltI, e_nm1, e_nm2, up_ap, gd_set_ne, gd_set_same, List.length_set, Nat.add_sub_cancel, Nat.reduceEqDiff, Nat.reduceAdd, Nat.reduceMul, Nat.reduceSub, Nat.reduceLT, Nat.reduceLeDiff, reduceIte, Nat.not_lt_zero, not_true_eq_false, not_false_eq_true, and_true, true_and, and_false, false_and, h0]
          rw [bd_iw, b2i_t hx]
          simp (disch := first | omega | (simp only [up_ap, List.length_set, Nat.reduceEqDiff, reduceIte]; omega)) only [bd_pr, pr_ap, jn_eq, lt_eq, bd_bd, bd_ite, ite_ap, bd_ld, bd_sv, bd_la, bd_sa, bd_ln, bd_rz0, bd_rz1, rz_n0, rz_n1, e_lit2, nI_z, nI_eq0, nI_0eq, nI_le0, nI_lt0, nI_0lt, nI_0le, e_001, e_n10, e_n1lt, bd_la0, bd_sa0, bd_rz00, rz_0, rz_1, b2i_0, Int32.add_zero, Int32.zero_add, nI_add, nI_pred2, pk_sub, pk_mul, pk_div, e_nz, nI_eq, nI_leI, nI_ltI, e_nm1, e_nm2, up_ap, gd_set_ne, gd_set_same, List.length_set, Nat.add_sub_cancel, Nat.reduceEqDiff, Nat.reduceAdd, Nat.reduceMul, Nat.reduceSub, Nat.reduceLT, Nat.reduceLeDiff, reduceIte, Nat.not_lt_zero, not_true_eq_false, not_false_eq_true, and_true, true_and, and_false, false_and, Nat_1_le_0]
          rw [bd_some g1]
          first | done | rfl
        · unfold gX11_digit
          simp (disch := first | omega | (simp only [up_ap, List.length_set, Nat.reduceEqDiff, reduceIte]; omega)) only [bd_pr, pr_ap, jn_eq, lt_eq, bd_bd, bd_ite, ite_ap, bd_ld, bd_sv, bd_la, bd_sa, bd_ln, bd_rz0, bd_rz1, rz_n0, rz_n1, e_lit2, nI_z, nI_eq0, nI_0eq, nI_le0, nI_lt0, nI_0lt, nI_0le, e_001, e_n10, e_n1lt, bd_la0, bd_sa0, bd_rz00, rz_0, rz_1, b2i_0, Int32.add_zero, Int32.zero_add, nI_add, nI_pred2, pk_sub, pk_mul, pk_div, e_nz, nI_eq, nI_leI, nI_ltI, e_nm1, e_nm2, up_ap, gd_set_ne, gd_set_same, List.length_set, Nat.add_sub_cancel, Nat.reduceEqDiff, Nat.reduceAdd, Nat.reduceMul, Nat.reduceSub, Nat.reduceLT, Nat.reduceLeDiff, reduceIte, Nat.not_lt_zero, not_true_eq_false, not_false_eq_true, and_true, true_and, and_false, false_and, h0]
          rw [bd_in, b2i_t hx]
          simp (disch := first | omega | (simp only [up_ap, List.length_set, Nat.reduceEqDiff, reduceIte]; omega)) only [bd_pr, pr_ap, jn_eq, lt_eq, bd_bd, bd_ite, ite_ap, bd_ld, bd_sv, bd_la, bd_sa, bd_ln, bd_rz0, bd_rz1, rz_n0, rz_n1, e_lit2, nI_z, nI_eq0, nI_0eq, nI_le0, nI_lt0, nI_0lt, nI_0le, e_001, e_n10, e_n1lt, bd_la0, bd_sa0, bd_rz00, rz_0, rz_1, b2i_0, Int32.add_zero, Int32.zero_add, nI_add, nI_pred2, pk_sub, pk_mul, pk_div, e_nz, nI_eq, nI_leI, nI_ltI, e_nm1, e_nm2, up_ap, gd_set_ne, gd_set_same, List.length_set, Nat.add_sub_cancel, Nat.reduceEqDiff, Nat.reduceAdd, Nat.reduceMul, Nat.reduceSub, Nat.reduceLT, Nat.reduceLeDiff, reduceIte, Nat.not_lt_zero, not_true_eq_false, not_false_eq_true, and_true, true_and, and_false, false_and, Nat_1_le_0, c5, hf, up_up]
          first | done | rw [up_comm B (i := 0) (j := 35) (by decide), up_up]
        · refine R_TT h (fun j a b => by rw [up_ne _ _ (by omega), up_ne _ _ (by omega)]) (fun i a b c => by rw [up_ne _ _ b, up_ne _ _ (fun q => c (by rw [q]; decide))]) (by rw [up_same]; simp only [List.length_set]) (fun s hs => ?_) ?_
          · rw [up_same, gd_set_ne (fun q => by subst q; exact absurd hs (by decide)), gd_set_ne (fun q => by subst q; exact absurd hs (by decide))]
          · have e : ((((B 0).set 0 0).set 61 (nI (k + 1)))).getD 61 0 = nI (k + 1) := gd_set_same (by rw [List.length_set, hb0]; decide)
            have n4 : RT ((A 47).set 0 (nI (k + 1))) ((A 48).set k x) (((((B 0).set 0 0).set 61 (nI (k + 1)))).getD 61 0) ((B 35).set k x) 10 (okN 9) := by rw [e]; exact RT_put t4 (by omega) c5 (by decide) (by obtain ⟨j, hj, rfl⟩ := wi_rng (n := 9) (by decide) hx; exact ⟨j, hj, rfl⟩)
            have o0 : RT (A 39) (A 40) (((((B 0).set 0 0).set 61 (nI (k + 1)))).getD 43 0) (B 22) 12 okB := by
              rw [gd_set_ne (by decide), gd_set_ne (by decide)]; exact t0
            have o1 : RT (A 41) (A 42) (((((B 0).set 0 0).set 61 (nI (k + 1)))).getD 52 0) (B 29) 16 (okN 1) := by
              rw [gd_set_ne (by decide), gd_set_ne (by decide)]; exact t1
            have o2 : RT (A 43) (A 44) (((((B 0).set 0 0).set 61 (nI (k + 1)))).getD 54 0) (B 30) 12 (okN 99) := by
              rw [gd_set_ne (by decide), gd_set_ne (by decide)]; exact t2
            have o3 : RT (A 45) (A 46) (((((B 0).set 0 0).set 61 (nI (k + 1)))).getD 57 0) (B 32) 16 (okN 9) := by
              rw [gd_set_ne (by decide), gd_set_ne (by decide)]; exact t3
            exact ⟨o0, o1, o2, o3, n4⟩
    · refine ⟨-nI 1, A, _, ?_, ?_, hRt⟩
      · unfold gX10_digit
        simp (disch := first | omega | (simp only [up_ap, List.length_set, Nat.reduceEqDiff, reduceIte]; omega)) only [bd_pr, pr_ap, jn_eq, lt_eq, bd_bd, bd_ite, ite_ap, bd_ld, bd_sv, bd_la, bd_sa, bd_ln, bd_rz0, bd_rz1, rz_n0, rz_n1, e_lit2, nI_z, nI_eq0, nI_0eq, nI_le0, nI_lt0, nI_0lt, nI_0le, e_001, e_n10, e_n1lt, bd_la0, bd_sa0, bd_rz00, rz_0, rz_1, b2i_0, Int32.add_zero, Int32.zero_add, nI_add, nI_pred2, pk_sub, pk_mul, pk_div, e_nz, nI_eq, nI_leI, nI_ltI, e_nm1, e_nm2, up_ap, gd_set_ne, gd_set_same, List.length_set, Nat.add_sub_cancel, Nat.reduceEqDiff, Nat.reduceAdd, Nat.reduceMul, Nat.reduceSub, Nat.reduceLT, Nat.reduceLeDiff, reduceIte, Nat.not_lt_zero, not_true_eq_false, not_false_eq_true, and_true, true_and, and_false, false_and, h0]
        rw [bd_iw, b2i_f hx]
        simp (disch := first | omega | (simp only [up_ap, List.length_set, Nat.reduceEqDiff, reduceIte]; omega)) only [bd_pr, pr_ap, jn_eq, lt_eq, bd_bd, bd_ite, ite_ap, bd_ld, bd_sv, bd_la, bd_sa, bd_ln, bd_rz0, bd_rz1, rz_n0, rz_n1, e_lit2, nI_z, nI_eq0, nI_0eq, nI_le0, nI_lt0, nI_0lt, nI_0le, e_001, e_n10, e_n1lt, bd_la0, bd_sa0, bd_rz00, rz_0, rz_1, b2i_0, Int32.add_zero, Int32.zero_add, nI_add, nI_pred2, pk_sub, pk_mul, pk_div, e_nz, nI_eq, nI_leI, nI_ltI, e_nm1, e_nm2, up_ap, gd_set_ne, gd_set_same, List.length_set, Nat.add_sub_cancel, Nat.reduceEqDiff, Nat.reduceAdd, Nat.reduceMul, Nat.reduceSub, Nat.reduceLT, Nat.reduceLeDiff, reduceIte, Nat.not_lt_zero, not_true_eq_false, not_false_eq_true, and_true, true_and, and_false, false_and]
      · unfold gX11_digit
        simp (disch := first | omega | (simp only [up_ap, List.length_set, Nat.reduceEqDiff, reduceIte]; omega)) only [bd_pr, pr_ap, jn_eq, lt_eq, bd_bd, bd_ite, ite_ap, bd_ld, bd_sv, bd_la, bd_sa, bd_ln, bd_rz0, bd_rz1, rz_n0, rz_n1, e_lit2, nI_z, nI_eq0, nI_0eq, nI_le0, nI_lt0, nI_0lt, nI_0le, e_001, e_n10, e_n1lt, bd_la0, bd_sa0, bd_rz00, rz_0, rz_1, b2i_0, Int32.add_zero, Int32.zero_add, nI_add, nI_pred2, pk_sub, pk_mul, pk_div, e_nz, nI_eq, nI_leI, nI_ltI, e_nm1, e_nm2, up_ap, gd_set_ne, gd_set_same, List.length_set, Nat.add_sub_cancel, Nat.reduceEqDiff, Nat.reduceAdd, Nat.reduceMul, Nat.reduceSub, Nat.reduceLT, Nat.reduceLeDiff, reduceIte, Nat.not_lt_zero, not_true_eq_false, not_false_eq_true, and_true, true_and, and_false, false_and, h0]
        rw [bd_in, b2i_f hx]
        simp (disch := first | omega | (simp only [up_ap, List.length_set, Nat.reduceEqDiff, reduceIte]; omega)) only [bd_pr, pr_ap, jn_eq, lt_eq, bd_bd, bd_ite, ite_ap, bd_ld, bd_sv, bd_la, bd_sa, bd_ln, bd_rz0, bd_rz1, rz_n0, rz_n1, e_lit2, nI_z, nI_eq0, nI_0eq, nI_le0, nI_lt0, nI_0lt, nI_0le, e_001, e_n10, e_n1lt, bd_la0, bd_sa0, bd_rz00, rz_0, rz_1, b2i_0, Int32.add_zero, Int32.zero_add, nI_add, nI_pred2, pk_sub, pk_mul, pk_div, e_nz, nI_eq, nI_leI, nI_ltI, e_nm1, e_nm2, up_ap, gd_set_ne, gd_set_same, List.length_set, Nat.add_sub_cancel, Nat.reduceEqDiff, Nat.reduceAdd, Nat.reduceMul, Nat.reduceSub, Nat.reduceLT, Nat.reduceLeDiff, reduceIte, Nat.not_lt_zero, not_true_eq_false, not_false_eq_true, and_true, true_and, and_false, false_and]
