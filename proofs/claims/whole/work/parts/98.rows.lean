/-! PURE: rows -/
def wv : Nat → Nat → Int32
  | 0, 0 => 1
  | 0, _ + 1 => 0
  | m + 1, 0 => nI m * wv m 0
  | m + 1, j + 1 => wv m j + nI (m + (j + 1)) * wv m (j + 1)
def TI (t : List Int32) (m j : Nat) : Prop := t.length = 121 ∧ ∀ a b, b < 11 → a ≤ 10 → (a < m ∨ (a = m ∧ b < j)) → t.getD (11 * a + b) 0 = wv a b
theorem TI_step {t : List Int32} {m j : Nat} (h : TI t m j) (hm : m ≤ 10) (hj : j < 11) : TI (t.set (11 * m + j) (wv m j)) m (j + 1) := by
  refine ⟨by rw [List.length_set]; exact h.1, fun a b hb ha hab => ?_⟩
  by_cases e : a = m ∧ b = j
  · obtain ⟨rfl, rfl⟩ := e
    rw [gd_set_same (by rw [h.1]; omega)]
  · rw [gd_set_ne (by omega)]
    exact h.2 a b hb ha (by omega)
theorem TI_next {t : List Int32} {m : Nat} (h : TI t m 11) : TI t (m + 1) 0 := ⟨h.1, fun a b hb ha hab => h.2 a b hb ha (by omega)⟩
set_option maxHeartbeats 400000 in
theorem rw2_step {B : Bk} {t : List Int32} {m j : Nat} (h : TI t m j) (hm : m ≤ 10) (hj : j < 11) (s g : Int32 → MM Int32) : rw2B (nI m) s g (nI j) (up B 34 t) = g (nI (j + 1)) (up B 34 (t.set (11 * m + j) (wv m j))) := by
  have n1 : ¬ 11 ≤ j := by omega
  have tl := h.1
  unfold rw2B
  cases m with
  | zero =>
    cases j with
    | zero => simp (disch := first | omega | (simp only [up_ap, List.length_set, Nat.reduceEqDiff, reduceIte, tl] <;> omega)) only [Int32.le_refl, bd_pr, pr_ap, jn_eq, lt_eq, bd_bd, bd_ite, ite_ap, bd_ld, bd_sv, bd_la, bd_sa, bd_ln, bd_rz0, bd_rz1, rz_n0, rz_n1, e_lit2, nI_z, nI_eq0, nI_0eq, nI_le0, nI_lt0, nI_0lt, nI_0le, e_001, e_n10, e_n1lt, bd_la0, bd_sa0, bd_rz00, rz_0, rz_1, b2i_0, Int32.add_zero, Int32.zero_add, nI_add, nI_pred2, pk_sub, pk_mul, pk_div, e_nz, nI_eq, nI_leI, nI_ltI, e_nm1, e_nm2, up_ap, gd_set_ne, gd_set_same, List.length_set, Nat.add_sub_cancel, Nat.reduceEqDiff, Nat.reduceAdd, Nat.reduceMul, Nat.reduceSub, Nat.reduceLT, Nat.reduceLeDiff, reduceIte, Nat.not_lt_zero, not_true_eq_false, not_false_eq_true, and_true, true_and, and_false, false_and, n1, up_up, wv, Int32.mul_zero, Nat.mul_zero, Nat.zero_add]
    | succ j => simp (disch := first | omega | (simp only [up_ap, List.length_set, Nat.reduceEqDiff, reduceIte, tl] <;> omega)) only [Int32.le_refl, bd_pr, pr_ap, jn_eq, lt_eq, bd_bd, bd_ite, ite_ap, bd_ld, bd_sv, bd_la, bd_sa, bd_ln, bd_rz0, bd_rz1, rz_n0, rz_n1, e_lit2, nI_z, nI_eq0, nI_0eq, nI_le0, nI_lt0, nI_0lt, nI_0le, e_001, e_n10, e_n1lt, bd_la0, bd_sa0, bd_rz00, rz_0, rz_1, b2i_0, Int32.add_zero, Int32.zero_add, nI_add, nI_pred2, pk_sub, pk_mul, pk_div, e_nz, nI_eq, nI_leI, nI_ltI, e_nm1, e_nm2, up_ap, gd_set_ne, gd_set_same, List.length_set, Nat.add_sub_cancel, Nat.reduceEqDiff, Nat.reduceAdd, Nat.reduceMul, Nat.reduceSub, Nat.reduceLT, Nat.reduceLeDiff, reduceIte, Nat.not_lt_zero, not_true_eq_false, not_false_eq_true, and_true, true_and, and_false, false_and, n1, up_up, wv, Int32.mul_zero, Nat.mul_zero, Nat.zero_add]
  | succ m =>
    cases j with
    | zero =>
      have e2 := h.2 m 0 (by omega) (by omega) (Or.inl (by omega))
      rw [Nat.add_zero] at e2
      simp (disch := first | omega | (simp only [up_ap, List.length_set, Nat.reduceEqDiff, reduceIte, tl] <;> omega)) only [Int32.le_refl, bd_pr, pr_ap, jn_eq, lt_eq, bd_bd, bd_ite, ite_ap, bd_ld, bd_sv, bd_la, bd_sa, bd_ln, bd_rz0, bd_rz1, rz_n0, rz_n1, e_lit2, nI_z, nI_eq0, nI_0eq, nI_le0, nI_lt0, nI_0lt, nI_0le, e_001, e_n10, e_n1lt, bd_la0, bd_sa0, bd_rz00, rz_0, rz_1, b2i_0, Int32.add_zero, Int32.zero_add, nI_add, nI_pred2, pk_sub, pk_mul, pk_div, e_nz, nI_eq, nI_leI, nI_ltI, e_nm1, e_nm2, up_ap, gd_set_ne, gd_set_same, List.length_set, Nat.add_sub_cancel, Nat.reduceEqDiff, Nat.reduceAdd, Nat.reduceMul, Nat.reduceSub, Nat.reduceLT, Nat.reduceLeDiff, reduceIte, Nat.not_lt_zero, not_true_eq_false, not_false_eq_true, and_true, true_and, and_false, false_and, n1, up_up, wv, e2, Nat.add_zero]
    | succ j =>
      have e1 := h.2 m j (by omega) (by omega) (Or.inl (by omega))
      rw [show 11 * m + j = 11 * m + (j + 1) - 1 by omega] at e1
      have e2 := h.2 m (j + 1) (by omega) (by omega) (Or.inl (by omega))
      simp (disch := first | omega | (simp only [up_ap, List.length_set, Nat.reduceEqDiff, reduceIte, tl] <;> omega)) only [Int32.le_refl, bd_pr, pr_ap, jn_eq, lt_eq, bd_bd, bd_ite, ite_ap, bd_ld, bd_sv, bd_la, bd_sa, bd_ln, bd_rz0, bd_rz1, rz_n0, rz_n1, e_lit2, nI_z, nI_eq0, nI_0eq, nI_le0, nI_lt0, nI_0lt, nI_0le, e_001, e_n10, e_n1lt, bd_la0, bd_sa0, bd_rz00, rz_0, rz_1, b2i_0, Int32.add_zero, Int32.zero_add, nI_add, nI_pred2, pk_sub, pk_mul, pk_div, e_nz, nI_eq, nI_leI, nI_ltI, e_nm1, e_nm2, up_ap, gd_set_ne, gd_set_same, List.length_set, Nat.add_sub_cancel, Nat.reduceEqDiff, Nat.reduceAdd, Nat.reduceMul, Nat.reduceSub, Nat.reduceLT, Nat.reduceLeDiff, reduceIte, Nat.not_lt_zero, not_true_eq_false, not_false_eq_true, and_true, true_and, and_false, false_and, n1, up_up, wv, e1, e2]
def fillr (m : Nat) (t : List Int32) : Nat → List Int32 := fo (fun b l => l.set (11 * m + b) (wv m b)) t
theorem TI_fill {t : List Int32} {m : Nat} (h : TI t m 0) (hm : m ≤ 10) : ∀ j, j ≤ 11 → TI (fillr m t j) m j
  | 0, _ => h
  | j + 1, hj => TI_step (TI_fill h hm j (by omega)) hm (by omega)
theorem rw2_go {B : Bk} {t : List Int32} {m : Nat} (h : TI t m 0) (hm : m ≤ 10) (s : Int32 → MM Int32) : rw2 (nI m) s (up B 34 t) = s (nI (m + 1)) (up B 34 (fillr m t 11)) := by
  unfold rw2
  refine loopF 11 nI (fun j => up B 34 (fillr m t j)) rfl rfl (fun j hj g => ?_) (fun g => ?_) (by omega)
  · exact rw2_step (TI_fill h hm j (by omega)) hm hj s g
  · unfold rw2B
    rw [if_pos (show (11 : Int32) ≤ nI 11 from Int32.le_refl _)]
    show lt (nI m + nI 1) (fun y10 => s y10) _ = _
    rw [nI_add]; rfl
def fills (t : List Int32) : Nat → List Int32 := fo (fun m l => fillr m l 11) t
theorem TI_fills {t : List Int32} (h : t.length = 121) : ∀ m, m ≤ 11 → TI (fills t m) m 0
  | 0, _ => ⟨h, fun a b _ _ hab => by omega⟩
  | m + 1, hm => TI_next (TI_fill (TI_fills h m (by omega)) (by omega) 11 (Nat.le_refl _))
set_option maxHeartbeats 400000 in
theorem rw1_go {B : Bk} (h : (B 34).length = 121) {a b : Nat} (ha : a ≤ 10) (hb : b ≤ 10) : rw1 (nI a) (nI b) B = some (wv a b, up B 34 (fills (B 34) (a + 1))) := by
  unfold rw1
  refine loopF (a + 1) nI (fun j => up B 34 (fills (B 34) j)) rfl (up_self B 34) (fun j hj g => ?_) (fun g => ?_) (by omega)
  · have n1 : ¬ a < j := by omega
    unfold rw1B
    rw [if_neg (fun z => n1 ((nI_ltI (by omega) (by omega)).mp z))]
    exact rw2_go (TI_fills h j (by omega)) (by omega) g
  · have hT := TI_fills h (a + 1) (by omega)
    have tl := hT.1
    have e := hT.2 a b (by omega) (by omega) (Or.inl (by omega))
    unfold rw1B
    have n1 : a < a + 1 := by omega
    simp (disch := first | omega | (simp only [up_ap, List.length_set, Nat.reduceEqDiff, reduceIte, tl] <;> omega)) only [Int32.le_refl, bd_pr, pr_ap, jn_eq, lt_eq, bd_bd, bd_ite, ite_ap, bd_ld, bd_sv, bd_la, bd_sa, bd_ln, bd_rz0, bd_rz1, rz_n0, rz_n1, e_lit2, nI_z, nI_eq0, nI_0eq, nI_le0, nI_lt0, nI_0lt, nI_0le, e_001, e_n10, e_n1lt, bd_la0, bd_sa0, bd_rz00, rz_0, rz_1, b2i_0, Int32.add_zero, Int32.zero_add, nI_add, nI_pred2, pk_sub, pk_mul, pk_div, e_nz, nI_eq, nI_leI, nI_ltI, e_nm1, e_nm2, up_ap, gd_set_ne, gd_set_same, List.length_set, Nat.add_sub_cancel, Nat.reduceEqDiff, Nat.reduceAdd, Nat.reduceMul, Nat.reduceSub, Nat.reduceLT, Nat.reduceLeDiff, reduceIte, Nat.not_lt_zero, not_true_eq_false, not_false_eq_true, and_true, true_and, and_false, false_and, n1, e]
theorem wv_class : ∀ a, a < 11 → ∀ b, b < 11 → (gX6_waysInRows (nI a) (nI b) (fun _ => [])).map (fun q => q.1) = some (wv a b) := by decide +kernel
set_option maxHeartbeats 400000 in
theorem op_rows {A B : Bk} (h : R A B) (x y : Int32) : ∃ r A' B', gX10_rows x y A = some (r, A') ∧ gX11_rows x y B = some (r, B') ∧ R A' B' := by
  have hb0 := R_B0 h
  have hRt := R_told h
  obtain ⟨B0, hB0⟩ : ∃ z, z = up B 0 ((B 0).set 0 0) := ⟨_, rfl⟩
  rw [← hB0] at hRt
  have z0 := R_B0 hRt
  obtain ⟨⟨np, nc, nt, ks, wh, hH, hU⟩, hT, hI, hA, hB⟩ := id hRt
  obtain ⟨hW, hw0⟩ := R_W hH
  obtain ⟨hl, ⟨hn1, hn2, hn3, hn4⟩, ⟨p1, p2, p3, p4, p5, p6⟩, he, ⟨s1, s2, s3, s4, s5, s6, s7⟩, hod, ho, hd, hw, ⟨k1, k2, k3⟩⟩ := id hW
  obtain ⟨l0, l1, l2, l3, l4, l5, l6, l7, l8, l9, l10, l11, l12⟩ := id hl
  have b6 : (B0 0).getD 6 0 = nI np := hH.1.2.2.2.1.2.2.1
  have b7 : (B0 0).getD 7 0 = nI nc := hH.1.2.2.2.1.2.2.2.1
  have b8 : (B0 0).getD 8 0 = nI nt := hH.1.2.2.2.1.2.2.2.2
  have m4 : (B0 4).length = 20 := by rw [← hod.1]; exact l8
  have m5 : (B0 5).length = 20 := by rw [← hod.2]; exact l9
  have m34 : (B0 34).length = 121 := hB.2.2.2.2.2.2.2.2.2.2.2.1
  by_cases hx : 0 ≤ x ∧ x ≤ nI 10
  · by_cases hy : 0 ≤ y ∧ y ≤ nI 10
    · obtain ⟨a, ha, rfl⟩ := wi_rng (n := 10) (by decide) hx
      obtain ⟨b, hb, rfl⟩ := wi_rng (n := 10) (by decide) hy
      refine ⟨wv a b, A, up B0 34 (fills (B0 34) (a + 1)), ?_, ?_, R_XF hRt (XF_B (by decide) (by rw [(TI_fills m34 (a + 1) (by omega)).1, m34]))⟩
      · unfold gX10_rows
        rw [bd_iw, b2i_t (show (0 : Int32) ≤ nI a ∧ nI a ≤ 10 from hx)]
        simp only [jn_eq]
        rw [if_neg (by decide), bd_iw, b2i_t (show (0 : Int32) ≤ nI b ∧ nI b ≤ 10 from hy), if_neg (by decide), bd_lf0 _ (St_val (St_ways _ _) (wv_class a (by omega) b (by omega)) _)]
        rfl
      · rw [rw_eq, told0 _ hb0, ← hB0, bd_in, b2i_t (show (0 : Int32) ≤ nI a ∧ nI a ≤ 10 from hx)]
        simp only [jn_eq]
        rw [if_neg (by decide), bd_in, b2i_t (show (0 : Int32) ≤ nI b ∧ nI b ≤ 10 from hy), if_neg (by decide)]
        exact rw1_go m34 (by omega) (by omega)
    · refine ⟨-1, A, B0, ?_, ?_, hRt⟩
      · unfold gX10_rows
        rw [bd_iw, b2i_t (show (0 : Int32) ≤ x ∧ x ≤ 10 from hx)]
        simp only [jn_eq]
        rw [if_neg (by decide), bd_iw, b2i_f (show ¬ ((0 : Int32) ≤ y ∧ y ≤ 10) from hy)]; rfl
      · rw [rw_eq, told0 _ hb0, ← hB0, bd_in, b2i_t (show (0 : Int32) ≤ x ∧ x ≤ 10 from hx)]
        simp only [jn_eq]
        rw [if_neg (by decide), bd_in, b2i_f (show ¬ ((0 : Int32) ≤ y ∧ y ≤ 10) from hy)]; rfl
  · refine ⟨-1, A, B0, ?_, ?_, hRt⟩
    · unfold gX10_rows
      rw [bd_iw, b2i_f (show ¬ ((0 : Int32) ≤ x ∧ x ≤ 10) from hx)]; rfl
    · rw [rw_eq, told0 _ hb0, ← hB0, bd_in, b2i_f (show ¬ ((0 : Int32) ≤ x ∧ x ≤ 10) from hx)]; rfl
