/-! PURE: strip -/
theorem ck1 {k m q : Nat} (hk : k < 7) (hm : m < 64) (hq : q < 2 ^ k) : (fN k m k q).1 < 2 ^ k ∧ (cF k m (fN k m k q).1 k).2 = (q, (fN k m k q).2) := by
  have h := chk_all k hk m hm
  rw [Bool.and_eq_true] at h
  have h1 := List.all_eq_true.mp h.2 q (List.mem_range.mpr hq)
  rw [Bool.and_eq_true, decide_eq_true_eq, decide_eq_true_eq] at h1
  exact h1
theorem ck2 {k m a : Nat} (hk : k < 7) (hm : m < 64) (ha : a < 2 ^ k) : ∃ q, q < 2 ^ k ∧ (fN k m k q).1 = a := by
  have h := chk_all k hk m hm
  rw [Bool.and_eq_true] at h
  have h1 := List.all_eq_true.mp h.1 a (List.mem_range.mpr ha)
  rw [Bool.and_eq_true, decide_eq_true_eq, decide_eq_true_eq] at h1
  exact ⟨_, h1.1, by rw [h1.2]⟩
theorem pw64 {k : Nat} (hk : k < 7) : 2 ^ k ≤ 64 := by
  have : ∀ k, k < 7 → 2 ^ k ≤ 64 := by decide
  exact this k hk
theorem fN_inj {k m q q' : Nat} (hk : k < 7) (hm : m < 64) (hq : q < 2 ^ k) (hq' : q' < 2 ^ k) (e : (fN k m k q).1 = (fN k m k q').1) : q = q' := by
  have h1 := (ck1 hk hm hq).2
  have h2 := (ck1 hk hm hq').2
  rw [e, h2] at h1
  exact (congrArg Prod.fst h1).symm
set_option maxHeartbeats 400000 in
theorem p_folded {k m q : Nat} (hk : k < 7) (hm : m < 64) (hq : q < 2 ^ k) (A : Bk) : gX6_folded (nI k) (nI m) (nI (fN k m k q).1) A = some (nI (2 * q + bN (fN k m k q).2), A) := by
  have h := ck1 hk hm hq
  rw [p_cf hk hm h.1, h.2]
theorem half2 {q : Nat} (hq : q ≤ 64) (b : Bool) : nI (2 * q + bN b) / 2 = nI q := by
  have := bN_lt b
  rw [show (2 : Int32) = nI 2 from rfl, pk_div (by omega) (by decide) (by decide)]
  congr 1; omega
set_option maxHeartbeats 400000 in
theorem p_cellAt {k m p : Nat} (hk : k < 7) (hm : m < 64) (hp : p < 2 ^ k) (A : Bk) : gX6_cellAt (nI k) (nI m) (nI p) A = some (nI (fN k m k p).1, A) := by
  have h64 := pw64 hk
  have ha := (ck1 hk hm hp).1
  have n2 : ¬ (2 : Int32) = 0 := by decide
  unfold gX6_cellAt
  refine loopF (fN k m k p).1 nI (fun _ => A) rfl rfl (fun j hj f => ?_) (fun f => ?_) (by omega)
  · obtain ⟨q, hq, rfl⟩ := ck2 hk hm (a := j) (by omega)
    have hne : ¬ nI q = nI p := fun z => by
      have := (nI_eq (by omega) (by omega)).mp z
      subst this; omega
    rw [pw k hk, if_neg (show ¬ nI (2 ^ k) ≤ nI (fN k m k q).1 from fun z => by have := (nI_leI (by omega) (by omega)).mp z; omega), bd_some (p_folded hk hm hq A), nz_fn n2, half2 (by omega), if_neg hne]
    show f (nI _ + nI 1) A = _
    rw [nI_add]
  · rw [pw k hk, if_neg (show ¬ nI (2 ^ k) ≤ nI (fN k m k p).1 from fun z => by have := (nI_leI (by omega) (by omega)).mp z; omega), bd_some (p_folded hk hm hp A), nz_fn n2, half2 (by omega), if_pos rfl]; rfl
theorem sgn1 : ∀ a, a < 64 → ∀ p, p < 64 → ∀ b, (sgn (a, b) = nI (p + 1) ↔ (a = p ∧ b = true)) ∧ (sgn (a, b) = -nI p - nI 1 ↔ (a = p ∧ b = false)) := by decide +kernel
theorem sgn2 : ∀ a, a < 64 → (0 ≤ sgn (a, true) ∧ sgn (a, true) - 1 = nI a) ∧ (¬ 0 ≤ sgn (a, false) ∧ -sgn (a, false) - 1 = nI a) ∧ ¬ sgn (a, true) ≤ 0 ∧ sgn (a, false) ≤ 0 := by decide +kernel
set_option maxHeartbeats 400000 in
theorem p_sg1 {k m s p x : Nat} (hk : k < 7) (hm : m < 64) (hs : s < 2 ^ k) (hsp : (fN k m k s).1 = p) (hx : x = 1 ∨ x = 2) {A : Bk} (hl : (A 27).length = 64) (hv : ∀ q, q < 2 ^ k → (A 27).getD q 0 = sgn (fN k m k q)) : sg1 (nI x) (nI p) A = some (if x = 1 then nI s else nI (bN (fN k m k s).2), A) := by
  have h64 := pw64 hk
  have hp : p < 2 ^ k := by rw [← hsp]; exact (ck1 hk hm hs).1
  unfold sg1
  refine loopF s nI (fun _ => A) rfl rfl (fun j hj f => ?_) (fun f => ?_) (by omega)
  · have hne : (fN k m k j).1 ≠ p := fun z => by
      have := fN_inj hk hm (q := j) (q' := s) (by omega) hs (z.trans hsp.symm)
      omega
    have hlt := (ck1 hk hm (q := j) (by omega)).1
    obtain ⟨s1, s2⟩ := sgn1 (fN k m k j).1 (by omega) p (by omega) (fN k m k j).2
    have c1 : ¬ sgn (fN k m k j) = nI (p + 1) := fun z => hne (s1.mp z).1
    have c2 : ¬ sgn (fN k m k j) = -nI p - nI 1 := fun z => hne (s2.mp z).1
    have e := hv j (by omega)
    unfold sg1B
    simp (disch := first | omega | (simp only [up_ap, List.length_set, Nat.reduceEqDiff, reduceIte] <;> omega)) only [Int32.le_refl, bd_pr, pr_ap, jn_eq, lt_eq, bd_bd, bd_ite, ite_ap, bd_ld, bd_sv, bd_la, bd_sa, bd_ln, bd_rz0, bd_rz1, rz_n0, rz_n1, e_lit2, nI_z, nI_eq0, nI_0eq, nI_le0, nI_lt0, nI_0lt, nI_0le, e_001, e_n10, e_n1lt, bd_la0, bd_sa0, bd_rz00, rz_0, rz_1, b2i_0, Int32.add_zero, Int32.zero_add, nI_add, nI_pred2, pk_sub, pk_mul, pk_div, e_nz, nI_eq, nI_leI, nI_ltI, e_nm1, e_nm2, up_ap, gd_set_ne, gd_set_same, List.length_set, Nat.add_sub_cancel, Nat.reduceEqDiff, Nat.reduceAdd, Nat.reduceMul, Nat.reduceSub, Nat.reduceLT, Nat.reduceLeDiff, reduceIte, Nat.not_lt_zero, not_true_eq_false, not_false_eq_true, and_true, true_and, and_false, false_and, e, c1, c2]
  · have hlt := (ck1 hk hm hs).1
    obtain ⟨s1, s2⟩ := sgn1 (fN k m k s).1 (by omega) p (by omega) (fN k m k s).2
    obtain ⟨⟨t1, t2⟩, ⟨t3, t4⟩, t5, t6⟩ := sgn2 p (by omega)
    have e := hv s hs
    obtain ⟨y, hy⟩ : ∃ y, fN k m k s = y := ⟨_, rfl⟩
    rw [hy] at hsp s1 s2 e ⊢
    obtain ⟨a, b⟩ := y
    have hsp : a = p := hsp
    subst hsp
    have n1 : x < 2 ^ 31 := by omega
    unfold sg1B
    cases b
    · have c1 : ¬ sgn (a, false) = nI (a + 1) := fun z => Bool.noConfusion (s1.mp z).2
      have c2' : (sgn (a, false) = -nI a - nI 1) = True := eq_true (s2.mpr ⟨rfl, rfl⟩)
      obtain rfl | rfl := hx
      · simp (disch := first | omega | (simp only [up_ap, List.length_set, Nat.reduceEqDiff, reduceIte] <;> omega)) only [Int32.le_refl, bd_pr, pr_ap, jn_eq, lt_eq, bd_bd, bd_ite, ite_ap, bd_ld, bd_sv, bd_la, bd_sa, bd_ln, bd_rz0, bd_rz1, rz_n0, rz_n1, e_lit2, nI_z, nI_eq0, nI_0eq, nI_le0, nI_lt0, nI_0lt, nI_0le, e_001, e_n10, e_n1lt, bd_la0, bd_sa0, bd_rz00, rz_0, rz_1, b2i_0, Int32.add_zero, Int32.zero_add, nI_add, nI_pred2, pk_sub, pk_mul, pk_div, e_nz, nI_eq, nI_leI, nI_ltI, e_nm1, e_nm2, up_ap, gd_set_ne, gd_set_same, List.length_set, Nat.add_sub_cancel, Nat.reduceEqDiff, Nat.reduceAdd, Nat.reduceMul, Nat.reduceSub, Nat.reduceLT, Nat.reduceLeDiff, reduceIte, Nat.not_lt_zero, not_true_eq_false, not_false_eq_true, and_true, true_and, and_false, false_and, e, c1, c2', bN]
      · simp (disch := first | omega | (simp only [up_ap, List.length_set, Nat.reduceEqDiff, reduceIte] <;> omega)) only [Int32.le_refl, bd_pr, pr_ap, jn_eq, lt_eq, bd_bd, bd_ite, ite_ap, bd_ld, bd_sv, bd_la, bd_sa, bd_ln, bd_rz0, bd_rz1, rz_n0, rz_n1, e_lit2, nI_z, nI_eq0, nI_0eq, nI_le0, nI_lt0, nI_0lt, nI_0le, e_001, e_n10, e_n1lt, bd_la0, bd_sa0, bd_rz00, rz_0, rz_1, b2i_0, Int32.add_zero, Int32.zero_add, nI_add, nI_pred2, pk_sub, pk_mul, pk_div, e_nz, nI_eq, nI_leI, nI_ltI, e_nm1, e_nm2, up_ap, gd_set_ne, gd_set_same, List.length_set, Nat.add_sub_cancel, Nat.reduceEqDiff, Nat.reduceAdd, Nat.reduceMul, Nat.reduceSub, Nat.reduceLT, Nat.reduceLeDiff, reduceIte, Nat.not_lt_zero, not_true_eq_false, not_false_eq_true, and_true, true_and, and_false, false_and, e, c1, c2', t6, bN, Bool.false_eq_true]
    · have c1 : sgn (a, true) = nI (a + 1) := s1.mpr ⟨rfl, rfl⟩
      obtain rfl | rfl := hx
      · simp (disch := first | omega | (simp only [up_ap, List.length_set, Nat.reduceEqDiff, reduceIte] <;> omega)) only [Int32.le_refl, bd_pr, pr_ap, jn_eq, lt_eq, bd_bd, bd_ite, ite_ap, bd_ld, bd_sv, bd_la, bd_sa, bd_ln, bd_rz0, bd_rz1, rz_n0, rz_n1, e_lit2, nI_z, nI_eq0, nI_0eq, nI_le0, nI_lt0, nI_0lt, nI_0le, e_001, e_n10, e_n1lt, bd_la0, bd_sa0, bd_rz00, rz_0, rz_1, b2i_0, Int32.add_zero, Int32.zero_add, nI_add, nI_pred2, pk_sub, pk_mul, pk_div, e_nz, nI_eq, nI_leI, nI_ltI, e_nm1, e_nm2, up_ap, gd_set_ne, gd_set_same, List.length_set, Nat.add_sub_cancel, Nat.reduceEqDiff, Nat.reduceAdd, Nat.reduceMul, Nat.reduceSub, Nat.reduceLT, Nat.reduceLeDiff, reduceIte, Nat.not_lt_zero, not_true_eq_false, not_false_eq_true, and_true, true_and, and_false, false_and, e, c1]
      · rw [c1] at t5 e
        simp (disch := first | omega | (simp only [up_ap, List.length_set, Nat.reduceEqDiff, reduceIte] <;> omega)) only [Int32.le_refl, bd_pr, pr_ap, jn_eq, lt_eq, bd_bd, bd_ite, ite_ap, bd_ld, bd_sv, bd_la, bd_sa, bd_ln, bd_rz0, bd_rz1, rz_n0, rz_n1, e_lit2, nI_z, nI_eq0, nI_0eq, nI_le0, nI_lt0, nI_0lt, nI_0le, e_001, e_n10, e_n1lt, bd_la0, bd_sa0, bd_rz00, rz_0, rz_1, b2i_0, Int32.add_zero, Int32.zero_add, nI_add, nI_pred2, pk_sub, pk_mul, pk_div, e_nz, nI_eq, nI_leI, nI_ltI, e_nm1, e_nm2, up_ap, gd_set_ne, gd_set_same, List.length_set, Nat.add_sub_cancel, Nat.reduceEqDiff, Nat.reduceAdd, Nat.reduceMul, Nat.reduceSub, Nat.reduceLT, Nat.reduceLeDiff, reduceIte, Nat.not_lt_zero, not_true_eq_false, not_false_eq_true, and_true, true_and, and_false, false_and, e, t5, bN]
set_option maxHeartbeats 400000 in
theorem op_strip {A B : Bk} (h : R A B) (x y z : Int32) : ∃ r A' B', gX10_strip x y z A = some (r, A') ∧ gX11_strip x y z B = some (r, B') ∧ R A' B' := by
  have hb0 := R_B0 h
  have hRt := R_told h
  obtain ⟨B0, hB0⟩ : ∃ z, z = up B 0 ((B 0).set 0 0) := ⟨_, rfl⟩
  rw [← hB0] at hRt
  have z0 := R_B0 hRt
  obtain ⟨⟨np, nc, nt, ks, wh, hH, hU⟩, hT, hI, hA, hB⟩ := id hRt
  obtain ⟨hW, hw0⟩ := R_W hH
  obtain ⟨hl, ⟨hn1, hn2, hn3, hn4⟩, ⟨p1, p2, p3, p4, p5, p6⟩, he, ⟨s1, s2, s3, s4, s5, s6, s7⟩, hod, ho, hd, hw, ⟨k1, k2, k3⟩⟩ := id hW
  obtain ⟨l0, l1, l2, l3, l4, l5, l6, l7, l8, l9, l10, l11, l12⟩ := id hl
  have b6 : (B0 0).getD 6 0 = nI np := hH.1.2.2.2.1.2.2.1
  have b7 : (B0 0).getD 7 0 = nI nc := hH.1.2.2.2.1.2.2.2.1
  have b8 : (B0 0).getD 8 0 = nI nt := hH.1.2.2.2.1.2.2.2.2
  have m4 : (B0 4).length = 20 := by rw [← hod.1]; exact l8
  have m5 : (B0 5).length = 20 := by rw [← hod.2]; exact l9
  have m27 : (B0 27).length = 64 := hB.2.2.2.2.2.2.2.1
  have m28 : (B0 28).length = 64 := hB.2.2.2.2.2.2.2.2.1
  have n64 : ¬ (64 : Int32) = 0 := by decide
  have n2 : ¬ (2 : Int32) = 0 := by decide
  have k1 : ¬ nI 1 = (0 : Int32) := by decide
  by_cases hx : (0 : Int32) ≤ x ∧ x ≤ 447
  · obtain ⟨v, hv, rfl⟩ := wi_rng (n := 447) (by decide) hx
    obtain ⟨k, hk⟩ : ∃ k, v / 64 = k := ⟨_, rfl⟩
    obtain ⟨m, hm⟩ : ∃ m, v % 64 = m := ⟨_, rfl⟩
    have hk7 : k < 7 := by omega
    have hm64 : m < 64 := by omega
    have ek : nI v / 64 = nI k := by rw [show (64 : Int32) = nI 64 from rfl, pk_div (by omega) (by decide) (by decide), hk]
    have em : irm (nI v) 64 = nI m := by rw [show (64 : Int32) = nI 64 from rfl, rem_e (by omega) (by decide) (by decide), hm]
    have hp64 := pw64 hk7
    have hp0 : 0 < 2 ^ k := Nat.pow_pos (by decide)
    have ep : (1 <<< (nI k &&& 31) : Int32) - 1 = nI (2 ^ k - 1) := by
      rw [pw k hk7, show (1 : Int32) = nI 1 from rfl, pk_sub (by omega)]
    by_cases hy : (0 : Int32) ≤ y ∧ y ≤ nI (2 ^ k - 1)
    · obtain ⟨p, hp, rfl⟩ := wi_rng (n := 2 ^ k - 1) (by omega) hy
      by_cases hz : (0 : Int32) ≤ z ∧ z ≤ 2
      · obtain ⟨w, hw, rfl⟩ := wi_rng (n := 2) (by decide) hz
        obtain ⟨s, hs, hsp⟩ := ck2 hk7 hm64 (a := p) (by omega)
        obtain ⟨l, t, g, hl, ht, hlv⟩ := folds_go (B := B0) hk7 hm64 m27 m28
        have hR : R A (BS B0 l t) := R_XF (R_XF hRt (XF_B (k := 27) (l := l) (by decide) (by rw [hl, m27]))) (XF_B (k := 28) (l := t) (by decide) (by show t.length = (B0 28).length; rw [ht, m28]))
        have hA : gX10_strip (nI v) (nI p) (nI w) A = swt (nI w) 0 [bd (lf rh0 0 (gX6_cellAt (nI k) (nI m) (nI p))) fun r5 => pr r5, bd (lf rh0 0 (gX6_folded (nI k) (nI m) (nI p))) fun r6 => pr (r6 / 2), bd (lf rh0 0 (gX6_folded (nI k) (nI m) (nI p))) fun r7 => pr (irm r7 2)] (pr (-1)) A := by
          unfold gX10_strip
          simp only [nz_fn n64, nz_fn n2, jn_eq, ek, em, ep]
          rw [bd_iw, b2i_t hx, if_neg k1, bd_iw, b2i_t hy, if_neg k1]
        have hBb : gX11_strip (nI v) (nI p) (nI w) B = (if nI w = 0 then bd (la 27 (nI p)) fun v17 => (if 0 ≤ v17 then bd (la 27 (nI p)) fun v20 => pr (v20 - 1) else bd (la 27 (nI p)) fun v21 => pr (-v21 - 1)) else sg1 (nI w) (nI p)) (BS B0 l t) := by
          rw [sg_eq, told0 _ hb0, ← hB0]
          simp only [nz_fn n64, jn_eq, ek, em, ep]
          rw [bd_in, b2i_t hx, if_neg k1, bd_in, b2i_t hy, if_neg k1, bd_in, b2i_t hz, if_neg k1, bd_some g]
        have bb := bN_lt (fN k m k s).2
        obtain rfl | rfl | rfl : w = 0 ∨ w = 1 ∨ w = 2 := by omega
        · refine ⟨nI (fN k m k p).1, A, BS B0 l t, ?_, ?_, hR⟩
          · rw [hA, e_swt0 (by decide)]
            show (bd (lf rh0 0 (gX6_cellAt (nI k) (nI m) (nI p))) fun r5 => pr r5) A = _
            rw [bd_lf0 _ (p_cellAt hk7 hm64 (by omega) _)]; rfl
          · rw [hBb, if_pos (show nI 0 = (0 : Int32) from rfl)]
            have q1 : p < (BS B0 l t 27).length := by rw [BS_a, hl]; omega
            have q2 : (BS B0 l t 27).length < 2 ^ 31 := by rw [BS_a, hl]; decide
            rw [bd_la _ q1 q2, BS_a, hlv p (by omega)]
            obtain ⟨⟨t1, t2⟩, ⟨t3, t4⟩, t5, t6⟩ := sgn2 (fN k m k p).1 (by have := (ck1 hk7 hm64 (q := p) (by omega)).1; omega)
            obtain ⟨u, hu⟩ : ∃ u, fN k m k p = u := ⟨_, rfl⟩
            rw [hu] at t1 t2 t3 t4 ⊢
            have e := hlv p (by omega)
            rw [hu] at e
            obtain ⟨a, b⟩ := u
            cases b
            · rw [if_neg t3, bd_la _ q1 q2, BS_a, e, t4]; rfl
            · rw [if_pos t1, bd_la _ q1 q2, BS_a, e, t2]; rfl
        · refine ⟨nI s, A, BS B0 l t, ?_, ?_, hR⟩
          · rw [hA, e_swt0 (by decide)]
            show (bd (lf rh0 0 (gX6_folded (nI k) (nI m) (nI p))) fun r6 => pr (r6 / 2)) A = _
            have f1 := p_folded hk7 hm64 hs (fun i => A (rh0 i))
            rw [hsp] at f1
            rw [bd_lf0 _ f1, half2 (by omega)]; rfl
          · rw [hBb, if_neg k1, p_sg1 hk7 hm64 hs hsp (Or.inl rfl) hl hlv]; rfl
        · refine ⟨nI (bN (fN k m k s).2), A, BS B0 l t, ?_, ?_, hR⟩
          · rw [hA, e_swt0 (by decide)]
            show (bd (lf rh0 0 (gX6_folded (nI k) (nI m) (nI p))) fun r7 => pr (irm r7 2)) A = _
            have f1 := p_folded hk7 hm64 hs (fun i => A (rh0 i))
            rw [hsp] at f1
            rw [bd_lf0 _ f1, show (2 : Int32) = nI 2 from rfl, rem_e (by omega) (by decide) (by decide), show (2 * s + bN (fN k m k s).2) % 2 = bN (fN k m k s).2 by omega]; rfl
          · rw [hBb, if_neg (show ¬ nI 2 = (0 : Int32) by decide), p_sg1 hk7 hm64 hs hsp (Or.inr rfl) hl hlv]; rfl
      · have hsw : ∀ (L : List (MM Int32)) (D : MM Int32), L.length = 3 → swt z 0 L D = D := fun L D hL => swt_no (fun n hn e => hz (by
          rw [hL] at hn
          rw [e]
          exact ⟨nI_pos' (by omega), (nI_leI (a := n) (b := 2) (by omega) (by decide)).mpr (by omega)⟩)) (by rw [hL]; decide)
        refine ⟨-1, A, B0, ?_, ?_, hRt⟩
        · unfold gX10_strip
          simp only [nz_fn n64, nz_fn n2, jn_eq, ek, em, ep]
          rw [bd_iw, b2i_t hx, if_neg k1, bd_iw, b2i_t hy, if_neg k1, hsw _ _ rfl]
          rfl
        · rw [sg_eq, told0 _ hb0, ← hB0]
          simp only [nz_fn n64, jn_eq, ek, em, ep]
          rw [bd_in, b2i_t hx, if_neg k1, bd_in, b2i_t hy, if_neg k1, bd_in, b2i_f hz]; rfl
    · refine ⟨-1, A, B0, ?_, ?_, hRt⟩
      · unfold gX10_strip
        simp only [nz_fn n64, nz_fn n2, jn_eq, ek, em, ep]
        rw [bd_iw, b2i_t hx, if_neg k1, bd_iw, b2i_f hy]; rfl
      · rw [sg_eq, told0 _ hb0, ← hB0]
        simp only [nz_fn n64, jn_eq, ek, em, ep]
        rw [bd_in, b2i_t hx, if_neg k1, bd_in, b2i_f hy]; rfl
  · refine ⟨-1, A, B0, ?_, ?_, hRt⟩
    · unfold gX10_strip
      rw [bd_iw, b2i_f hx]; rfl
    · rw [sg_eq, told0 _ hb0, ← hB0, bd_in, b2i_f hx]; rfl
