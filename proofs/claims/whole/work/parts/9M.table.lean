/-! PURE: table, the reference lays it -/
def tt2B (x1 : Int32) (x2 : Int32) (x3 : Int32) : (Int32 → MM Int32) → Int32 → MM Int32 := fun (self8 : Int32 → MM Int32) (s9 : Int32) =>
  bd (ld 0 54) fun v10 =>
  (if v10 ≤ s9 then
  bd (gX11_looksFor x1 x2) fun r11 =>
  nz x1 (
  nz x1 (
  lt (irm (((irm x2 x1) + r11) - 1) x1) fun y12 =>
  jn (fun (a14 : Int32) =>
  pr a14) (fun j13 =>
  (if x3 = 1 then
  j13 r11
  else
  bd (la 31 y12) fun v15 =>
  (if v15 = (x2 + 1) then
  j13 y12
  else
  j13 ((-1)))))))
  else
  bd (la 30 s9) fun v16 =>
  nz x1 (
  bd (la 30 s9) fun v17 =>
  bd (gX11_looksFor x1 v17) fun r18 =>
  nz x1 (
  lt (irm (((irm v16 x1) + r18) - 1) x1) fun y19 =>
  bd (la 31 y19) fun v20 =>
  jn (fun (a22 : Unit) =>
  lt (s9 + 1) fun y23 =>
  self8 y23) (fun j21 =>
  (if v20 = 0 then
  bd (la 30 s9) fun v24 =>
  bd (sa 31 y19 (v24 + 1)) fun _ =>
  j21 ()
  else
  j21 ())))))
def tt2 (x1 : Int32) (x2 : Int32) (x3 : Int32) : MM Int32 := loopC 100000 (tt2B x1 x2 x3) 0
def tt1B (x1 : Int32) (x2 : Int32) (x3 : Int32) : (Int32 → MM Int32) → Int32 → MM Int32 := fun (self6 : Int32 → MM Int32) (s7 : Int32) =>
  (if x1 ≤ s7 then
  (tt2 x1 x2 x3)
  else
  bd (sa 31 s7 0) fun _ =>
  lt (s7 + 1) fun y25 =>
  self6 y25)
def tt1 (x1 : Int32) (x2 : Int32) (x3 : Int32) : MM Int32 := loopC 100000 (tt1B x1 x2 x3) 0
theorem tt_eq (x1 x2 x3 : Int32) : gX11_table x1 x2 x3 =
  bd (sv 0 0 0) fun _ =>
  bd (gX11_isIn x1 2 16) fun r1 =>
  jn (fun (a3 : Unit) =>
  pr ((-1))) (fun j2 =>
  (if r1 = 0 then
  j2 ()
  else
  bd (gX11_isIn x2 0 99) fun r4 =>
  (if r4 = 0 then
  j2 ()
  else
  bd (gX11_isIn x3 0 1) fun r5 =>
  (if r5 = 0 then
  j2 ()
  else
  (tt1 x1 x2 x3))))) := rfl
theorem lst_e {tab : Nat → Nat} {n x : Nat} (hn : 0 < n) (hn6 : n ≤ 16) (hx : x ≤ 99) : irm (irm (nI x) (nI n) + nI (lkN tab n x) - 1) (nI n) = nI (lst tab n x) := by
  have hlk := lkN_in (tab := tab) (x := x) hn
  have hm := Nat.mod_lt x hn
  rw [rem_e (by omega) hn (by omega), nI_add, show (1 : Int32) = nI 1 from rfl, pk_sub (by omega), rem_e (by omega) hn (by omega), show x % n + lkN tab n x - 1 = x % n + (lkN tab n x - 1) by omega, Nat.mod_add_mod, show x + (lkN tab n x - 1) = x + lkN tab n x - 1 by omega]
  rfl
set_option maxHeartbeats 400000 in
theorem p_tt1 {B : Bk} {n k x z : Nat} {ks : Nat → Nat} (hn : 0 < n) (hn6 : n ≤ 16) (hx : x ≤ 99) (h31 : (B 31).length = 16) (h0 : (B 0).length = 68) (h54 : (B 0).getD 54 0 = nI k) (h30 : (B 30).length = 12) (hk : k ≤ 12) (hks : ∀ i, i < k → (B 30).getD i 0 = nI (ks i) ∧ ks i ≤ 99) :
    Ht (tt1 (nI n) (nI x) (nI z) B) (fun r B' => ∃ b, b.length = 16 ∧ B' = up B 31 b ∧ r = if nI z = (1 : Int32) then nI (lkN (tabs ks n k) n x) else if tabs ks n k (lst (tabs ks n k) n x) = x + 1 then nI (lst (tabs ks n k) n x) else -1) := by
  have n0 : ¬ nI n = (0 : Int32) := nI_ne0 hn (by omega)
  unfold tt1
  refine loopI n (fun j s A' => s = nI j ∧ ∃ b : List Int32, A' = up B 31 b ∧ b.length = 16 ∧ ∀ p, p < j → b.getD p 0 = 0) _ (fun j s A' hj hI => ?_) (fun s A' hI f => ?_) (by omega) ⟨rfl, B 31, (up_self B 31).symm, h31, fun p hp => absurd hp (Nat.not_lt_zero p)⟩
  · obtain ⟨rfl, b, rfl, h1, h2⟩ := hI
    have n1 : ¬ n ≤ j := by omega
    refine ⟨nI (j + 1), up B 31 (b.set j 0), fun f => ?_, rfl, _, rfl, by rw [List.length_set, h1], fun p hp => ?_⟩
    · unfold tt1B
      simp (disch := first | omega | (simp only [up_ap, List.length_set, Nat.reduceEqDiff, reduceIte, h1] <;> omega)) only [Int32.le_refl, bd_pr, pr_ap, jn_eq, lt_eq, bd_bd, bd_ite, ite_ap, bd_ld, bd_sv, bd_la, bd_sa, bd_ln, bd_rz0, bd_rz1, rz_n0, rz_n1, e_lit2, nI_z, nI_eq0, nI_0eq, nI_le0, nI_lt0, nI_0lt, nI_0le, e_001, e_n10, e_n1lt, bd_la0, bd_sa0, bd_rz00, rz_0, rz_1, b2i_0, Int32.add_zero, Int32.zero_add, nI_add, nI_pred2, pk_sub, pk_mul, pk_div, e_nz, nI_eq, nI_leI, nI_ltI, e_nm1, e_nm2, up_ap, gd_set_ne, gd_set_same, List.length_set, Nat.add_sub_cancel, Nat.reduceEqDiff, Nat.reduceAdd, Nat.reduceMul, Nat.reduceSub, Nat.reduceLT, Nat.reduceLeDiff, reduceIte, Nat.not_lt_zero, not_true_eq_false, not_false_eq_true, and_true, true_and, and_false, false_and, n1, up_up]
    · by_cases e : p = j
      · subst e; rw [gd_set_same (by omega)]
      · rw [gd_set_ne (fun z => e z.symm)]; exact h2 p (by omega)
  · obtain ⟨rfl, b0, rfl, q1, q2⟩ := hI
    unfold tt1B
    rw [if_pos (Int32.le_refl _)]
    unfold tt2
    refine loopI k (fun j s A' => s = nI j ∧ ∃ l b, A' = up B 31 b ∧ TBL l b n (tabs ks n j)) _ (fun j s A' hj hI => ?_) (fun s A' hI f => ?_) (by omega) ⟨rfl, List.replicate 16 (-1), b0, rfl, by simp, q1, fun p hp => ⟨Nat.zero_le _, by rw [List.getD_eq_getElem?_getD, List.getElem?_replicate, if_pos (by omega)]; show (-1 : Int32) = nI 0 - nI 1; decide, by rw [q2 p hp]; rfl⟩⟩
    · obtain ⟨rfl, l, b, rfl, hT⟩ := hI
      obtain ⟨e1, e2⟩ := hks j hj
      obtain ⟨t, ht⟩ : ∃ t, tabs ks n j = t := ⟨_, rfl⟩
      have hs : tabs ks n (j + 1) = stp t n (ks j) := by rw [← ht]; rfl
      rw [ht] at hT
      rw [hs]
      obtain ⟨w, hw⟩ : ∃ w, ks j = w := ⟨_, rfl⟩
      rw [hw] at e1 e2 ⊢
      have n1 : ¬ nI k ≤ nI j := fun z => by have := (nI_leI (by omega) (by omega)).mp z; omega
      have hls := lst_lt (tab := t) (x := w) hn
      have hT0 := hT
      obtain ⟨ta, tb, tt⟩ := hT
      obtain ⟨u1, -, u3⟩ := tt _ hls
      have gl : gX11_looksFor (nI n) (nI w) (up B 31 b) = some (nI (lkN t n w), up B 31 b) := p_lmN (B := up B 31 b) (a := l) (by rw [up_same]; exact hT0) hn hn6 e2
      have w1 : (nI w + 1 : Int32) = nI (w + 1) := by rw [show (1 : Int32) = nI 1 from rfl, nI_add]
      have hb3 : (up B 31 b 31).length = 16 := by rw [up_same]; exact tb
      have hb30 : (up B 31 b 30).length = 12 := h30
      have e30 : (up B 31 b 30).getD j 0 = nI w := e1
      have hB : ∀ f, tt2B (nI n) (nI x) (nI z) f (nI j) (up B 31 b) = if t (lst t n w) = 0 then f (nI (j + 1)) (up B 31 (b.set (lst t n w) (nI (w + 1)))) else f (nI (j + 1)) (up B 31 b) := fun f => by
        unfold tt2B
        simp only [nz_fn n0, lt_eq, jn_eq]
        rw [bd_ld _ (show 54 < (up B 31 b 0).length by show 54 < (B 0).length; omega), show (up B 31 b 0).getD 54 0 = nI k from h54, if_neg n1, bd_la _ (by omega) (by omega), e30, bd_la _ (by omega) (by omega), e30, bd_some gl, lst_e hn hn6 e2, bd_la _ (by omega) (by omega), up_same, u3]
        by_cases z0 : t (lst t n w) = 0
        · rw [if_pos z0, if_pos (show nI (t (lst t n w)) = (0 : Int32) by rw [z0]; rfl), bd_la _ (by omega) (by omega), e30, w1, bd_sa _ (by omega) (by omega), up_same, up_up]
          show f (nI j + nI 1) _ = _
          rw [nI_add]
        · rw [if_neg z0, if_neg (show ¬ nI (t (lst t n w)) = (0 : Int32) from fun q => z0 ((nI_eq (b := 0) (by omega) (by omega)).mp q))]
          show f (nI j + nI 1) _ = _
          rw [nI_add]
      by_cases z0 : t (lst t n w) = 0
      · exact ⟨nI (j + 1), _, fun f => by rw [hB f, if_pos z0], rfl, _, _, rfl, TBL_put hT0 hn hn6 e2 z0⟩
      · exact ⟨nI (j + 1), _, fun f => by rw [hB f, if_neg z0], rfl, l, b, rfl, by rw [stp_no z0]; exact hT0⟩
    · obtain ⟨rfl, l, b, rfl, hT⟩ := hI
      obtain ⟨t, ht⟩ : ∃ t, tabs ks n k = t := ⟨_, rfl⟩
      rw [ht] at hT ⊢
      have hls := lst_lt (tab := t) (x := x) hn
      have hT0 := hT
      obtain ⟨ta, tb, tt⟩ := hT
      obtain ⟨u1, -, u3⟩ := tt _ hls
      have gl : gX11_looksFor (nI n) (nI x) (up B 31 b) = some (nI (lkN t n x), up B 31 b) := p_lmN (B := up B 31 b) (a := l) (by rw [up_same]; exact hT0) hn hn6 hx
      have w1 : (nI x + 1 : Int32) = nI (x + 1) := by rw [show (1 : Int32) = nI 1 from rfl, nI_add]
      have hb3 : (up B 31 b 31).length = 16 := by rw [up_same]; exact tb
      unfold tt2B
      simp only [nz_fn n0, lt_eq, jn_eq]
      rw [bd_ld _ (show 54 < (up B 31 b 0).length by show 54 < (B 0).length; omega), show (up B 31 b 0).getD 54 0 = nI k from h54, if_pos (Int32.le_refl _), bd_some gl, lst_e hn hn6 hx]
      by_cases hz : nI z = (1 : Int32)
      · rw [if_pos hz]
        exact ⟨_, _, rfl, b, tb, rfl, by rw [if_pos hz]⟩
      · rw [if_neg hz, bd_la _ (by omega) (by omega), up_same, u3, w1]
        by_cases c : t (lst t n x) = x + 1
        · rw [if_pos (by rw [c])]
          exact ⟨_, _, rfl, b, tb, rfl, by rw [if_neg hz, if_pos c]⟩
        · rw [if_neg (fun q => c ((nI_eq (by omega) (by omega)).mp q))]
          exact ⟨_, _, rfl, b, tb, rfl, by rw [if_neg hz, if_neg c]⟩
