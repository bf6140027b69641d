/-! PURE: turnings, the answers -/
set_option maxHeartbeats 400000 in
theorem p_fB4 {n : Nat} {s : List Nat} {B : Bk} (h0 : (B 0).length = 68) (hn : (B 0).getD 46 0 = nI n) (n1 : 1 ≤ n) (n7 : n ≤ 7) {i M : Nat} {q : Nat → List Nat} {d : Nat → Nat} {a b c : List Int32} (hal : a.length = 7) (h : BI n s i M q d b c) (o : BO n i M q d) (hi : i < M) (P : Int32 → Bk → Prop) (self8 : Int32 × Int32 → MM Int32)
    (hself : ∀ M' q' d' a' b' c', a'.length = 7 → BI n s (i + 1) M' q' d' b' c' → BO n (i + 1) M' q' d' → Ht (self8 (nI M', nI (i + 1)) (W3 B a' b' c')) P) :
    Ht (fB4 (nI M, nI i) self8 (W3 B a b c)) P := by
  unfold fB4
  refine loopI (n - 1) (fun j s' A' => ∃ M' q' d' a' b' c', s' = (nI M', nI (2 + j)) ∧ A' = W3 B a' b' c' ∧ a'.length = 7 ∧ BI n s i M' q' d' b' c' ∧ BF n i (2 + j) M' q' d') _ (fun j s' A' hj hI => ?_) (fun s' A' hI f => ?_) (by omega) ⟨M, q, d, a, b, c, rfl, rfl, hal, h, o.1 hi, hi, fun g p1 p2 _ => absurd p1 (by omega)⟩
  · obtain ⟨M', q', d', a', b', c', rfl, rfl, ha', hB, hF⟩ := hI
    obtain ⟨f, hf⟩ : ∃ f, 2 + j = f := ⟨_, rfl⟩
    rw [hf] at hF
    have hM := BI_M hB (by omega)
    have hiM := hF.2.1
    have hq := hB.2.1 i hiM
    have hb5 : b'.length = 5040 := hB.1.1
    have hc5 : c'.length = 5040 := hB.1.2.1
    have h50 := (fct_7 n (by omega)).1
    have hrk := rk_P hq.1
    have hry := rk_P (flp_P (f := f) hq.1)
    obtain ⟨l, hl, hK⟩ := p_next (f := f) (B := W3 B a' b' c') h0 hn n1 n7 ha' hq.1 (by omega) (by omega) (by omega)
    rw [W3_24] at hK
    have k46 : ∀ a b c, (W3 B a b c 0).getD 46 0 = nI n := fun _ _ _ => hn
    have l46 : ∀ a b c, 46 < (W3 B a b c 0).length := fun _ _ _ => by show 46 < (B 0).length; omega
    have l25 : ∀ a b c, (W3 B a b c 25) = b := fun _ _ _ => rfl
    have l26 : ∀ a b c, (W3 B a b c 26) = c := fun _ _ _ => rfl
    have step : ∀ g : Int32 × Int32 → MM Int32, fB4B (nI M, nI i) self8 g (nI M', nI f) (W3 B a' b' c') = if b'.getD (rk (flp f (q' i)) 0) 0 = -1 then bd (sa 25 (nI (rk (flp f (q' i)) 0)) (nI (d' i) + 1)) (fun _ => bd (sa 26 (nI M') (nI (rk (flp f (q' i)) 0))) (fun _ => g (nI (M' + 1), nI (f + 1)))) (W3 B l b' c') else g (nI M', nI (f + 1)) (W3 B l b' c') := fun g => by
      unfold fB4B
      rw [bd_ld _ (l46 _ _ _), k46, if_neg (show ¬ nI n < (nI M', nI f).2 from nI_nlt (by omega) (by omega)), bd_la _ (by rw [l26]; omega) (by rw [l26]; omega), l26, hq.2.1, hK, bd_la _ (by rw [l25]; omega) (by rw [l25]; omega), l25]
      simp only [jn_eq]
      by_cases z : b'.getD (rk (flp f (q' i)) 0) 0 = -1
      · rw [if_pos z, if_pos z, bd_la _ (by rw [l26]; omega) (by rw [l26]; omega), l26, hq.2.1, bd_la _ (by rw [l25]; omega) (by rw [l25]; omega), l25, hq.2.2.1]
        simp only [lt_eq, nI_1]
      · rw [if_neg z, if_neg z]
        simp only [lt_eq, nI_1]
    by_cases z : b'.getD (rk (flp f (q' i)) 0) 0 = -1
    · obtain ⟨r1, r2, r3⟩ := BI_put (by omega) hB hF (by omega) (by omega) z
      refine ⟨(nI (M' + 1), nI (f + 1)), W3 B l (b'.set (rk (flp f (q' i)) 0) (nI (d' i) + 1)) (c'.set M' (nI (rk (flp f (q' i)) 0))), fun g => ?_, M' + 1, _, _, l, _, _, by rw [show 2 + (j + 1) = f + 1 by omega], rfl, hl, r2, by rw [show 2 + (j + 1) = f + 1 by omega]; exact r3⟩
      rw [hf, step g, if_pos z, bd_sa _ (by rw [l25]; omega) (by rw [l25]; omega), l25, W3_25, bd_sa _ (by rw [l26]; omega) (by rw [l26]; omega), l26, W3_26]
    · exact ⟨(nI M', nI (f + 1)), W3 B l b' c', fun g => by rw [hf, step g, if_neg z], M', q', d', l, b', c', by rw [show 2 + (j + 1) = f + 1 by omega], rfl, hl, hB, by rw [show 2 + (j + 1) = f + 1 by omega]; exact BF_old hB hF z⟩
  · obtain ⟨M', q', d', a', b', c', rfl, rfl, ha', hB, hF⟩ := hI
    rw [show 2 + (n - 1) = n + 1 by omega] at hF ⊢
    obtain ⟨r1, r2⟩ := BI_next hB hF
    have k46 : (W3 B a' b' c' 0).getD 46 0 = nI n := hn
    have l46 : 46 < (W3 B a' b' c' 0).length := by show 46 < (B 0).length; omega
    unfold fB4B
    rw [bd_ld _ l46, k46, if_pos (show nI n < (nI M', nI (n + 1)).2 from nI_lt (by omega) (by omega))]
    simp only [lt_eq, nI_1]
    exact hself M' q' d' a' b' c' ha' r1 r2
set_option maxHeartbeats 400000 in
theorem p_fB3 {n : Nat} {s : List Nat} {B : Bk} (h0 : (B 0).length = 68) (hn : (B 0).getD 46 0 = nI n) (n1 : 1 ≤ n) (n7 : n ≤ 7) {q : Nat → List Nat} {d : Nat → Nat} {a b c : List Int32} (hal : a.length = 7) (h : BI n s 0 1 q d b c) (o : BO n 0 1 q d) :
    Ht (fB3 (W3 B a b c)) (fun r B' => ∃ D a' b' c', r = nI D ∧ B' = W3 B a' b' c' ∧ a'.length = 7 ∧ b'.length = 5040 ∧ c'.length = 5040 ∧ Rch n D s ∧ ∀ m, Rch n m s → D ≤ m) := by
  unfold fB3
  refine loop1 (fun k s' A' => ∃ i M' q' d' a' b' c', k = 5040 - i ∧ s' = (nI M', nI i) ∧ A' = W3 B a' b' c' ∧ a'.length = 7 ∧ BI n s i M' q' d' b' c' ∧ BO n i M' q' d') _ (fun k s' A' hI f hf => ?_) 5040 _ _ _ (by omega) ⟨0, 1, q, d, a, b, c, rfl, rfl, rfl, hal, h, o⟩
  obtain ⟨i, M', q', d', a', b', c', rfl, rfl, rfl, ha', hB, hO⟩ := hI
  have hM := BI_M hB (by omega)
  have hb5 : b'.length = 5040 := hB.1.1
  have hc5 : c'.length = 5040 := hB.1.2.1
  have l25 : (W3 B a' b' c' 25) = b' := rfl
  have la0 : ∀ K : Int32 → MM Int32, bd (la 25 0) K (W3 B a' b' c') = K (b'.getD 0 0) (W3 B a' b' c') := fun K => by
    rw [bd_la0 _ (by rw [l25]; omega) (by rw [l25]; omega), l25]
  have fin : (M' ≤ i ∨ ¬ b'.getD 0 0 = -1) → Ht (bd (la 25 0) (fun v12 => pr v12) (W3 B a' b' c')) (fun r B' => ∃ D a' b' c', r = nI D ∧ B' = W3 B a' b' c' ∧ a'.length = 7 ∧ b'.length = 5040 ∧ c'.length = 5040 ∧ Rch n D s ∧ ∀ m, Rch n m s → D ≤ m) := fun he => by
    obtain ⟨D, _, e1, e2, e3⟩ := BI_end n1 (by omega) hB hO he
    rw [la0]
    exact ⟨_, _, rfl, D, a', b', c', e1, rfl, ha', hb5, hc5, e2, e3⟩
  unfold fB3B
  simp only [jn_eq]
  by_cases c1 : M' ≤ i
  · rw [if_pos ((nI_leI (by have := hO.2.2; omega) (by have := hO.2.2; omega)).mpr c1)]
    exact fin (Or.inl c1)
  · rw [if_neg (nI_ge (by omega) (by omega)), la0]
    by_cases c2 : b'.getD 0 0 = -1
    · rw [if_pos c2]
      exact p_fB4 h0 hn n1 n7 ha' hB hO (by omega) _ f (fun M2 q2 d2 a2 b2 c2' ha2 hB2 hO2 => hf (5040 - (i + 1)) (by omega) _ _ ⟨i + 1, M2, q2, d2, a2, b2, c2', rfl, rfl, rfl, ha2, hB2, hO2⟩)
    · rw [if_neg c2]
      exact fin (Or.inr c2)
set_option maxHeartbeats 400000 in
theorem p_fB {n : Nat} {B : Bk} {p : List Nat} (h0 : (B 0).length = 68) (hn : (B 0).getD 46 0 = nI n) (n1 : 1 ≤ n) (n7 : n ≤ 7) (h25 : (B 25).length = 5040) (h26 : (B 26).length = 5040) (hp : Pm n p) (h : RL n (B 24) p) :
    Ht (gX11_fewestTurnings B) (fun r B' => ∃ D a' b' c', r = nI D ∧ B' = W3 B a' b' c' ∧ a'.length = 7 ∧ b'.length = 5040 ∧ c'.length = 5040 ∧ Rch n D p ∧ ∀ m, Rch n m p → D ≤ m) := by
  obtain ⟨h50, hpos⟩ := fct_7 n (by omega)
  have hr := rk_P hp
  have key : Ht (fB2 (nI (fct n), nI (n + 1)) (W3 B (B 24) (B 25) (B 26))) (fun r B' => ∃ D a' b' c', r = nI D ∧ B' = W3 B a' b' c' ∧ a'.length = 7 ∧ b'.length = 5040 ∧ c'.length = 5040 ∧ Rch n D p ∧ ∀ m, Rch n m p → D ≤ m) := by
    unfold fB2
    refine loopI (fct n) (fun j s' A' => s' = nI j ∧ ∃ b, A' = W3 B (B 24) b (B 26) ∧ b.length = 5040 ∧ ∀ v, v < j → b.getD v 0 = -1) _ (fun j s' A' hj hI => ?_) (fun s' A' hI f => ?_) (by omega) ⟨rfl, B 25, rfl, h25, fun v hv => absurd hv (Nat.not_lt_zero v)⟩
    · obtain ⟨rfl, b, rfl, b1, b2⟩ := hI
      have l25 : (W3 B (B 24) b (B 26) 25) = b := rfl
      refine ⟨nI (j + 1), W3 B (B 24) (b.set j (-1)) (B 26), fun f => ?_, rfl, _, rfl, by rw [List.length_set, b1], fun v hv => ?_⟩
      · unfold fB2B
        rw [if_neg (show ¬ (nI (fct n), nI (n + 1)).1 ≤ nI j from nI_ge hj (by omega)), bd_sa _ (by rw [l25]; omega) (by rw [l25]; omega), l25, W3_25]
        simp only [lt_eq, nI_1]
      · by_cases e : v = j
        · subst e; rw [gd_set_same (by omega)]
        · rw [gd_set_ne (fun q => e q.symm)]; exact b2 v (by omega)
    · obtain ⟨rfl, b, rfl, b1, b2⟩ := hI
      have gno := p_nO (n := n) (B := W3 B (B 24) b (B 26)) (p := p) h0 hn n7 h (fun q hq => by have := Pm_get hp hq; omega)
      have l26 : (W3 B (B 24) b (B 26) 26) = B 26 := rfl
      have l26' : ∀ c, (W3 B (B 24) b c 26) = c := fun _ => rfl
      have l25' : ∀ c, (W3 B (B 24) b c 25) = b := fun _ => rfl
      unfold fB2B
      rw [if_pos (show (nI (fct n), nI (n + 1)).1 ≤ nI (fct n) from Int32.le_refl _), bd_some gno, bd_sa0 _ (by rw [l26]; omega) (by rw [l26]; omega), l26, W3_26, bd_la0 _ (by rw [l26', List.length_set]; omega) (by rw [l26', List.length_set]; omega), l26', gd_set_same (by omega), bd_sa _ (by rw [l25']; omega) (by rw [l25']; omega), l25', W3_25]
      refine p_fB3 (q := fun _ => p) (d := fun _ => 0) h0 hn n1 n7 h.1 ⟨⟨by rw [List.length_set, b1], by rw [List.length_set, h26], ?_, by omega⟩, fun j hj => ⟨hp, ?_, ?_, Nat.zero_le _, fun m hm => hm⟩, fun v hv => ?_, fun _ _ _ _ => Nat.le_refl _, ⟨rfl, rfl⟩, fun j hj => absurd hj (Nat.not_lt_zero j)⟩ ⟨fun _ _ _ => Nat.zero_le _, fun _ _ _ => Or.inl rfl, Nat.zero_le _⟩
      · have e0 : cntN (lbl b) (fct n) = 0 := by
          have : ∀ k, k ≤ fct n → cntN (lbl b) k = 0 := by
            intro k
            induction k with
            | zero => intro _; rfl
            | succ k ih =>
              intro hk
              show (if lbl b k = true then cntN (lbl b) k + 1 else cntN (lbl b) k) = 0
              rw [if_neg (by unfold lbl; rw [b2 k (by omega)]; decide)]
              exact ih (by omega)
          exact this _ (Nat.le_refl _)
        rw [cnt_upd (p := lbl b) (v := rk p 0) (by unfold lbl; rw [b2 _ hr]; rfl) (by unfold lbl; rw [gd_set_same (by omega)]; decide) (fun w hw => by unfold lbl; rw [gd_set_ne (fun q => hw q.symm)]) hr, e0]
      · rw [show j = 0 by omega, gd_set_same (by omega)]
      · rw [gd_set_same (by omega)]; rfl
      · by_cases e : v = rk p 0
        · exact Or.inr ⟨0, by omega, e⟩
        · rw [gd_set_ne (fun q => e q.symm)]
          exact Or.inl (b2 v hv)
  rw [W3_self] at key
  rw [fB_eq]
  unfold fB1
  have hfin : loopC 100000 fB1B (1, 2) B = fB2 (nI (fct n), nI (n + 1)) B := by
    refine loopF (n - 1) (fun j => (nI (fct (j + 1)), nI (j + 2))) (fun _ => B) rfl rfl (fun j hj self => ?_) (fun self => ?_) (by omega)
    · unfold fB1B
      rw [bd_ld _ (by omega), hn, if_neg (show ¬ nI n < (nI (fct (j + 1)), nI (j + 2)).2 from nI_nlt (by omega) (by omega))]
      simp only [lt_eq, nI_1]
      rw [pk_mul, Nat.mul_comm]; rfl
    · unfold fB1B
      rw [show n - 1 + 1 = n by omega, show n - 1 + 2 = n + 1 by omega, bd_ld _ (by omega), hn, if_pos (show nI n < (nI (fct n), nI (n + 1)).2 from nI_lt (by omega) (by omega))]
  rw [hfin]
  exact key
theorem rh39_inj : ∀ i j, i < 4 → j < 4 → rh39 i = rh39 j → i = j := inj_d (by decide +kernel)
theorem XF_W3 {A B : Bk} {a b c : List Int32} (ha : a.length = (B 24).length) (hb : b.length = (B 25).length) (hc : c.length = (B 26).length) : XF A A B (W3 B a b c) := by
  have h1 := XF_B (A := A) (B := B) (k := 24) (l := a) (by decide) ha
  have h2 := XF_B (A := A) (B := up B 24 a) (k := 25) (l := b) (by decide) hb
  have h3 := XF_B (A := A) (B := up (up B 24 a) 25 b) (k := 26) (l := c) (by decide) hc
  have e : W3 B a b c = up (up (up B 24 a) 25 b) 26 c := by
    have := W3_self B
    rw [← W3_26 B a b (B 26) c, ← W3_25 B a (B 25) (B 26) b, ← W3_24 B (B 24) (B 25) (B 26) a, W3_self]
  rw [e]
  exact XF_trans h1 (XF_trans h2 h3)
set_option maxHeartbeats 400000 in
theorem op_turnings {A B : Bk} (h : R A B) (x y : Int32) : ∃ r A' B', gX10_turnings x y A = some (r, A') ∧ gX11_turnings x y B = some (r, B') ∧ R A' B' := by
  have hb0 := R_B0 h
  have hRt := R_told h
  obtain ⟨B0, hB0⟩ : ∃ z, z = up B 0 ((B 0).set 0 0) := ⟨_, rfl⟩
  rw [← hB0] at hRt
  have z0 := R_B0 hRt
  obtain ⟨⟨np, nc, nt, ks, wh, hH, hU⟩, hT, hI, hA, hB⟩ := id hRt
  obtain ⟨hW, hw0⟩ := R_W hH
  obtain ⟨hl, ⟨hn1, hn2, hn3, hn4⟩, ⟨p1, p2, p3, p4, p5, p6⟩, he, ⟨s1, s2, s3, s4, s5, s6, s7⟩, hod, ho, hd, hw, ⟨k1, k2, k3⟩⟩ := id hW
  obtain ⟨l0, l1, l2, l3, l4, l5, l6, l7, l8, l9, l10, l11, l12⟩ := id hl
  have b6 : (B0 0).getD 6 0 = nI np := hH.1.2.2.2.1.2.2.1
  have b7 : (B0 0).getD 7 0 = nI nc := hH.1.2.2.2.1.2.2.2.1
  have b8 : (B0 0).getD 8 0 = nI nt := hH.1.2.2.2.1.2.2.2.2
  have m4 : (B0 4).length = 20 := by rw [← hod.1]; exact l8
  have m5 : (B0 5).length = 20 := by rw [← hod.2]; exact l9
  have m24 : (B0 24).length = 7 := hB.2.2.2.2.1
  have m25 : (B0 25).length = 5040 := hB.2.2.2.2.2.1
  have m26 : (B0 26).length = 5040 := hB.2.2.2.2.2.2.1
  have m129 : (A 129).length = 4 := hA.2.2.2.2.1
  have m131 : (A 131).length = 7 := hA.2.2.2.2.2.2.1
  have k1' : ¬ nI 1 = (0 : Int32) := by decide
  have k10 : ¬ (1 : Int32) = (0 : Int32) := by decide
  have hrA : ∀ (l m : List Int32), l.length = 7 → m.length = 4 → XF A (up (up A 131 l) 129 m) B0 B0 := fun l m hl hm => XF_trans (XF_A (k := 131) (l := l) (Or.inr (Or.inr (Or.inl rfl))) (by rw [hl, m131])) (XF_A (k := 129) (l := m) (Or.inl rfl) (by rw [hm]; exact m129.symm))
  have pu2 : ∀ (l m : List Int32), pu rh39 4 (up (up (fun i => A (rh39 i)) 2 l) 0 m) A = up (up A 131 l) 129 m := fun l m => by
    rw [pu_up rh39_inj (by decide), pu1 rh39_inj (by decide)]; rfl
  by_cases hy : (0 : Int32) ≤ y ∧ y ≤ 1
  · by_cases hac : ∃ k r, Acc x k r
    · obtain ⟨n, rr, ha⟩ := hac
      obtain ⟨l1, g1, L1⟩ := lay_t ha (T := fun i => A (rh39 i)) m129 m131
      obtain ⟨l2, g2, L2⟩ := take_t ha z0 m24
      have hpm : Pm n (dgs rr n) := dgs_P ha.2.2.2.2.2
      have n1 : 1 ≤ n := ha.1
      have n7 : n ≤ 7 := ha.2.1
      obtain ⟨p, hp⟩ : ∃ p, dgs rr n = p := ⟨_, rfl⟩
      rw [hp] at L1 L2 hpm
      have hp10 : ∀ q, q < n → p.getD q 0 < 10 := fun q hq => by have := Pm_get hpm hq; omega
      obtain ⟨m1, hm1⟩ : ∃ m1, ((fun i => A (rh39 i)) 0).set 2 (nI n) = m1 := ⟨_, rfl⟩
      have hm1l : m1.length = 4 := by rw [← hm1, List.length_set]; exact m129
      have hm1g : m1.getD 2 0 = nI n := by rw [← hm1]; exact gd_set_same (by show 2 < (A 129).length; omega)
      rw [hm1] at g1
      obtain ⟨A1, hA1⟩ : ∃ A1, up (up A 131 l1) 129 m1 = A1 := ⟨_, rfl⟩
      have a129 : A1 129 = m1 := by rw [← hA1, up_same]
      have a131 : A1 131 = l1 := by rw [← hA1]; rfl
      obtain ⟨B1, hB1⟩ : ∃ B1, up (up B0 0 ((B0 0).set 46 (nI n))) 24 l2 = B1 := ⟨_, rfl⟩
      rw [hB1] at g2
      have b0 : (B1 0).length = 68 := by rw [← hB1]; show ((B0 0).set 46 (nI n)).length = 68; rw [List.length_set]; exact z0
      have b46 : (B1 0).getD 46 0 = nI n := by rw [← hB1]; exact gd_set_same (by omega)
      have b24 : B1 24 = l2 := by rw [← hB1, up_same]
      have b25 : (B1 25).length = 5040 := by rw [← hB1]; exact m25
      have b26 : (B1 26).length = 5040 := by rw [← hB1]; exact m26
      have hR1 : R A1 B1 := by
        rw [← hA1, ← hB1]
        exact R_XF (R_XF hRt (hrA l1 m1 L1.1 hm1l)) (XF_trans (XF_s (by decide)) (XF_B (k := 24) (by decide) (by rw [L2.1]; exact m24.symm)))
      have gc : ∀ K : Int32 → MM Int32, bd (lf rh39 4 (gX6_layRow x)) K A = K 1 A1 := fun K => by
        rw [bd_lf _ g1, pu2, hA1]
      by_cases y0 : y = 0
      · obtain ⟨r, B', q1, D, a', b', c', rfl, rfl, e1, e2, e3, e4, e5⟩ := p_fB b0 b46 n1 n7 b25 b26 hpm (by rw [b24]; exact L2)
        have hD : D ≤ 8 := by
          obtain ⟨m, hm, hm2⟩ := tbl8 n1 (by omega) hpm
          have := e5 m hm2
          omega
        have hfs : fstp (fun t => okT n t p) 0 9 = D := fstp_at (fun t ht => by
          cases ho : okT n t p with
          | false => rfl
          | true =>
            obtain ⟨m, hm, hm2⟩ := (ok_iff n1 (by omega) hpm).mp ho
            have := e5 m hm2
            omega) ((ok_iff n1 (by omega) hpm).mpr ⟨D, Nat.le_refl _, e4⟩) (by omega)
        have gf := p_fT n1 n7 (T := fun i => A1 (rh39 i)) (p := p) (by show (A1 129).length = 4; rw [a129]; exact hm1l) (by show (A1 129).getD 2 0 = nI n; rw [a129]; exact hm1g) hpm (by show RL n (A1 131) p; rw [a131]; exact L1)
        rw [hfs, if_pos (by omega)] at gf
        refine ⟨nI D, A1, W3 B1 a' b' c', ?_, ?_, R_XF hR1 (XF_W3 (by rw [e1, b24]; exact L2.1.symm) (by rw [e2, b25]) (by rw [e3, b26]))⟩
        · unfold gX10_turnings
          rw [bd_iw, b2i_t hy]
          simp only [jn_eq]
          rw [if_neg k1', gc, if_neg k10, if_pos y0, bd_lf0 _ gf]; rfl
        · rw [tG_eq, told0 _ hb0, ← hB0, bd_in, b2i_t hy]
          simp only [jn_eq]
          rw [if_neg k1', bd_some g2, if_neg k10, if_pos y0, bd_some q1]; rfl
      · have gs := p_sC (T := fun i => A1 (rh39 i)) (p := p) (by show (A1 129).length = 4; rw [a129]; exact hm1l) (by show (A1 129).getD 2 0 = nI n; rw [a129]; exact hm1g) n1 n7 hp10 (by show RL n (A1 131) p; rw [a131]; exact L1)
        have gt := p_tG (B := B1) (p := p) b0 b46 n1 n7 hp10 (by rw [b24]; exact L2)
        refine ⟨nI (cntN (bdC p) (n - 1)), A1, B1, ?_, ?_, hR1⟩
        · unfold gX10_turnings
          rw [bd_iw, b2i_t hy]
          simp only [jn_eq]
          rw [if_neg k1', gc, if_neg k10, if_neg y0, bd_lf0 _ gs]; rfl
        · rw [tG_eq, told0 _ hb0, ← hB0, bd_in, b2i_t hy]
          simp only [jn_eq]
          rw [if_neg k1', bd_some g2, if_neg k10, if_neg y0]
          exact gt
    · have hno : ∀ k r, ¬ Acc x k r := fun k r z => hac ⟨k, r, z⟩
      obtain ⟨l1, m1, L1, M1, g1⟩ := lay_f hno (T := fun i => A (rh39 i)) m129 m131
      obtain ⟨l2, v2, L2, g2⟩ := take_f hno z0 m24
      refine ⟨-1, up (up A 131 l1) 129 m1, up (up B0 0 ((B0 0).set 46 v2)) 24 l2, ?_, ?_, R_XF (R_XF hRt (hrA l1 m1 L1 M1)) (XF_trans (XF_s (by decide)) (XF_B (k := 24) (by decide) (by rw [L2]; exact m24.symm)))⟩
      · unfold gX10_turnings
        rw [bd_iw, b2i_t hy]
        simp only [jn_eq]
        rw [if_neg k1', bd_lf _ g1, pu2]; rfl
      · rw [tG_eq, told0 _ hb0, ← hB0, bd_in, b2i_t hy]
        simp only [jn_eq]
        rw [if_neg k1', bd_some g2]; rfl
  · refine ⟨-1, A, B0, ?_, ?_, hRt⟩
    · unfold gX10_turnings
      rw [bd_iw, b2i_f hy]; rfl
    · rw [tG_eq, told0 _ hb0, ← hB0, bd_in, b2i_f hy]; rfl
