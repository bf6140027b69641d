/-! PURE: table -/
theorem rh42_inj : ∀ i j, i < 6 → j < 6 → rh42 i = rh42 j → i = j := inj_d (by decide +kernel)
set_option maxHeartbeats 400000 in
theorem p_last {A : Bk} {b : List Int32} {n x : Nat} {t : Nat → Nat} (hT : TBL (A 3) b n t) (hn : 0 < n) (hn6 : n ≤ 16) (hx : x ≤ 99) : gX6_lastLookFound (nI n) (nI x) (nI (lkN t n x)) A = some (if t (lst t n x) = x + 1 then nI (lst t n x) else -1, A) := by
  have hlk := lkN_in (tab := t) (x := x) hn
  have hls := lst_lt (tab := t) (x := x) hn
  obtain ⟨ta, tb, tt⟩ := hT
  obtain ⟨u1, u2, -⟩ := tt _ hls
  have gp : ∀ C : Bk, gX6_placeBehind (nI n) (nI x) (nI (lkN t n x) - 1) C = some (nI (lst t n x), C) := fun C => by
    rw [show (1 : Int32) = nI 1 from rfl, pk_sub (by omega), p_place hn hn6 hx (by omega), show x + (lkN t n x - 1) = x + lkN t n x - 1 by omega]; rfl
  unfold gX6_lastLookFound
  rw [bd_lf0 _ (gp _), bd_some (p_isPlace ta (by omega))]
  simp only [jn_eq]
  rw [if_neg (show ¬ nI 1 = (0 : Int32) by decide), bd_la _ (by omega) (by omega), u2]
  by_cases c : t (lst t n x) = x + 1
  · rw [if_pos c, if_pos ((t_mx u1 hx).mpr c)]; rfl
  · rw [if_neg c, if_neg (fun q => c ((t_mx u1 hx).mp q))]; rfl
set_option maxHeartbeats 400000 in
theorem op_table {A B : Bk} (h : R A B) (x y z : Int32) : ∃ r A' B', gX10_table x y z A = some (r, A') ∧ gX11_table x y z B = some (r, B') ∧ R A' B' := by
  have hb0 := R_B0 h
  have hRt := R_told h
  obtain ⟨B0, hB0⟩ : ∃ z, z = up B 0 ((B 0).set 0 0) := ⟨_, rfl⟩
  rw [← hB0] at hRt
  have z0 := R_B0 hRt
  obtain ⟨⟨np, nc, nt, ks, wh, hH, hU⟩, hT, hI, hA, hB⟩ := id hRt
  obtain ⟨hW, hw0⟩ := R_W hH
  obtain ⟨hl, ⟨hn1, hn2, hn3, hn4⟩, ⟨p1, p2, p3, p4, p5, p6⟩, he, ⟨s1, s2, s3, s4, s5, s6, s7⟩, hod, ho, hd, hw, ⟨k1, k2, k3⟩⟩ := id hW
  obtain ⟨l0, l1, l2, l3, l4, l5, l6, l7, l8, l9, l10, l11, l12⟩ := id hl
  have b6 : (B0 0).getD 6 0 = nI np := hH.1.2.2.2.1.2.2.1
  have b7 : (B0 0).getD 7 0 = nI nc := hH.1.2.2.2.1.2.2.2.1
  have b8 : (B0 0).getD 8 0 = nI nt := hH.1.2.2.2.1.2.2.2.2
  have m4 : (B0 4).length = 20 := by rw [← hod.1]; exact l8
  have m5 : (B0 5).length = 20 := by rw [← hod.2]; exact l9
  have m31 : (B0 31).length = 16 := hB.2.2.2.2.2.2.2.2.2.1
  have m132 : (A 132).length = 16 := hA.2.2.2.2.2.2.2
  have k1' : ¬ nI 1 = (0 : Int32) := by decide
  obtain ⟨-, -, ⟨c1, c2, c3, k, hk, c4, c5, c6⟩, -⟩ := hH.2
  have c1 : (A 43).length = 2 := c1
  have c2 : (A 44).length = 12 := c2
  have c4 : (A 43).getD 0 0 = nI k := c4
  have hex : ∀ i : Nat, ∃ v : Nat, i < k → ((A 44).getD i 0 = nI v ∧ (B0 30).getD i 0 = nI v ∧ v ≤ 99) := fun i => by
    by_cases hi : i < k
    · obtain ⟨d1, v, d2, d3⟩ := c6 i hi
      have d1 : (A 44).getD i 0 = (B0 30).getD i 0 := d1
      have d3 : (A 44).getD i 0 = nI v := d3
      exact ⟨v, fun _ => ⟨d3, by rw [← d1]; exact d3, d2⟩⟩
    · exact ⟨0, fun q => absurd q hi⟩
  obtain ⟨ks, hks⟩ := Classical.axiomOfChoice hex
  by_cases hx : (2 : Int32) ≤ x ∧ x ≤ 16
  · obtain ⟨n, n1, n2, rfl⟩ := nI_rng (lo := 2) (hi := 16) (by decide) (by decide) hx.1 hx.2
    by_cases hy : (0 : Int32) ≤ y ∧ y ≤ 99
    · obtain ⟨p, hp, rfl⟩ := wi_rng (n := 99) (by decide) hy
      by_cases hz : (0 : Int32) ≤ z ∧ z ≤ 1
      · obtain ⟨w, hw, rfl⟩ := wi_rng (n := 1) (by decide) hz
        obtain ⟨r1, T1, g1, l, b, rfl, hT⟩ := p_layTable (T := fun i => A (rh42 i)) (n := n) (k := k) (ks := ks) (by omega) n2 m132 c1 c4 c2 hk (fun i hi => ⟨(hks i hi).1, (hks i hi).2.2⟩)
        obtain ⟨r2, B2, g2, b2, hb2, rfl, hr2⟩ := p_tt1 (B := B0) (n := n) (k := k) (x := p) (z := w) (ks := ks) (by omega) n2 hp m31 z0 c5 c3 hk (fun i hi => ⟨(hks i hi).2.1, (hks i hi).2.2⟩)
        refine ⟨r2, up A 132 l, up B0 31 b2, ?_, ?_, R_XF (R_XF hRt (XF_A (k := 132) (l := l) (Or.inr (Or.inr (Or.inr rfl))) (by rw [hT.1, m132]))) (XF_B (k := 31) (by decide) (by rw [hb2, m31]))⟩
        · have gl : gX6_looksFor (nI n) (nI p) (fun i => up A 132 l (rh39 i)) = some (nI (lkN (tabs ks n k) n p), fun i => up A 132 l (rh39 i)) := p_lkN (A := fun i => up A 132 l (rh39 i)) (b := b) hT (by omega) n2 hp
          have ga : gX6_lastLookFound (nI n) (nI p) (nI (lkN (tabs ks n k) n p)) (fun i => up A 132 l (rh39 i)) = some (_, fun i => up A 132 l (rh39 i)) := p_last (A := fun i => up A 132 l (rh39 i)) (b := b) hT (by omega) n2 hp
          unfold gX10_table
          rw [bd_iw, b2i_t hx]
          simp only [jn_eq]
          rw [if_neg k1', bd_iw, b2i_t hy, if_neg k1', bd_iw, b2i_t hz, if_neg k1', bd_lf _ g1, pu1 rh42_inj (i := 3) (by decide)]
          show (bd (lf rh39 4 (gX6_looksFor (nI n) (nI p))) _) (up A 132 l) = _
          rw [bd_lf0 _ gl, hr2]
          by_cases hw1 : nI w = (1 : Int32)
          · rw [if_pos hw1, if_pos hw1]; rfl
          · rw [if_neg hw1, if_neg hw1, bd_lf0 _ ga]; rfl
        · rw [tt_eq, told0 _ hb0, ← hB0, bd_in, b2i_t hx]
          simp only [jn_eq]
          rw [if_neg k1', bd_in, b2i_t hy, if_neg k1', bd_in, b2i_t hz, if_neg k1']
          exact g2
      · refine ⟨-1, A, B0, ?_, ?_, hRt⟩
        · unfold gX10_table
          rw [bd_iw, b2i_t hx]
          simp only [jn_eq]
          rw [if_neg k1', bd_iw, b2i_t hy, if_neg k1', bd_iw, b2i_f hz]; rfl
        · rw [tt_eq, told0 _ hb0, ← hB0, bd_in, b2i_t hx]
          simp only [jn_eq]
          rw [if_neg k1', bd_in, b2i_t hy, if_neg k1', bd_in, b2i_f hz]; rfl
    · refine ⟨-1, A, B0, ?_, ?_, hRt⟩
      · unfold gX10_table
        rw [bd_iw, b2i_t hx]
        simp only [jn_eq]
        rw [if_neg k1', bd_iw, b2i_f hy]; rfl
      · rw [tt_eq, told0 _ hb0, ← hB0, bd_in, b2i_t hx]
        simp only [jn_eq]
        rw [if_neg k1', bd_in, b2i_f hy]; rfl
  · refine ⟨-1, A, B0, ?_, ?_, hRt⟩
    · unfold gX10_table
      rw [bd_iw, b2i_f hx]; rfl
    · rw [tt_eq, told0 _ hb0, ← hB0, bd_in, b2i_f hx]; rfl
