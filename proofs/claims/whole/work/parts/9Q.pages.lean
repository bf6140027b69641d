/-! PURE: pages, the answers -/
theorem sF_mono {us : Nat → Nat} {n t p q : Nat} (ht : t < n) (hn : n ≤ 16) : (nI (if sF us n t p < 16 then t + sF us n t p else n) ≤ nI (if sF us n t q < 16 then t + sF us n t q else n)) ↔ ¬ sF us n t q < sF us n t p := by
  have h1 := sF_spec us n t p
  have h2 := sF_spec us n t q
  obtain ⟨a, ha⟩ : ∃ a, sF us n t p = a := ⟨_, rfl⟩
  obtain ⟨b, hb⟩ : ∃ b, sF us n t q = b := ⟨_, rfl⟩
  rw [ha] at h1 ⊢
  rw [hb] at h2 ⊢
  obtain ⟨a1, a2, a3, a4⟩ := h1
  obtain ⟨b1, b2, b3, b4⟩ := h2
  by_cases c : a < 16
  · have e1 := (a4 c).1
    rw [if_pos c]
    by_cases d : b < 16
    · have e2 := (b4 d).1
      rw [if_pos d, nI_leI (by omega) (by omega)]; omega
    · rw [if_neg d, nI_leI (by omega) (by omega)]; omega
  · rw [if_neg c]
    by_cases d : b < 16
    · have e2 := (b4 d).1
      rw [if_pos d, nI_leI (by omega) (by omega)]; omega
    · rw [if_neg d, nI_leI (by omega) (by omega)]; omega
theorem sub_le {t a b : Nat} (ht : t < 100) (ha : a < 100) (hb : b < 100) : (nI t - nI a ≤ nI t - nI b) ↔ b ≤ a := by
  rw [Int32.le_iff_toInt_le, pk_sub_toInt (by omega) (by omega), pk_sub_toInt (by omega) (by omega)]
  omega
theorem sB_mono {us : Nat → Nat} {t p q : Nat} (ht : t < 16) : (nI t - nI (if sB us t q < 16 then sB us t q else t + 1) ≤ nI t - nI (if sB us t p < 16 then sB us t p else t + 1)) ↔ ¬ sB us t q < sB us t p := by
  have h1 := sB_spec us t p
  have h2 := sB_spec us t q
  obtain ⟨a, ha⟩ : ∃ a, sB us t p = a := ⟨_, rfl⟩
  obtain ⟨b, hb⟩ : ∃ b, sB us t q = b := ⟨_, rfl⟩
  rw [ha] at h1 ⊢
  rw [hb] at h2 ⊢
  obtain ⟨a1, a2, a3, a4⟩ := h1
  obtain ⟨b1, b2, b3, b4⟩ := h2
  by_cases c : a < 16
  · have e1 := (a4 c).1
    rw [if_pos c]
    by_cases d : b < 16
    · have e2 := (b4 d).1
      rw [if_pos d, sub_le (by omega) (by omega) (by omega)]; omega
    · rw [if_neg d, sub_le (by omega) (by omega) (by omega)]; omega
  · rw [if_neg c]
    by_cases d : b < 16
    · have e2 := (b4 d).1
      rw [if_pos d, sub_le (by omega) (by omega) (by omega)]; omega
    · rw [if_neg d, sub_le (by omega) (by omega) (by omega)]; omega
set_option maxHeartbeats 400000 in
theorem p_mis {T B : Bk} {us : Nat → Nat} {n k : Nat} {w y : Int32} (hn : n ≤ 16) (hk1 : 1 ≤ k) (hk5 : k ≤ 5) (t0 : (T 0).length = 2) (tk : (T 0).getD 0 0 = nI n) (t1 : (T 1).length = 16) (tu : ∀ i, i < n → (T 1).getD i 0 = nI (us i) ∧ us i ≤ 9) (b0 : (B 0).length = 68) (bk : (B 0).getD 57 0 = nI n) (b1 : (B 32).length = 16) (bu : ∀ i, i < n → (B 32).getD i 0 = nI (us i) ∧ us i ≤ 9) (hw : (w = 0 ∧ ¬ y = 1) ∨ (w = 1 ∧ y = 1)) :
    J2 (gX6_misses (nI k) w T) (pG1 (nI k) y B) (fun r A' r' B' => r = r' ∧ A' = T ∧ B' = B) := by
  rw [mS_eq]
  unfold mS1 pG1
  refine loopJ n (fun j s A' t B' => ∃ S m : Nat, s = (nI S, nI m, nI j) ∧ t = (nI S, nI m, nI j) ∧ A' = T ∧ B' = B ∧ S < 1024 ∧ pop S ≤ k) _ (fun j s A' t B' hj hI => ?_) (fun s A' t B' hI f1 f2 => ?_) (by omega) (by omega) ⟨0, 0, rfl, rfl, rfl, rfl, by decide, by rw [show pop 0 = 0 from by decide]; omega⟩
  · obtain ⟨S, m, rfl, rfl, rfl, rfl, hS, hpk⟩ := hI
    obtain ⟨u1, u2⟩ := tu j hj
    obtain ⟨v1, -⟩ := bu j hj
    obtain ⟨p, hp⟩ : ∃ p, us j = p := ⟨_, rfl⟩
    rw [hp] at u1 u2 v1
    have sh : ∀ p, p ≤ 9 → (1 : Int32) <<< (nI p &&& 31) = nI (2 ^ p) := fun p hp => shl_n p (by omega)
    obtain ⟨d1, -, -⟩ := pg_d S hS p (by omega)
    have hl : ∀ K : Int32 → MM Int32, bd (la 32 (nI j)) K B' = K (nI p) B' := fun K => by rw [bd_la _ (by omega) (by omega), v1]
    have c1 : ∀ f, mS1B (nI k) w f (nI S, nI m, nI j) A' = (if nI S &&& nI (2 ^ p) = 0 then bd (lf rh0 0 (gJ6_bitCount_0f7a4 (nI S))) (fun r10 => if r10 < nI k then f (nI S ||| nI (2 ^ p), nI (m + 1), nI (j + 1)) else bd (gX6_whichGoes (nI j) (nI S) w) (fun r14 => f ((nI S ^^^ ((1 : Int32) <<< (r14 &&& 31))) ||| nI (2 ^ p), nI (m + 1), nI (j + 1)))) A' else f (nI S, nI m, nI (j + 1)) A') := fun f => by
      unfold mS1B
      rw [bd_ld _ (by omega), tk]
      show (if nI n ≤ nI j then _ else _ : MM Int32) A' = _
      rw [if_neg (nI_ge hj (by omega)), bd_some (p_get (by omega) (by omega)), u1]
      simp only [lt_eq, jn_eq, nI_1, sh p u2]
      by_cases z : nI S &&& nI (2 ^ p) = 0
      · rw [if_pos z, if_pos z]
      · rw [if_neg z, if_neg z]
    have c2 : ∀ f, pG1B (nI k) y f (nI S, nI m, nI j) B' = (if nI (S.testBit p).toNat = 0 then bd (gX11_onesOf (nI S)) (fun r14 => if r14 = nI k then bd (gX11_goesOut (nI S) (nI j) w) (fun r21 => bd (la 32 (nI j)) (fun v17 => f ((nI S &&& (((1 : Int32) <<< (r21 &&& 31)) ^^^ (-1))) ||| ((1 : Int32) <<< (v17 &&& 31)), nI (m + 1), nI (j + 1)))) else bd (la 32 (nI j)) (fun v17 => f (nI S ||| ((1 : Int32) <<< (v17 &&& 31)), nI (m + 1), nI (j + 1)))) B' else f (nI S, nI m, nI (j + 1)) B') := fun f => by
      unfold pG1B
      rw [bd_ld _ (by omega), bk]
      show (if nI n ≤ nI j then _ else _ : MM Int32) B' = _
      rw [if_neg (nI_ge hj (by omega))]
      show bd (la 32 (nI j)) _ B' = _
      rw [hl, bd_some (p_has2 hS (by omega) B')]
      simp only [lt_eq, jn_eq, nI_1]
      by_cases z : nI (S.testBit p).toNat = 0
      · rw [if_pos z, if_pos z]
        rcases hw with ⟨w1, w2⟩ | ⟨w1, w2⟩
        · simp only [if_neg w2, w1]
        · simp only [if_pos w2, w1]
      · rw [if_neg z, if_neg z]
    by_cases z : S.testBit p = false
    · have z1 : nI S &&& nI (2 ^ p) = 0 := d1.mpr z
      have z2 : nI (S.testBit p).toNat = 0 := by rw [z]; rfl
      have hin := pg_in S hS p (by omega)
      by_cases q : pop S < k
      · have q1 : nI (pop S) < nI k := nI_lt q (by omega)
        have q2 : ¬ nI (pop S) = nI k := fun e => by have := (nI_eq (by omega) (by omega)).mp e; omega
        refine ⟨(nI (S ||| 2 ^ p), nI (m + 1), nI (j + 1)), A', (nI (S ||| 2 ^ p), nI (m + 1), nI (j + 1)), B', fun f => ?_, fun f => ?_, S ||| 2 ^ p, m + 1, rfl, rfl, rfl, rfl, hin.1, by omega⟩
        · rw [c1, if_pos z1, bd_lf0 _ (p_bits hS _), if_pos q1, fa_or]
        · rw [c2, if_pos z2, bd_some (p_ones hS B'), if_neg q2, hl, sh p u2, fa_or]
      · have q0 : pop S = k := by omega
        have q1 : ¬ nI (pop S) < nI k := nI_nlt (by omega) (by omega)
        have q2 : nI (pop S) = nI k := by rw [q0]
        obtain ⟨far, hfar⟩ : ∃ far : Nat → Nat, far = (fun x => if w = 0 then sB us j x else sF us n j x) := ⟨_, rfl⟩
        have hfr : ∀ x, x < 10 → 1 ≤ far x ∧ far x ≤ 16 := fun x _ => by
          rw [hfar]
          by_cases w0 : w = 0
          · simp only [if_pos w0]; exact ⟨(sB_spec us j x).1, (sB_spec us j x).2.1⟩
          · simp only [if_neg w0]; exact ⟨(sF_spec us n j x).1, (sF_spec us n j x).2.1⟩
        obtain ⟨b, hb⟩ : ∃ b, bst S far 10 = some b := by
          cases hq : bst S far 10 with
          | some b => exact ⟨b, rfl⟩
          | none =>
            obtain ⟨x, hx, hx2⟩ := pg_some S hS (by omega)
            rw [bst_none 10 hq x hx] at hx2; cases hx2
        obtain ⟨b10, bs⟩ := bst_some 10 b hb
        obtain ⟨o1, o2, o3⟩ := pg_out S hS b b10 bs
        have w1 : gX6_whichGoes (nI j) (nI S) w A' = some (nI b, A') := p_wG hS hfr (fun x hx => by
          rw [hfar]
          by_cases w0 : w = 0
          · simp only [if_pos w0]; exact p_sB hn t0 tk t1 tu hj (by omega)
          · simp only [if_neg w0]; exact p_sF hn t0 tk t1 tu hj (by omega)) hb
        have w2 : gX11_goesOut (nI S) (nI j) w B' = some (nI b, B') := p_gO (far := far) hS (fun x => if w = 0 then nI j - nI (if sB us j x < 16 then sB us j x else j + 1) else nI (if sF us n j x < 16 then j + sF us n j x else n)) (fun x hx => by
          by_cases w0 : w = 0
          · simp only [if_pos w0]; exact p_aB hn b1 bu hj (by omega)
          · simp only [if_neg w0]; exact p_aF hn b0 bk b1 bu hj (by omega)) (fun x x' _ _ => by
          rw [hfar]
          by_cases w0 : w = 0
          · simp only [if_pos w0]; exact sB_mono (by omega)
          · simp only [if_neg w0]; exact sF_mono hj hn) hb
        have hs1 : S - 2 ^ b < 1024 := Nat.lt_of_le_of_lt (Nat.sub_le _ _) hS
        have hin := pg_in (S - 2 ^ b) hs1 p (by omega)
        have shb := sh b (by omega)
        refine ⟨(nI ((S - 2 ^ b) ||| 2 ^ p), nI (m + 1), nI (j + 1)), A', (nI ((S - 2 ^ b) ||| 2 ^ p), nI (m + 1), nI (j + 1)), B', fun f => ?_, fun f => ?_, (S - 2 ^ b) ||| 2 ^ p, m + 1, rfl, rfl, rfl, rfl, hin.1, by omega⟩
        · rw [c1, if_pos z1, bd_lf0 _ (p_bits hS _), if_neg q1, bd_some w1, shb, o1, fa_or]
        · rw [c2, if_pos z2, bd_some (p_ones hS B'), if_pos q2, bd_some w2, hl, sh p u2, shb, o2, fa_or]
    · have z0 : S.testBit p = true := by cases hq : S.testBit p with
        | true => rfl
        | false => exact absurd hq z
      have z1 : ¬ nI S &&& nI (2 ^ p) = 0 := fun e => z (d1.mp e)
      have z2 : ¬ nI (S.testBit p).toNat = 0 := by rw [z0]; decide
      exact ⟨(nI S, nI m, nI (j + 1)), A', (nI S, nI m, nI (j + 1)), B', fun f => by rw [c1, if_neg z1], fun f => by rw [c2, if_neg z2], S, m, rfl, rfl, rfl, rfl, hS, hpk⟩
  · obtain ⟨S, m, rfl, rfl, rfl, rfl, hS, hpk⟩ := hI
    refine ⟨nI m, A', nI m, B', ?_, ?_, rfl, rfl, rfl⟩
    · unfold mS1B
      rw [bd_ld _ (by omega), tk, if_pos (Int32.le_refl _)]; rfl
    · unfold pG1B
      rw [bd_ld _ (by omega), bk, if_pos (Int32.le_refl _)]; rfl
set_option maxHeartbeats 400000 in
theorem op_pages {A B : Bk} (h : R A B) (x y : Int32) : ∃ r A' B', gX10_pages x y A = some (r, A') ∧ gX11_pages x y B = some (r, B') ∧ R A' B' := by
  have hb0 := R_B0 h
  have hRt := R_told h
  obtain ⟨B0, hB0⟩ : ∃ z, z = up B 0 ((B 0).set 0 0) := ⟨_, rfl⟩
  rw [← hB0] at hRt
  have z0 := R_B0 hRt
  obtain ⟨⟨np, nc, nt, ks, wh, hH, hU⟩, hT, hI, hA, hB⟩ := id hRt
  obtain ⟨hW, hw0⟩ := R_W hH
  obtain ⟨hl, ⟨hn1, hn2, hn3, hn4⟩, ⟨p1, p2, p3, p4, p5, p6⟩, he, ⟨s1, s2, s3, s4, s5, s6, s7⟩, hod, ho, hd, hw, ⟨k1, k2, k3⟩⟩ := id hW
  obtain ⟨l0, l1, l2, l3, l4, l5, l6, l7, l8, l9, l10, l11, l12⟩ := id hl
  have b6 : (B0 0).getD 6 0 = nI np := hH.1.2.2.2.1.2.2.1
  have b7 : (B0 0).getD 7 0 = nI nc := hH.1.2.2.2.1.2.2.2.1
  have b8 : (B0 0).getD 8 0 = nI nt := hH.1.2.2.2.1.2.2.2.2
  have m4 : (B0 4).length = 20 := by rw [← hod.1]; exact l8
  have m5 : (B0 5).length = 20 := by rw [← hod.2]; exact l9
  obtain ⟨-, -, -, ⟨c1, c2, c3, n, hn, c4, c5, c6⟩, -⟩ := hH.2
  have k1' : ¬ nI 1 = (0 : Int32) := by decide
  have c1 : (A 45).length = 2 := c1
  have c2 : (A 46).length = 16 := c2
  have c4 : (A 45).getD 0 0 = nI n := c4
  have hex : ∀ i : Nat, ∃ v : Nat, i < n → ((A 46).getD i 0 = nI v ∧ (B0 32).getD i 0 = nI v ∧ v ≤ 9) := fun i => by
    by_cases hi : i < n
    · obtain ⟨d1, v, d2, d3⟩ := c6 i hi
      have d1 : (A 46).getD i 0 = (B0 32).getD i 0 := d1
      have d3 : (A 46).getD i 0 = nI v := d3
      exact ⟨v, fun _ => ⟨d3, by rw [← d1]; exact d3, d2⟩⟩
    · exact ⟨0, fun q => absurd q hi⟩
  obtain ⟨us, hus⟩ := Classical.axiomOfChoice hex
  by_cases hx : (1 : Int32) ≤ x ∧ x ≤ 5
  · obtain ⟨k, n1, n2, rfl⟩ := nI_rng (lo := 1) (hi := 5) (by decide) (by decide) hx.1 hx.2
    by_cases hy : (0 : Int32) ≤ y ∧ y ≤ 1
    · have key : ∀ w : Int32, ((w = 0 ∧ ¬ y = 1) ∨ (w = 1 ∧ y = 1)) → J2 (gX6_misses (nI k) w (fun i => A (rh43 i))) (pG1 (nI k) y B0) (fun r A' r' B' => r = r' ∧ A' = (fun i => A (rh43 i)) ∧ B' = B0) := fun w hw =>
        p_mis (T := fun i => A (rh43 i)) (us := us) (n := n) hn n1 n2 c1 c4 c2 (fun i hi => ⟨(hus i hi).1, (hus i hi).2.2⟩) z0 c5 c3 (fun i hi => ⟨(hus i hi).2.1, (hus i hi).2.2⟩) hw
      have fin : ∀ w : Int32, ((w = 0 ∧ ¬ y = 1) ∨ (w = 1 ∧ y = 1)) → ∃ r, gX6_misses (nI k) w (fun i => A (rh43 i)) = some (r, (fun i => A (rh43 i))) ∧ pG1 (nI k) y B0 = some (r, B0) := fun w hw => by
        obtain ⟨r, A', r', B', g1, g2, rfl, rfl, rfl⟩ := key w hw
        exact ⟨r, g1, g2⟩
      by_cases y1 : y = 1
      · obtain ⟨r, g1, g2⟩ := fin 1 (Or.inr ⟨rfl, y1⟩)
        refine ⟨r, A, B0, ?_, ?_, hRt⟩
        · unfold gX10_pages
          rw [bd_iw, b2i_t hx]
          simp only [jn_eq]
          rw [if_neg k1', bd_iw, b2i_t hy, if_neg k1', if_pos y1, bd_lf0 _ g1]; rfl
        · rw [pG_eq, told0 _ hb0, ← hB0, bd_in, b2i_t hx]
          simp only [jn_eq]
          rw [if_neg k1', bd_in, b2i_t hy, if_neg k1']
          exact g2
      · obtain ⟨r, g1, g2⟩ := fin 0 (Or.inl ⟨rfl, y1⟩)
        refine ⟨r, A, B0, ?_, ?_, hRt⟩
        · unfold gX10_pages
          rw [bd_iw, b2i_t hx]
          simp only [jn_eq]
          rw [if_neg k1', bd_iw, b2i_t hy, if_neg k1', if_neg y1, bd_lf0 _ g1]; rfl
        · rw [pG_eq, told0 _ hb0, ← hB0, bd_in, b2i_t hx]
          simp only [jn_eq]
          rw [if_neg k1', bd_in, b2i_t hy, if_neg k1']
          exact g2
    · refine ⟨-1, A, B0, ?_, ?_, hRt⟩
      · unfold gX10_pages
        rw [bd_iw, b2i_t hx]
        simp only [jn_eq]
        rw [if_neg k1', bd_iw, b2i_f hy]; rfl
      · rw [pG_eq, told0 _ hb0, ← hB0, bd_in, b2i_t hx]
        simp only [jn_eq]
        rw [if_neg k1', bd_in, b2i_f hy]; rfl
  · refine ⟨-1, A, B0, ?_, ?_, hRt⟩
    · unfold gX10_pages
      rw [bd_iw, b2i_f hx]; rfl
    · rw [pG_eq, told0 _ hb0, ← hB0, bd_in, b2i_f hx]; rfl
