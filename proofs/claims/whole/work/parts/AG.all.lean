/-! PURE: text, all lines of deeds, of minds, of friends -/
set_option maxHeartbeats 400000 in
theorem lk_start {ts : Nat → Nat} {n : Nat} {U B : Bk} (hx : TXT ts n) (l6 : (U 6).length = 8) (o0 : (U 6).getD 0 0 = nI n) (o5 : (U 6).getD 5 0 = 0) (o6 : (U 6).getD 6 0 = 0) (o7 : (U 6).getD 7 0 = -1) (hy : BY (U 7) ts n) (hb : BSE B ts n) (b14 : (B 0).getD 14 0 = 0) : ∃ U' B', (∀ {β : Type} (K : Int32 → MM β), bd (lf rh18 2 gX7_next) K U = K 0 U') ∧ gX11_reads B = some (0, B') ∧ MLi ts n U U' B B' (tkN ts n 0) ∧ (∀ c, c ≠ 6 → U' c = U c) ∧ KBB B B' := by
  obtain ⟨b1, b2, b3, b4⟩ := hb
  obtain ⟨o, g1, g2, g3, ⟨g4, g4'⟩, g5⟩ := p_next0 (T := fun i => U (rh18 i)) (ts := ts) (n := n) (p := 0) l6 hy o0 o5 (Nat.zero_le _)
  obtain ⟨z, f1, q1, q2, q3, q4, q5, q6, q7, q8⟩ := p_reads0 (B := B) (ts := ts) (n := n) (p := 0) b1 b2 b3 b4 b14 (Nat.zero_le _)
  refine ⟨up U 6 o, up B 0 z, fun K => ?_, f1, ⟨⟨0, Nat.zero_le _, rfl⟩, ⟨fun c hc => by rw [up_ne _ _ hc], fun c hc => up_ne _ _ (by omega)⟩, ?_, FRR_0 (FRR_rfl B) (by rw [q1, b1]) (fun k hk => q2 k (fun w => hk ((show ∀ k, k ∈ [14, 15, 16, 17] → k ∈ wrS by decide) k w))), ?_⟩, fun c hc => up_ne _ _ hc, fun c hc => up_ne _ _ hc⟩
  · rw [bd_lf _ g1, pu1 rh18_inj (by decide)]; rfl
  · rw [up_same]
    refine ⟨g2, g3, ⟨?_, ?_⟩, g5⟩
    · rw [g4]; exact o6
    · rw [g4']; exact o7
  · unfold TR
    rw [up_same]
    exact ⟨q3, q4, q5, q6, q7, q8⟩
set_option maxHeartbeats 400000 in
theorem line_wrong {ts : Nat → Nat} {n np nc nt i : Nat} {x : Int32} {U0 B0 U B : Bk} {t : Tok} (hE : ENV ts n U0 B0 np nc nt) (h : MLi ts n U0 U B0 B t) (hi : (x = 3 ∧ i = 21) ∨ (x ≠ 3 ∧ i = 20)) (hw : ¬ (t.1 = 2 ∧ t.2.1 = i)) : ∃ U' B', gX4_readLine x U = some (0, U') ∧ gX11_errs 1 B = some (-1, B') ∧ FLL U0 U' B0 B' := by
  obtain ⟨U', B', g1, f1, fl⟩ := lk_refuse hE h 1
  have g1' : ∀ {β : Type} (K : Int32 → MM β), bd (lf rh18 2 (gX7_refuse 1)) K U = K 0 U' := fun K => g1 K
  have f1' : ∀ {β : Type} (K : Int32 → MM β), bd (gX11_errs 1) K B = K (-1) B' := fun K => f1 K
  obtain ⟨hx, -⟩ := hE
  have hl := ctk_lt hx h.1
  have l6 : (U 6).length = 8 := h.2.2.1.1
  have e2 : (U 6).getD 2 0 = nI (ctk t) := h.2.2.1.2.2.2.1
  refine ⟨U', B', ?_, ?_, fl⟩
  · unfold gX4_readLine
    rw [bd_ld _ (by omega), e2, jn_eq]
    rcases hi with ⟨h3, rfl⟩ | ⟨h3, rfl⟩
    · have ne : ¬ nI (ctk t) = (321 : Int32) := fun q => hw ((ctk_word hx h.1 (by decide)).mp ((nI_eq (b := 321) (by omega) (by omega)).mp q))
      rw [if_pos h3]
      dsimp only
      rw [if_neg ne, g1']; rfl
    · have ne : ¬ nI (ctk t) = (320 : Int32) := fun q => hw ((ctk_word hx h.1 (by decide)).mp ((nI_eq (b := 320) (by omega) (by omega)).mp q))
      rw [if_neg h3]
      dsimp only
      rw [if_neg ne, g1']; rfl
  · have := f1' (fun r => pr r)
    rw [bd_pr'] at this
    exact this
set_option maxHeartbeats 400000 in
theorem line_full {ts : Nat → Nat} {n np nc nt i : Nat} {x : Int32} {U0 B0 U B : Bk} {t : Tok} (hE : ENV ts n U0 B0 np nc nt) (h : MLi ts n U0 U B0 B t) (hi : (x = 3 ∧ i = 21) ∨ (x ≠ 3 ∧ i = 20)) (hw : t.1 = 2 ∧ t.2.1 = i) (hk : (U 1).getD 0 0 = nI 16) : ∃ U' B', gX4_readLine x U = some (0, U') ∧ gX11_errs 3 B = some (-1, B') ∧ FLL U0 U' B0 B' := by
  obtain ⟨U', B', g1, f1, fl⟩ := lk_refuse hE h 3
  have g1' : ∀ {β : Type} (K : Int32 → MM β), bd (lf rh18 2 (gX7_refuse 3)) K U = K 0 U' := fun K => g1 K
  have f1' : ∀ {β : Type} (K : Int32 → MM β), bd (gX11_errs 3) K B = K (-1) B' := fun K => f1 K
  obtain ⟨hx, ⟨u0, u1, -⟩, -⟩ := hE
  have l6 : (U 6).length = 8 := h.2.2.1.1
  have l1 : (U 1).length = 5 := by rw [h.2.1.1 1 (by decide)]; exact u1
  have e2 : (U 6).getD 2 0 = nI (ctk t) := h.2.2.1.2.2.2.1
  have n16 : ¬ nI 16 < (16 : Int32) := by decide
  refine ⟨U', B', ?_, ?_, fl⟩
  · unfold gX4_readLine
    rw [bd_ld _ (by omega), e2, jn_eq]
    rcases hi with ⟨h3, rfl⟩ | ⟨h3, rfl⟩
    · have ne : nI (ctk t) = (321 : Int32) := by rw [(ctk_word hx h.1 (by decide)).mpr hw]; rfl
      rw [if_pos h3]
      dsimp only
      rw [if_pos ne, bd_ld _ (by omega), hk, if_neg n16, g1']; rfl
    · have ne : nI (ctk t) = (320 : Int32) := by rw [(ctk_word hx h.1 (by decide)).mpr hw]; rfl
      rw [if_neg h3]
      dsimp only
      rw [if_pos ne, bd_ld _ (by omega), hk, if_neg n16, g1']; rfl
  · have := f1' (fun r => pr r)
    rw [bd_pr'] at this
    exact this
def PLo (ts : Nat → Nat) (n : Nat) (U0 B0 : Bk) (D : Nat → Bk → Bk → Prop) (k : Nat) (r : Int32) (U' : Bk) (r' : Int32) (B' : Bk) : Prop := (r = 0 ∧ r' = -1 ∧ FLL U0 U' B0 B') ∨ (r = 1 ∧ r' = 0 ∧ ∃ t', MLi ts n U0 U' B0 B' t' ∧ (U' 1).getD 0 0 = nI (k + 1) ∧ D (k + 1) U' B')
def PLs (ts : Nat → Nat) (n : Nat) (U0 B0 : Bk) (D : Nat → Bk → Bk → Prop) (r : Int32) (U' : Bk) (r' : Int32) (B' : Bk) : Prop := (r = 0 ∧ r' = -1 ∧ FLL U0 U' B0 B') ∨ (r = 1 ∧ ∃ k t', k ≤ 16 ∧ r' = nI k ∧ MLi ts n U0 U' B0 B' t' ∧ (U' 1).getD 0 0 = nI k ∧ D k U' B')
def lnF1 (x : Int32) : (Int32 → MM Int32) → Int32 → MM Int32 := fun (self2 : Int32 → MM Int32) (s3 : Int32) =>
  jn (fun (a5 : Unit) =>
  rz 1) (fun j4 =>
  (if 400 ≤ s3 then
  j4 ()
  else
  bd (ld 6 2) fun v6 =>
  (if v6 = 256 then
  j4 ()
  else
  bd (gX4_readLine x) fun r7 =>
  (if r7 = 0 then
  rz 0
  else
  lt (s3 + 1) fun y8 =>
  self2 y8))))
def lnF2 (w : Int32) (RL : Int32 → MM Int32) : (Int32 → MM Int32) → Int32 → MM Int32 := fun (self1 : Int32 → MM Int32) (s2 : Int32) =>
  bd (gX11_isWord w) fun r3 =>
  (if r3 = 0 then
  bd (ld 0 16) fun v4 =>
  jn (fun (a6 : Int32) =>
  pr a6) (fun j5 =>
  (if v4 = 0 then
  j5 s2
  else
  bd (gX11_errs 1) fun r7 =>
  j5 r7))
  else
  (if s2 = 16 then
  bd (gX11_errs 3) fun r10 =>
  pr r10
  else
  bd (RL s2) fun r8 =>
  (if r8 = ((-1)) then
  pr ((-1))
  else
  lt (s2 + 1) fun y9 =>
  self1 y9)))
theorem rl_eq (x : Int32) : gX4_readLines x = bd (sv 1 0 0) fun _ => bd (lf rh18 2 gX7_next) fun r1 => loopC 100000 (lnF1 x) 0 := rfl
theorem rd_eq : gX11_readDeeds = loopC 100000 (lnF2 (nI (rhoW 20)) (fun s => gX11_readDeed (64 + (4 * s)))) 0 := rfl
theorem rm_eq : gX11_readMinds = loopC 100000 (lnF2 (nI (rhoW 20)) (fun s => gX11_readMind (48 + (3 * s)))) 0 := rfl
def rfB : (Int32 → MM Int32) → Int32 → MM Int32 := fun (self1 : Int32 → MM Int32) (s2 : Int32) =>
  (if 12 ≤ s2 then
  loopC 100000 (lnF2 (nI (rhoW 21)) (fun _ => gX11_readFriend)) 0
  else
  bd (sa 19 (12 + s2) 0) fun _ =>
  lt (s2 + 1) fun y13 =>
  self1 y13)
theorem rf_eq : gX11_readFriends = loopC 100000 rfB 0 := rfl
set_option maxHeartbeats 400000 in
theorem lines_loop {ts : Nat → Nat} {n np nc nt i : Nat} {x : Int32} {RL : Int32 → MM Int32} {U0 B0 : Bk} {D : Nat → Bk → Bk → Prop} (hE : ENV ts n U0 B0 np nc nt) (hi : (x = 3 ∧ i = 21) ∨ (x ≠ 3 ∧ i = 20))
    (hline : ∀ U B t k, MLi ts n U0 U B0 B t → t.1 = 2 ∧ t.2.1 = i → (U 1).getD 0 0 = nI k → k < 16 → D k U B → J2 (gX4_readLine x U) (RL (nI k) B) (PLo ts n U0 B0 D k))
    {U B : Bk} {t : Tok} (h : MLi ts n U0 U B0 B t) (hk : (U 1).getD 0 0 = nI 0) (hD : D 0 U B) : J2 (loopC 100000 (lnF1 x) 0 U) (loopC 100000 (lnF2 (nI (rhoW i)) RL) 0 B) (PLs ts n U0 B0 D) := by
  have hx := hE.1
  have hi22 : i < 22 := by omega
  refine loop2 (fun m s U s' B => ∃ k t, m = 17 - k ∧ k ≤ 16 ∧ s = nI k ∧ s' = nI k ∧ MLi ts n U0 U B0 B t ∧ (U 1).getD 0 0 = nI k ∧ D k U B) (PLs ts n U0 B0 D) ?_ 17 100000 100000 0 U 0 B (by decide) (by decide) ⟨0, t, rfl, by decide, rfl, rfl, h, hk, hD⟩
  rintro m s U s' B ⟨k, t, rfl, hk16, rfl, rfl, h, hk, hD⟩ f1 f2 ih
  have hlt := ctk_lt hx h.1
  have l6 : (U 6).length = 8 := h.2.2.1.1
  have bl := FRR_len hE.2.2.2.1 h.2.2.2.1
  have e2 : (U 6).getD 2 0 = nI (ctk t) := h.2.2.1.2.2.2.1
  have k4 := (TK_ok hx h.1).2.2.1
  have hwd := p_isWord hE.2.2.2.1 hx h.1 h.2.2.2.1 h.2.2.2.2 hi22
  unfold lnF1 lnF2
  simp only [jn_eq]
  rw [if_neg (show ¬ (400 : Int32) ≤ nI k from nI_ge (b := 400) (by omega) (by omega)), bd_ld _ (by omega), e2, bd_some hwd]
  by_cases c0 : t.1 = 0
  · rw [if_pos (show nI (ctk t) = (256 : Int32) by rw [(ctk_end hx h.1).mpr c0]; rfl), b2i_f (fun q => by omega), if_pos (show nI 0 = (0 : Int32) from rfl), bd_ld _ (by omega), h.2.2.2.2.2.2.1, c0, if_pos (show nI 0 = (0 : Int32) from rfl)]
    exact ⟨_, _, _, _, rfl, rfl, Or.inr ⟨rfl, k, t, hk16, rfl, h, hk, hD⟩⟩
  · rw [if_neg (show ¬ nI (ctk t) = (256 : Int32) from fun q => c0 ((ctk_end hx h.1).mp ((nI_eq (b := 256) (by omega) (by omega)).mp q)))]
    by_cases c : t.1 = 2 ∧ t.2.1 = i
    · rw [b2i_t c, if_neg (show ¬ nI 1 = (0 : Int32) by decide)]
      by_cases ck : k = 16
      · subst ck
        obtain ⟨U', B', g1, g2, fl⟩ := line_full hE h hi c hk
        rw [if_pos (show nI 16 = (16 : Int32) from rfl), bd_some g1, bd_some g2, if_pos rfl]
        exact ⟨_, _, _, _, rfl, rfl, Or.inl ⟨rfl, rfl, fl⟩⟩
      · rw [if_neg (show ¬ nI k = (16 : Int32) from fun q => ck ((nI_eq (b := 16) (by omega) (by omega)).mp q))]
        obtain ⟨r, U', r', B', g1, g2, hP⟩ := hline U B t k h c hk (by omega) hD
        rw [bd_some g1, bd_some g2]
        rcases hP with ⟨rfl, rfl, fl⟩ | ⟨rfl, rfl, t', q1, q2, q3⟩
        · rw [if_pos rfl, if_pos rfl]
          exact ⟨_, _, _, _, rfl, rfl, Or.inl ⟨rfl, rfl, fl⟩⟩
        · rw [if_neg (by decide), if_neg (by decide), lt_eq, lt_eq, nI_1]
          exact ih (17 - (k + 1)) (by omega) _ _ _ _ ⟨k + 1, t', rfl, by omega, rfl, rfl, q1, q2, q3⟩
    · obtain ⟨U', B', g1, g2, fl⟩ := line_wrong hE h hi c
      rw [b2i_f c, if_pos (show nI 0 = (0 : Int32) from rfl), bd_ld _ (by omega), h.2.2.2.2.2.2.1, if_neg (show ¬ nI t.1 = (0 : Int32) from fun q => c0 ((nI_eq (b := 0) (by omega) (by omega)).mp q)), bd_some g1, bd_some g2, if_pos rfl]
      exact ⟨_, _, _, _, rfl, rfl, Or.inl ⟨rfl, rfl, fl⟩⟩
theorem x4e (k : Nat) (o : Nat) : (nI o + nI 4 * nI k : Int32) = nI (o + 4 * k) := by rw [pk_mul, nI_add]
theorem x3e (k : Nat) (o : Nat) : (nI o + nI 3 * nI k : Int32) = nI (o + 3 * k) := by rw [pk_mul, nI_add]
abbrev Dd (np nc nt : Nat) : Nat → Bk → Bk → Prop := fun k U B => DLr np nc nt U (B 17) 64 k
abbrev Dm (np : Nat) : Nat → Bk → Bk → Prop := fun k U B => DLm np U (B 18) k
abbrev Df (np : Nat) : Nat → Bk → Bk → Prop := fun k U B => DLf np U (B 19) k
set_option maxHeartbeats 400000 in
theorem lines_deeds {ts : Nat → Nat} {n np nc nt : Nat} {U0 B0 U B : Bk} {t : Tok} (hE : ENV ts n U0 B0 np nc nt) (h : MLi ts n U0 U B0 B t) (hk : (U 1).getD 0 0 = nI 0) : J2 (loopC 100000 (lnF1 1) 0 U) (gX11_readDeeds B) (PLs ts n U0 B0 (Dd np nc nt)) := by
  rw [rd_eq]
  refine lines_loop hE (Or.inr ⟨by decide, rfl⟩) (fun U B t k h1 h2 h3 h4 h5 => ?_) h hk (fun i hi => absurd hi (Nat.not_lt_zero i))
  show J2 (gX4_readLine 1 U) (gX11_readDeed (nI 64 + nI 4 * nI k) B) _
  rw [x4e]
  exact deed_line hE h1 h2 h3 h4 h5
set_option maxHeartbeats 400000 in
theorem lines_minds {ts : Nat → Nat} {n np nc nt : Nat} {U0 B0 U B : Bk} {t : Tok} (hE : ENV ts n U0 B0 np nc nt) (h : MLi ts n U0 U B0 B t) (hk : (U 1).getD 0 0 = nI 0) : J2 (loopC 100000 (lnF1 2) 0 U) (gX11_readMinds B) (PLs ts n U0 B0 (Dm np)) := by
  rw [rm_eq]
  refine lines_loop hE (Or.inr ⟨by decide, rfl⟩) (fun U B t k h1 h2 h3 h4 h5 => ?_) h hk (fun i hi => absurd hi (Nat.not_lt_zero i))
  show J2 (gX4_readLine 2 U) (gX11_readMind (nI 48 + nI 3 * nI k) B) _
  rw [x3e]
  exact mind_line hE h1 h2 h3 h4 h5
set_option maxHeartbeats 400000 in
theorem lines_friends {ts : Nat → Nat} {n np nc nt : Nat} {U0 B0 U B : Bk} {t : Tok} (hE : ENV ts n U0 B0 np nc nt) (h : MLi ts n U0 U B0 B t) (hk : (U 1).getD 0 0 = nI 0) : J2 (loopC 100000 (lnF1 3) 0 U) (gX11_readFriends B) (PLs ts n U0 B0 (Df np)) := by
  have b19 : (B0 19).length = 24 := hE.2.2.2.2.2.1.2.2
  rw [rf_eq]
  have key : Ht (loopC 100000 rfB 0 B) (fun r' B' => ∃ r U', loopC 100000 (lnF1 3) 0 U = some (r, U') ∧ PLs ts n U0 B0 (Df np) r U' r' B') := by
    refine loopI 12 (fun j s B => s = nI j ∧ MLi ts n U0 U B0 B t ∧ ∀ q, q < j → (B 19).getD (12 + q) 0 = 0) _ ?_ ?_ (by decide) ⟨rfl, h, fun q hq => absurd hq (Nat.not_lt_zero q)⟩
    · rintro j s B hj ⟨rfl, h1, h2⟩
      have lb : (B 19).length = 24 := by rw [h1.2.2.2.1.1 19]; exact b19
      refine ⟨nI (j + 1), up B 19 ((B 19).set (12 + j) 0), fun f => ?_, rfl, ML_c h1 (by decide) (by show 12 ≤ _; omega), fun q hq => ?_⟩
      · unfold rfB
        rw [if_neg (show ¬ (12 : Int32) ≤ nI j from nI_ge (b := 12) hj (by omega)), show (12 + nI j : Int32) = nI (12 + j) from nI_add 12 j, bd_sa _ (by omega) (by omega), lt_eq, nI_1]
      · rw [up_same]
        by_cases c : q = j
        · subst c
          exact gd_set_same (by omega)
        · rw [gd_set_ne (by omega)]
          exact h2 q (by omega)
    · rintro s B ⟨rfl, h1, h2⟩ f
      unfold rfB
      rw [if_pos (show (12 : Int32) ≤ nI 12 from Int32.le_refl _)]
      obtain ⟨r, U', r', B', g1, g2, g3⟩ := lines_loop (RL := fun _ => gX11_readFriend) (D := Df np) hE (Or.inl ⟨rfl, rfl⟩) (fun U B t k h1 h2 h3 h4 h5 => friend_line hE h1 h2 h3 h4 h5) h1 hk ⟨fun i hi => absurd hi (Nat.not_lt_zero i), fun q hq => h2 q hq⟩
      exact ⟨r', B', g2, r, U', g1, g3⟩
  obtain ⟨r', B', g2, r, U', g1, g3⟩ := key
  exact ⟨r, U', r', B', g1, g2, g3⟩
