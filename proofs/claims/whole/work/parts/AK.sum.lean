/-! PURE: text, a law: a sum -/
def cSg2 (k : Int32 → MM Int32) : MM Int32 :=
  bd (ld 8 2) fun v6 =>
  (if v6 = 43 then
  k 10010
  else
  bd (ld 8 2) fun v11 =>
  (if v11 = 45 then
  k 10011
  else
  k ((-1))))
def smK (self1 : (Int32 × Int32) → MM Int32) (i : Int32) : Int32 → MM Int32 := fun a8 =>
  (if a8 = ((-1)) then
  rz 1
  else
  bd (lf rh16 2 gX7_next) fun r9 =>
  lt (i + 1) fun y10 =>
  self1 (a8, y10))
def smB : ((Int32 × Int32) → MM Int32) → (Int32 × Int32) → MM Int32 := fun self1 s2 =>
  (if 400 ≤ s2.2 then
  rz 1
  else
  bd gX3_readProduct fun r3 =>
  (if r3 = 0 then
  rz 0
  else
  cPt s2.1 (fun _ => cSg2 (smK self1 s2.2))))
theorem lsm_eq : gX3_readSum = loopC 100000 smB (((-1)), 0) := rfl
def rSe (self2 : Unit → MM Int32) (a9 : Int32) : MM Int32 :=
  bd gX11_reads fun r10 =>
  bd gX11_readProduct fun r11 =>
  (if r11 = ((-1)) then
  pr ((-1))
  else
  bd (gX11_emits a9 0) fun r12 =>
  self2 ())
def rSJ (self2 : Unit → MM Int32) : MM Int32 :=
  bd (ld 0 17) fun v7 =>
  (if v7 = 43 then
  rSe self2 2
  else
  rSe self2 3)
def rsB : (Unit → MM Int32) → Unit → MM Int32 := fun self2 _ =>
  bd (gX11_isSign 43) fun r4 =>
  (if r4 = 0 then
  bd (gX11_isSign 45) fun r13 =>
  (if r13 = 0 then
  pr 0
  else
  rSJ self2)
  else
  rSJ self2)
theorem lrs_eq : gX11_readSum = bd gX11_readProduct fun r1 =>
  (if r1 = ((-1)) then
  pr ((-1))
  else
  loopC 100000 rsB ()) := rfl
set_option maxHeartbeats 400000 in
theorem w_sm {ts : Nat → Nat} {n a p o : Nat} {U0 B0 Ub Bb : Bk} {s st : List Nat} (hE : WE ts n U0 B0) : ∀ d {U B : Bk} {t : Tok} {cd y i N M : Nat}, WS ts n U0 B0 Ub Bb a U B t 0 cd (y :: s) o st → y ≠ 1 → cd + p ≤ t.2.2.1 → 2 * i + 1 ≤ t.2.2.1 → n - t.2.2.1 ≤ d → d < N → d < M → J2 (cSg2 (smK (loopC N smB) (nI i)) U) (loopC M rsB () B) (PW ts n U0 B0 Ub Bb a p t.2.2.1 s o st) := by
  intro d
  induction d with
  | zero =>
    intro U B t cd y i N M h hy hp hi hd hN hM
    obtain ⟨N, rfl⟩ : ∃ q, N = q + 1 := ⟨N - 1, by omega⟩
    obtain ⟨M, rfl⟩ : ∃ q, M = q + 1 := ⟨M - 1, by omega⟩
    obtain ⟨l8, e2, hlt, bl, t4, tn, n4⟩ := w_ck hE h.1
    have k0 : t.1 = 0 := by
      by_cases c : t.1 = 0
      · exact c
      · have := ((TK_nx hE.1 h.1.1).2.1 c).2; omega
    have s43 := fun {β : Type} (K : Int32 → MM β) => w_isS (c := 43) hE h.1 (by decide) K
    have s45 := fun {β : Type} (K : Int32 → MM β) => w_isS (c := 45) hE h.1 (by decide) K
    rw [loopC_s]
    unfold rsB cSg2 smK
    rw [show (43 : Int32) = nI 43 from rfl, s43, b2i_f (fun z => by omega), if_pos (show nI 0 = (0 : Int32) from rfl), show (45 : Int32) = nI 45 from rfl, s45, b2i_f (fun z => by omega), if_pos (show nI 0 = (0 : Int32) from rfl)]
    rw [bd_ld _ (by omega), e2, if_neg (fun z => by have := (w_sN (c := 43) hE h.1 (by decide)).mp z; omega), bd_ld _ (by omega), e2, if_neg (fun z => by have := (w_sN (c := 45) hE h.1 (by decide)).mp z; omega), if_pos rfl]
    exact ⟨_, _, _, _, rfl, rfl, Or.inr ⟨rfl, rfl, t, cd, y, hy, h, hp, Nat.le_refl _⟩⟩
  | succ d ih =>
    intro U B t cd y i N M h hy hp hi hd hN hM
    obtain ⟨N, rfl⟩ : ∃ q, N = q + 1 := ⟨N - 1, by omega⟩
    obtain ⟨M, rfl⟩ : ∃ q, M = q + 1 := ⟨M - 1, by omega⟩
    obtain ⟨l8, e2, hlt, bl, t4, tn, n4⟩ := w_ck hE h.1
    have s43 := fun {β : Type} (K : Int32 → MM β) => w_isS (c := 43) hE h.1 (by decide) K
    have s45 := fun {β : Type} (K : Int32 → MM β) => w_isS (c := 45) hE h.1 (by decide) K
    have x43 := w_sN (c := 43) hE h.1 (by decide)
    have x45 := w_sN (c := 45) hE h.1 (by decide)
    have k10 : ¬ nI 1 = (0 : Int32) := by decide
    have k00 : nI 0 = (0 : Int32) := rfl
    rw [loopC_s]
    unfold rsB
    rw [show (43 : Int32) = nI 43 from rfl, s43, show (45 : Int32) = nI 45 from rfl]
    unfold cSg2
    rw [bd_ld _ (by omega), e2]
    by_cases c43 : t.1 = 4 ∧ t.2.1 = 43
    · rw [b2i_t c43, if_neg k10, if_pos (show nI (ctk t) = (43 : Int32) from x43.mpr c43)]
      obtain ⟨U1, B1, g1, f1, w1, q1, q2, q3⟩ := wt_next hE h.1
      have h1 := WS_tok h w1 q1 q2 q3
      obtain ⟨t1, ht1⟩ : ∃ t1, nxT ts n t = t1 := ⟨_, rfl⟩
      have hst := ((TK_nx hE.1 h.1.1).2.1 (by omega)).1
      rw [ht1] at h1 w1 hst
      have hst1 := (w_ck hE w1).2.2.2.2.2.1
      unfold smK rSJ
      rw [if_neg (by decide), g1, lt_eq, nI_1, bd_ld _ (by omega), h.1.2.2.2.2.2.2.2.2.2 c43.1, c43.2, if_pos (show nI 43 = (43 : Int32) from rfl)]
      unfold rSe
      rw [f1, loopC_s]
      have bod : smB (loopC N smB) (10010, nI (i + 1)) = bd gX3_readProduct fun r3 => (if r3 = 0 then rz 0 else cPt 10010 (fun _ => cSg2 (smK (loopC N smB) (nI (i + 1))))) := by
        unfold smB
        rw [if_neg (show ¬ (400 : Int32) ≤ nI (i + 1) from nI_ge (b := 400) (by omega) (by omega))]
      rw [bod]
      obtain ⟨r, U2, r', B2, g2, f2, hP⟩ := w_prod (p := p + 1) hE h1 (by omega)
      rw [bd_some g2, bd_some f2]
      rcases hP with ⟨rfl, rfl, fl⟩ | ⟨rfl, rfl, t2, cd2, y2, hy2, h2, hp2, hlo⟩
      · rw [if_pos rfl, if_pos rfl]
        exact ⟨_, _, _, _, rfl, rfl, Or.inl ⟨rfl, rfl, fl⟩⟩
      · have hst3 := (w_ck hE h2.1).2.2.2.2.2.1
        obtain ⟨U3, B3, g3, f3, h3⟩ := w_put hE h2 (c := 10010) (p := 2) (q := 0) (by omega) (Or.inr (Or.inr (Or.inl ⟨rfl, rfl⟩))) (tcs_add hy2 hy s)
        rw [if_neg (by decide), if_neg (by decide)]
        unfold cPt
        rw [if_neg (by decide), g3, f3]
        obtain ⟨r, V, r', C, e1, e2, hP⟩ := ih h3 (show (0 : Nat) ≠ 1 by decide) (show cd2 + 1 + p ≤ _ by omega) (show 2 * (i + 1) + 1 ≤ _ by omega) (by omega) (show d < N by omega) (show d < M by omega)
        exact ⟨r, V, r', C, e1, e2, PW_lo hP (by omega)⟩
    · rw [b2i_f c43, if_pos k00, if_neg (show ¬ nI (ctk t) = (43 : Int32) from fun z => c43 (x43.mp z)), bd_ld _ (by omega), e2, s45]
      by_cases c45 : t.1 = 4 ∧ t.2.1 = 45
      · rw [b2i_t c45, if_neg k10, if_pos (show nI (ctk t) = (45 : Int32) from x45.mpr c45)]
        obtain ⟨U1, B1, g1, f1, w1, q1, q2, q3⟩ := wt_next hE h.1
        have h1 := WS_tok h w1 q1 q2 q3
        obtain ⟨t1, ht1⟩ : ∃ t1, nxT ts n t = t1 := ⟨_, rfl⟩
        have hst := ((TK_nx hE.1 h.1.1).2.1 (by omega)).1
        rw [ht1] at h1 w1 hst
        have hst1 := (w_ck hE w1).2.2.2.2.2.1
        unfold smK rSJ
        rw [if_neg (by decide), g1, lt_eq, nI_1, bd_ld _ (by omega), h.1.2.2.2.2.2.2.2.2.2 c45.1, c45.2, if_neg (show ¬ nI 45 = (43 : Int32) by decide)]
        unfold rSe
        rw [f1, loopC_s]
        have bod : smB (loopC N smB) (10011, nI (i + 1)) = bd gX3_readProduct fun r3 => (if r3 = 0 then rz 0 else cPt 10011 (fun _ => cSg2 (smK (loopC N smB) (nI (i + 1))))) := by
          unfold smB
          rw [if_neg (show ¬ (400 : Int32) ≤ nI (i + 1) from nI_ge (b := 400) (by omega) (by omega))]
        rw [bod]
        obtain ⟨r, U2, r', B2, g2, f2, hP⟩ := w_prod (p := p + 1) hE h1 (by omega)
        rw [bd_some g2, bd_some f2]
        rcases hP with ⟨rfl, rfl, fl⟩ | ⟨rfl, rfl, t2, cd2, y2, hy2, h2, hp2, hlo⟩
        · rw [if_pos rfl, if_pos rfl]
          exact ⟨_, _, _, _, rfl, rfl, Or.inl ⟨rfl, rfl, fl⟩⟩
        · have hst3 := (w_ck hE h2.1).2.2.2.2.2.1
          obtain ⟨U3, B3, g3, f3, h3⟩ := w_put hE h2 (c := 10011) (p := 3) (q := 0) (by omega) (Or.inr (Or.inr (Or.inr (Or.inl ⟨rfl, rfl⟩)))) (tcs_sub hy2 hy s)
          rw [if_neg (by decide), if_neg (by decide)]
          unfold cPt
          rw [if_neg (by decide), g3, f3]
          obtain ⟨r, V, r', C, e1, e2, hP⟩ := ih h3 (show (0 : Nat) ≠ 1 by decide) (show cd2 + 1 + p ≤ _ by omega) (show 2 * (i + 1) + 1 ≤ _ by omega) (by omega) (show d < N by omega) (show d < M by omega)
          exact ⟨r, V, r', C, e1, e2, PW_lo hP (by omega)⟩
      · rw [b2i_f c45, if_pos k00, if_neg (show ¬ nI (ctk t) = (45 : Int32) from fun z => c45 (x45.mp z))]
        unfold smK
        rw [if_pos rfl]
        exact ⟨_, _, _, _, rfl, rfl, Or.inr ⟨rfl, rfl, t, cd, y, hy, h, hp, Nat.le_refl _⟩⟩
set_option maxHeartbeats 400000 in
theorem w_sum {ts : Nat → Nat} {n a p o cd : Nat} {U0 B0 Ub Bb U B : Bk} {s st : List Nat} {t : Tok} (hE : WE ts n U0 B0) (h : WS ts n U0 B0 Ub Bb a U B t 0 cd s o st) (hp : cd + p ≤ t.2.2.1) : J2 (gX3_readSum U) (gX11_readSum B) (PW ts n U0 B0 Ub Bb a p (t.2.2.1 + 1) s o st) := by
  obtain ⟨-, -, -, -, -, tn, n4⟩ := w_ck hE h.1
  rw [lsm_eq, lrs_eq, show (100000 : Nat) = 99999 + 1 from rfl, loopC_s]
  have bod : smB (loopC 99999 smB) (-1, 0) = bd gX3_readProduct fun r3 => (if r3 = 0 then rz 0 else cSg2 (smK (loopC 99999 smB) (nI 0))) := by
    unfold smB
    rw [if_neg (by decide)]
    unfold cPt
    rw [if_pos rfl]; rfl
  rw [bod]
  obtain ⟨r, U2, r', B2, g2, f2, hP⟩ := w_prod (p := p) hE h hp
  rw [bd_some g2, bd_some f2]
  rcases hP with ⟨rfl, rfl, fl⟩ | ⟨rfl, rfl, t2, cd2, y2, hy2, h2, hp2, hlo⟩
  · rw [if_pos rfl, if_pos rfl]
    exact ⟨_, _, _, _, rfl, rfl, Or.inl ⟨rfl, rfl, fl⟩⟩
  · rw [if_neg (by decide), if_neg (by decide)]
    obtain ⟨r, V, r', C, e1, e2, hP⟩ := w_sm (p := p) hE 400 h2 hy2 hp2 (show 2 * 0 + 1 ≤ _ by omega) (by omega) (show 400 < 99999 by decide) (show 400 < 99999 + 1 by decide)
    exact ⟨r, V, r', C, e1, e2, PW_lo hP (by omega)⟩
