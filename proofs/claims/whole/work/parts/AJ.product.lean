/-! PURE: text, a law: a product -/
theorem div_le {v : Nat} (hv : v ≤ 9999) : ((1 : Int32) ≤ nI v ∧ nI v ≤ 9999) ↔ v ≠ 0 := by
  have e1 : (1 : Int32) ≤ nI v ↔ 1 ≤ v := nI_leI (a := 1) (by omega) (by omega)
  have e2 : nI v ≤ (9999 : Int32) ↔ v ≤ 9999 := nI_leI (b := 9999) (by omega) (by omega)
  rw [e1, e2]; omega
set_option maxHeartbeats 400000 in
theorem wt_div {ts : Nat → Nat} {n : Nat} {U0 B0 U B : Bk} {t : Tok} (hE : WE ts n U0 B0) (h : WT ts n U0 U B0 B t) (hv : t.1 = 3 ∧ t.2.1 ≠ 0) {β : Type} (K : Int32 → MM β) : bd (lf rh16 2 (gX7_isNumber 1 9999)) K U = K 1 U := by
  have v9 := (TK_ok hE.1 h.1).2.2.2.2.2.2.1 hv.1
  exact c_isNumber (U := U) (a := 8) hE.1 h.1 rh16_inj rfl h.2.2.1 1 9999 K ⟨hv.1, (div_le v9).mpr hv.2⟩
set_option maxHeartbeats 400000 in
theorem wt_div' {ts : Nat → Nat} {n : Nat} {U0 B0 U B : Bk} {t : Tok} (hE : WE ts n U0 B0) (h : WT ts n U0 U B0 B t) (hv : ¬ (t.1 = 3 ∧ t.2.1 ≠ 0)) : ∃ U' B', (∀ {β : Type} (K : Int32 → MM β), bd (lf rh16 2 (gX7_isNumber 1 9999)) K U = K 0 U') ∧ (∀ {β : Type} (K : Int32 → MM β), bd (gX11_errs (nI (nfF t))) K B = K (-1) B') ∧ WF U0 U' B0 B' := by
  obtain ⟨hx, hy, hb, -⟩ := hE
  obtain ⟨h1, h2, h3, h4, h5⟩ := h
  have hno : ¬ (t.1 = 3 ∧ ((1 : Int32) ≤ nI t.2.1 ∧ nI t.2.1 ≤ 9999)) := fun z => hv ⟨z.1, (div_le ((TK_ok hx h1).2.2.2.2.2.2.1 z.1)).mp z.2⟩
  obtain ⟨o, g1, g2⟩ := c_isNumber' (U := U) (a := 8) hx h1 rh16_inj rfl h3 1 9999 hno
  obtain ⟨B', f1, f2, f3, f4, -⟩ := p_errs hb h4 h5 (nfF t)
  exact ⟨up U 8 o, B', g2, fun K => bd_some f1, WV_8 h2, f2, nfF t, t.2.2.1, by rw [up_same]; exact g1, f3, f4⟩
set_option maxHeartbeats 400000 in
theorem w_isS {ts : Nat → Nat} {n c : Nat} {U0 B0 U B : Bk} {t : Tok} (hE : WE ts n U0 B0) (h : WT ts n U0 U B0 B t) (hc : c < 256) {β : Type} (K : Int32 → MM β) : bd (gX11_isSign (nI c)) K B = K (b2i (t.1 = 4 ∧ t.2.1 = c)) B := bd_some (p_isSign hE.2.2.1 hE.1 h.1 h.2.2.2.1 h.2.2.2.2 hc)
set_option maxHeartbeats 400000 in
theorem w_isW {ts : Nat → Nat} {n i : Nat} {U0 B0 U B : Bk} {t : Tok} (hE : WE ts n U0 B0) (h : WT ts n U0 U B0 B t) (hi : i < 22) {β : Type} (K : Int32 → MM β) : bd (gX11_isWord (nI (rhoW i))) K B = K (b2i (t.1 = 2 ∧ t.2.1 = i)) B := bd_some (p_isWord hE.2.2.1 hE.1 h.1 h.2.2.2.1 h.2.2.2.2 hi)
set_option maxHeartbeats 400000 in
theorem w_ck {ts : Nat → Nat} {n : Nat} {U0 B0 U B : Bk} {t : Tok} (hE : WE ts n U0 B0) (h : WT ts n U0 U B0 B t) : (U 8).length = 8 ∧ (U 8).getD 2 0 = nI (ctk t) ∧ ctk t < 400 ∧ (B 0).length = 68 ∧ t.1 ≤ 4 ∧ t.2.2.1 ≤ n ∧ n ≤ 400 := ⟨h.2.2.1.1, h.2.2.1.2.2.2.1, ctk_lt hE.1 h.1, FRR_len hE.2.2.1 h.2.2.2.1, (TK_ok hE.1 h.1).2.2.1, (TK_ok hE.1 h.1).1, hE.1.1⟩
set_option maxHeartbeats 400000 in
theorem w_sN {ts : Nat → Nat} {n c : Nat} {U0 B0 U B : Bk} {t : Tok} (hE : WE ts n U0 B0) (h : WT ts n U0 U B0 B t) (hm : mkN c = true) : nI (ctk t) = nI c ↔ (t.1 = 4 ∧ t.2.1 = c) := by
  rw [nI_eq (by have := ctk_lt hE.1 h.1; omega) (by have := (mk_lt hm).1; omega)]
  exact ctk_sign hE.1 h.1 hm
def PW (ts : Nat → Nat) (n : Nat) (U0 B0 Ub Bb : Bk) (a p lo : Nat) (s : List Nat) (o : Nat) (st : List Nat) (r : Int32) (U' : Bk) (r' : Int32) (B' : Bk) : Prop := (r = 0 ∧ r' = -1 ∧ WF U0 U' B0 B') ∨ (r = 1 ∧ r' = 0 ∧ ∃ (t' : Tok) (cd' y' : Nat), y' ≠ 1 ∧ WS ts n U0 B0 Ub Bb a U' B' t' 0 cd' (y' :: s) o st ∧ cd' + p ≤ t'.2.2.1 ∧ lo ≤ t'.2.2.1)
theorem PW_lo {ts : Nat → Nat} {n : Nat} {U0 B0 Ub Bb : Bk} {a p lo lo' o : Nat} {s st : List Nat} {r : Int32} {U' : Bk} {r' : Int32} {B' : Bk} (h : PW ts n U0 B0 Ub Bb a p lo s o st r U' r' B') (hl : lo' ≤ lo) : PW ts n U0 B0 Ub Bb a p lo' s o st r U' r' B' := by
  rcases h with h | ⟨h1, h2, t', cd', y', h3, h4, h5, h6⟩
  · exact Or.inl h
  · exact Or.inr ⟨h1, h2, t', cd', y', h3, h4, h5, by omega⟩
set_option maxHeartbeats 400000 in
theorem w_pd {ts : Nat → Nat} {n a p o : Nat} {U0 B0 Ub Bb : Bk} {s st : List Nat} (hE : WE ts n U0 B0) : ∀ d {U B : Bk} {t : Tok} {cd y i N M : Nat}, WS ts n U0 B0 Ub Bb a U B t 0 cd (y :: s) o st → y ≠ 1 → cd + p ≤ t.2.2.1 → 2 * i + 1 ≤ t.2.2.1 → n - t.2.2.1 ≤ d → d < N → d < M → J2 (cSg (pdK (loopC N pdB) (nI i)) U) (loopC M rpB () B) (PW ts n U0 B0 Ub Bb a p t.2.2.1 s o st) := by
  intro d
  induction d with
  | zero =>
    intro U B t cd y i N M h hy hp hi hd hN hM
    obtain ⟨N, rfl⟩ : ∃ q, N = q + 1 := ⟨N - 1, by omega⟩
    obtain ⟨M, rfl⟩ : ∃ q, M = q + 1 := ⟨M - 1, by omega⟩
    obtain ⟨l8, e2, hlt, bl, t4, tn, n4⟩ := w_ck hE h.1
    have k0 : t.1 = 0 := by
      by_cases c : t.1 = 0
      · exact c
      · have := ((TK_nx hE.1 h.1.1).2.1 c).2; omega
    have s42 := fun {β : Type} (K : Int32 → MM β) => w_isS (c := 42) hE h.1 (by decide) K
    have s47 := fun {β : Type} (K : Int32 → MM β) => w_isS (c := 47) hE h.1 (by decide) K
    rw [loopC_s]
    unfold rpB cSg pdK
    rw [show (42 : Int32) = nI 42 from rfl, s42, b2i_f (fun z => by omega), if_pos (show nI 0 = (0 : Int32) from rfl), show (47 : Int32) = nI 47 from rfl, s47, b2i_f (fun z => by omega), if_pos (show nI 0 = (0 : Int32) from rfl)]
    rw [bd_ld _ (by omega), e2, if_neg (fun z => by have := (w_sN (c := 42) hE h.1 (by decide)).mp z; omega), bd_ld _ (by omega), e2, if_neg (fun z => by have := (w_sN (c := 47) hE h.1 (by decide)).mp z; omega), if_pos rfl]
    exact ⟨_, _, _, _, rfl, rfl, Or.inr ⟨rfl, rfl, t, cd, y, hy, h, hp, Nat.le_refl _⟩⟩
  | succ d ih =>
    intro U B t cd y i N M h hy hp hi hd hN hM
    obtain ⟨N, rfl⟩ : ∃ q, N = q + 1 := ⟨N - 1, by omega⟩
    obtain ⟨M, rfl⟩ : ∃ q, M = q + 1 := ⟨M - 1, by omega⟩
    obtain ⟨l8, e2, hlt, bl, t4, tn, n4⟩ := w_ck hE h.1
    have s42 := fun {β : Type} (K : Int32 → MM β) => w_isS (c := 42) hE h.1 (by decide) K
    have s47 := fun {β : Type} (K : Int32 → MM β) => w_isS (c := 47) hE h.1 (by decide) K
    have x42 := w_sN (c := 42) hE h.1 (by decide)
    have x47 := w_sN (c := 47) hE h.1 (by decide)
    have k10 : ¬ nI 1 = (0 : Int32) := by decide
    have k00 : nI 0 = (0 : Int32) := rfl
    have kn : ¬ (0 : Int32) = -1 := by decide
    rw [loopC_s]
    unfold rpB
    rw [show (42 : Int32) = nI 42 from rfl, s42, show (47 : Int32) = nI 47 from rfl]
    unfold cSg
    rw [bd_ld _ (by omega), e2]
    by_cases c42 : t.1 = 4 ∧ t.2.1 = 42
    · obtain ⟨U1, B1, g1, f1, w1, q1, q2, q3⟩ := wt_next hE h.1
      have h1 := WS_tok h w1 q1 q2 q3
      obtain ⟨t1, ht1⟩ : ∃ t1, nxT ts n t = t1 := ⟨_, rfl⟩
      have hst := ((TK_nx hE.1 h.1.1).2.1 (by omega)).1
      rw [ht1] at h1 w1 hst
      have hst1 := (w_ck hE w1).2.2.2.2.2.1
      rw [b2i_t c42, if_neg k10, if_pos (show nI (ctk t) = (42 : Int32) from x42.mpr c42)]
      unfold pdK rJ
      rw [if_neg (by decide), g1, lt_eq, nI_1, show (42 : Int32) = nI 42 from rfl, s42, f1, b2i_t c42, if_neg k10]
      unfold rJ9
      rw [if_neg k10]
      unfold rJ11
      rw [loopC_s]
      have bod : pdB (loopC N pdB) (10012, nI (i + 1)) = cUn (fun _ => bd (lf rh16 2 gX7_next) fun r8 => cPt 10012 (fun _ => cSg (pdK (loopC N pdB) (nI (i + 1))))) := by
        unfold pdB
        rw [if_neg (show ¬ (400 : Int32) ≤ nI (i + 1) from nI_ge (b := 400) (by omega) (by omega))]
        unfold cCk
        rw [if_neg (show ¬ (10012 : Int32) = 10013 by decide)]
      rw [bod]
      rcases w_unit hE h1 (by omega) with ⟨U2, B2, y2, g2, f2, hy2, -, hk1, h2⟩ | ⟨U2, B2, g2, f2, fl⟩
      · have hst2 := ((TK_nx hE.1 h1.1.1).2.1 hk1).1
        obtain ⟨t2, ht2⟩ : ∃ t2, nxT ts n t1 = t2 := ⟨_, rfl⟩
        rw [ht2] at h2 hst2
        have hst3 := (w_ck hE h2.1).2.2.2.2.2.1
        obtain ⟨U3, B3, g3, f3, h3⟩ := w_put hE h2 (c := 10012) (p := 4) (q := 0) (by omega) (Or.inr (Or.inr (Or.inr (Or.inr (Or.inl ⟨rfl, rfl⟩))))) (tcs_mul hy2 hy s)
        rw [g2, bd_some f2, if_neg kn, if_neg k10]
        unfold cPt rJe
        rw [if_neg (by decide), g3, f3]
        obtain ⟨r, V, r', C, e1, e2, hP⟩ := ih h3 (show (0 : Nat) ≠ 1 by decide) (show cd + 1 + 1 + p ≤ _ by omega) (show 2 * (i + 1) + 1 ≤ _ by omega) (by omega) (show d < N by omega) (show d < M by omega)
        exact ⟨r, V, r', C, e1, e2, PW_lo hP (by omega)⟩
      · rw [g2, bd_some f2, if_pos rfl]
        exact ⟨_, _, _, _, rfl, rfl, Or.inl ⟨rfl, rfl, fl⟩⟩
    · rw [b2i_f c42, if_pos k00, if_neg (show ¬ nI (ctk t) = (42 : Int32) from fun z => c42 (x42.mp z)), bd_ld _ (by omega), e2, s47]
      by_cases c47 : t.1 = 4 ∧ t.2.1 = 47
      · obtain ⟨U1, B1, g1, f1, w1, q1, q2, q3⟩ := wt_next hE h.1
        have h1 := WS_tok h w1 q1 q2 q3
        obtain ⟨t1, ht1⟩ : ∃ t1, nxT ts n t = t1 := ⟨_, rfl⟩
        have hst := ((TK_nx hE.1 h.1.1).2.1 (by omega)).1
        rw [ht1] at h1 w1 hst
        obtain ⟨-, -, -, bl1, -, hst1, -⟩ := w_ck hE w1
        have hk1' := TK_ok hE.1 w1.1
        obtain ⟨tr1, tr2, tr3, tr4, tr5, tr6⟩ := w1.2.2.2.2
        rw [b2i_t c47, if_neg k10, if_pos (show nI (ctk t) = (47 : Int32) from x47.mpr c47)]
        unfold pdK rJ
        rw [if_neg (by decide), g1, lt_eq, nI_1, show (42 : Int32) = nI 42 from rfl, s42, f1, b2i_f c42, if_pos k00, bd_ld _ (by omega), tr3]
        rw [loopC_s]
        have bod : pdB (loopC N pdB) (10013, nI (i + 1)) = bd (lf rh16 2 (gX7_isNumber 1 9999)) fun r25 => (if r25 = 0 then rz 0 else cUn (fun _ => bd (lf rh16 2 gX7_next) fun r8 => cPt 10013 (fun _ => cSg (pdK (loopC N pdB) (nI (i + 1)))))) := by
          unfold pdB
          rw [if_neg (show ¬ (400 : Int32) ≤ nI (i + 1) from nI_ge (b := 400) (by omega) (by omega))]
          unfold cCk
          rw [if_pos (show (10013 : Int32) = 10013 from rfl)]
        rw [bod]
        by_cases cd0 : t1.1 = 3 ∧ t1.2.1 ≠ 0
        · have v9 := hk1'.2.2.2.2.2.2.1 cd0.1
          rw [wt_div hE w1 cd0, if_neg (show ¬ (1 : Int32) = 0 by decide), if_pos (show nI t1.1 = (3 : Int32) by rw [cd0.1]; rfl)]
          unfold rJ9
          rw [if_pos k00, bd_ld _ (by omega), tr5 cd0.1, if_neg (show ¬ nI t1.2.1 = (0 : Int32) from fun z => cd0.2 ((nI_eq (b := 0) (by omega) (by omega)).mp z))]
          unfold rJ11
          rcases w_unit hE h1 (by omega) with ⟨U2, B2, y2, g2, f2, hy2, hy3, hk1, h2⟩ | ⟨U2, B2, g2, f2, fl⟩
          · have y22 := hy3 cd0.1 cd0.2
            subst y22
            have hst2 := ((TK_nx hE.1 h1.1.1).2.1 hk1).1
            obtain ⟨t2, ht2⟩ : ∃ t2, nxT ts n t1 = t2 := ⟨_, rfl⟩
            rw [ht2] at h2 hst2
            have hst3 := (w_ck hE h2.1).2.2.2.2.2.1
            obtain ⟨U3, B3, g3, f3, h3⟩ := w_put hE h2 (c := 10013) (p := 5) (q := 0) (by omega) (Or.inr (Or.inr (Or.inr (Or.inr (Or.inr (Or.inl ⟨rfl, rfl⟩)))))) (tcs_div hy s)
            rw [g2, bd_some f2, if_neg kn, if_pos k00]
            unfold cPt rJe
            rw [if_neg (by decide), g3, f3]
            obtain ⟨r, V, r', C, e1, e2, hP⟩ := ih h3 (show (0 : Nat) ≠ 1 by decide) (show cd + 1 + 1 + p ≤ _ by omega) (show 2 * (i + 1) + 1 ≤ _ by omega) (by omega) (show d < N by omega) (show d < M by omega)
            exact ⟨r, V, r', C, e1, e2, PW_lo hP (by omega)⟩
          · rw [g2, bd_some f2, if_pos rfl]
            exact ⟨_, _, _, _, rfl, rfl, Or.inl ⟨rfl, rfl, fl⟩⟩
        · obtain ⟨U2, B2, g2, f2, fl⟩ := wt_div' hE w1 cd0
          rw [g2, if_pos rfl]
          unfold nfF at f2
          by_cases c3 : t1.1 = 3
          · rw [if_pos c3] at f2
            have f2' : ∀ {β : Type} (K : Int32 → MM β), bd (gX11_errs 2) K B1 = K (-1) B2 := fun K => f2 K
            have z0 : t1.2.1 = 0 := by
              by_cases q : t1.2.1 = 0
              · exact q
              · exact absurd ⟨c3, q⟩ cd0
            rw [if_pos (show nI t1.1 = (3 : Int32) by rw [c3]; rfl)]
            unfold rJ9
            rw [if_pos k00, bd_ld _ (by omega), tr5 c3, z0, if_pos k00, f2']
            exact ⟨_, _, _, _, rfl, rfl, Or.inl ⟨rfl, rfl, fl⟩⟩
          · rw [if_neg c3] at f2
            have f2' : ∀ {β : Type} (K : Int32 → MM β), bd (gX11_errs 1) K B1 = K (-1) B2 := fun K => f2 K
            rw [if_neg (show ¬ nI t1.1 = (3 : Int32) from fun z => c3 ((nI_eq (b := 3) (by omega) (by omega)).mp z)), f2']
            exact ⟨_, _, _, _, rfl, rfl, Or.inl ⟨rfl, rfl, fl⟩⟩
      · rw [b2i_f c47, if_pos k00, if_neg (show ¬ nI (ctk t) = (47 : Int32) from fun z => c47 (x47.mp z))]
        unfold pdK
        rw [if_pos rfl]
        exact ⟨_, _, _, _, rfl, rfl, Or.inr ⟨rfl, rfl, t, cd, y, hy, h, hp, Nat.le_refl _⟩⟩
set_option maxHeartbeats 400000 in
theorem w_prod {ts : Nat → Nat} {n a p o cd : Nat} {U0 B0 Ub Bb U B : Bk} {s st : List Nat} {t : Tok} (hE : WE ts n U0 B0) (h : WS ts n U0 B0 Ub Bb a U B t 0 cd s o st) (hp : cd + p ≤ t.2.2.1) : J2 (gX3_readProduct U) (gX11_readProduct B) (PW ts n U0 B0 Ub Bb a p (t.2.2.1 + 1) s o st) := by
  obtain ⟨-, -, -, -, -, tn, n4⟩ := w_ck hE h.1
  rw [lpd_eq, lrp_eq, show (100000 : Nat) = 99999 + 1 from rfl, loopC_s]
  have bod : pdB (loopC 99999 pdB) (-1, 0) = cUn (fun _ => bd (lf rh16 2 gX7_next) fun _ => cSg (pdK (loopC 99999 pdB) (nI 0))) := by
    unfold pdB
    rw [if_neg (by decide)]
    unfold cCk
    rw [if_neg (by decide)]
    unfold cPt
    rw [if_pos rfl]; rfl
  rw [bod]
  rcases w_unit hE h (by omega) with ⟨U2, B2, y2, g2, f2, hy2, -, hk1, h2⟩ | ⟨U2, B2, g2, f2, fl⟩
  · have hst := ((TK_nx hE.1 h.1.1).2.1 hk1).1
    rw [g2, bd_some f2, if_neg (by decide)]
    obtain ⟨r, V, r', C, e1, e2, hP⟩ := w_pd (p := p) hE 400 h2 hy2 (by omega) (show 2 * 0 + 1 ≤ _ by omega) (by omega) (show 400 < 99999 by decide) (show 400 < 99999 + 1 by decide)
    exact ⟨r, V, r', C, e1, e2, PW_lo hP (by omega)⟩
  · rw [g2, bd_some f2, if_pos rfl]
    exact ⟨_, _, _, _, rfl, rfl, Or.inl ⟨rfl, rfl, fl⟩⟩
