/-! PURE: text, a law: where both stand -/
theorem rh16_inj : ∀ i j, i < 2 → j < 2 → rh16 i = rh16 j → i = j := inj_d (by decide +kernel)
theorem rh17_inj : ∀ i j, i < 7 → j < 7 → rh17 i = rh17 j → i = j := inj_d (by decide +kernel)
theorem seg_take {l m : List Int32} {a b : Nat} (hl : b ≤ l.length) (hm : b ≤ m.length) (h : ∀ i, i < b → l.getD i 0 = m.getD i 0) : seg l a b = seg m a b := by
  have key : ∀ d a, b - a ≤ d → seg l a b = seg m a b := by
    intro d
    induction d with
    | zero =>
      intro a hd
      unfold seg
      rw [List.drop_eq_nil_of_le (by rw [List.length_take]; omega), List.drop_eq_nil_of_le (by rw [List.length_take]; omega)]
    | succ d ih =>
      intro a hd
      by_cases c : a < b
      · rw [seg_cons c hl, seg_cons c hm, ih (a + 1) (by omega), h a c]
      · unfold seg
        rw [List.drop_eq_nil_of_le (by rw [List.length_take]; omega), List.drop_eq_nil_of_le (by rw [List.length_take]; omega)]
  exact key _ a (Nat.le_refl _)
theorem seg_push {l : List Int32} {a b : Nat} (hab : a ≤ b) (hb : b < l.length) : seg l a (b + 1) = seg l a b ++ [l.getD b 0] := by
  have key : ∀ d a, b - a ≤ d → a ≤ b → seg l a (b + 1) = seg l a b ++ [l.getD b 0] := by
    intro d
    induction d with
    | zero =>
      intro a hd hab
      have e : a = b := by omega
      subst e
      rw [seg_cons (by omega) (by omega), seg_nil, seg_nil]; rfl
    | succ d ih =>
      intro a hd hab
      by_cases c : a = b
      · subst c
        rw [seg_cons (by omega) (by omega), seg_nil, seg_nil]; rfl
      · rw [seg_cons (show a < b + 1 by omega) (by omega), seg_cons (show a < b by omega) (by omega), ih (a + 1) (by omega) (by omega)]; rfl
  exact key _ a (Nat.le_refl _) hab
theorem tcl_app : ∀ (xs : List Int32) (c : Int32) (st s s2 : List Nat), tcl xs st = some s → tcs c s = some s2 → tcl (xs ++ [c]) st = some s2
  | [], c, st, s, s2, h, g => by
    have : st = s := Option.some.inj h
    subst this
    show (match tcs c st with
      | some s2 => tcl [] s2
      | none => none) = some s2
    rw [g]; rfl
  | x :: xs, c, st, s, s2, h, g => by
    show (match tcs x st with
      | some s2 => tcl (xs ++ [c]) s2
      | none => none) = some s2
    rw [tcl_c] at h
    cases e : tcs x st with
    | none => rw [e] at h; cases h
    | some q =>
      rw [e] at h
      exact tcl_app xs c q s s2 h g
/-- where the reading of a law begins -/
def WE (ts : Nat → Nat) (n : Nat) (U0 B0 : Bk) : Prop :=
  TXT ts n ∧ BY (U0 9) ts n ∧ BSE B0 ts n ∧ ((U0 1).length = 8 ∧ (U0 2).length = 16 ∧ (U0 3).length = 16 ∧ (U0 4).length = 16 ∧ (U0 5).length = 16 ∧ (U0 6).length = 400) ∧
  ((B0 10).length = 48 ∧ (B0 11).length = 48 ∧ (B0 12).length = 48 ∧ (B0 13).length = 48 ∧ (B0 14).length = 1200 ∧ (B0 15).length = 1200 ∧ (B0 16).length = 40)
def WV (U0 U : Bk) : Prop := (∀ c, c ≠ 8 → (U c).length = (U0 c).length) ∧ ∀ c, 7 ≤ c → c ≠ 8 → U c = U0 c
/-- the token -/
def WT (ts : Nat → Nat) (n : Nat) (U0 U B0 B : Bk) (t : Tok) : Prop := TK ts n t ∧ WV U0 U ∧ CT (U 8) n t ∧ FRR B0 B ∧ TR B t
/-- the fault -/
def WF (U0 U B0 B : Bk) : Prop := WV U0 U ∧ FRR B0 B ∧ ∃ f st : Nat, CF8 (U 8) f st ∧ (B 0).getD 31 0 = nI f ∧ (B 0).getD 32 0 = nI st
/-- what stays -/
def WK (Ub Bb : Bk) (a : Nat) (U B : Bk) : Prop := (∀ c, c ≠ 1 → c ≠ 6 → c ≠ 8 → U c = Ub c) ∧ (U 1).getD 0 0 = (Ub 1).getD 0 0 ∧ (∀ c, c ≠ 0 → c ≠ 14 → c ≠ 15 → c ≠ 16 → B c = Bb c) ∧ ∀ i, i < a → (U 6).getD i 0 = (Ub 6).getD i 0
/-- the codes: the reference may be j NOTs ahead -/
def WC (a : Nat) (U B : Bk) (j cd : Nat) (s : List Nat) : Prop := (U 1).getD 1 0 = nI cd ∧ (B 0).getD 27 0 = nI (cd + j) ∧ (∀ i, i < cd → RCode ((U 6).getD i 0) ((B 14).getD (800 + i) 0) ((B 15).getD (800 + i) 0)) ∧ (∀ i, i < j → (B 14).getD (800 + (cd + i)) 0 = 9) ∧ a ≤ cd ∧ tcl (seg (U 6) a cd) [] = some s
/-- what waits in the reference -/
def WQ (B : Bk) (o : Nat) (st : List Nat) : Prop := (B 0).getD 28 0 = nI o ∧ (B 0).getD 30 0 = nI st.length ∧ ∀ i, i < st.length → (B 16).getD i 0 = nI (st.getD i 0)
def WS (ts : Nat → Nat) (n : Nat) (U0 B0 Ub Bb : Bk) (a : Nat) (U B : Bk) (t : Tok) (j cd : Nat) (s : List Nat) (o : Nat) (st : List Nat) : Prop := WT ts n U0 U B0 B t ∧ WK Ub Bb a U B ∧ WC a U B j cd s ∧ WQ B o st
theorem WV_8 {U0 U : Bk} {o : List Int32} (h : WV U0 U) : WV U0 (up U 8 o) := ⟨fun c hc => by rw [up_ne _ _ hc]; exact h.1 c hc, fun c hc c8 => by rw [up_ne _ _ c8]; exact h.2 c hc c8⟩
theorem WV_s {U0 U : Bk} {c i : Nat} {v : Int32} (h : WV U0 U) (hc : c < 7) : WV U0 (up U c ((U c).set i v)) := ⟨fun j hj => by rw [up_len List.length_set, h.1 j hj], fun j hj j8 => by rw [up_ne _ _ (by omega)]; exact h.2 j hj j8⟩
set_option maxHeartbeats 400000 in
theorem WS_tok {ts : Nat → Nat} {n a j cd o : Nat} {U0 B0 Ub Bb U B U' B' : Bk} {t t' : Tok} {s st : List Nat} (h : WS ts n U0 B0 Ub Bb a U B t j cd s o st) (ht : WT ts n U0 U' B0 B' t') (e1 : ∀ c, c ≠ 8 → U' c = U c) (e2 : ∀ c, c ≠ 0 → B' c = B c) (e3 : ∀ k, k ∉ [14, 15, 16, 17] → (B' 0).getD k 0 = (B 0).getD k 0) : WS ts n U0 B0 Ub Bb a U' B' t' j cd s o st := by
  obtain ⟨-, ⟨k1, k2, k3, k4⟩, ⟨c1, c2, c3, c4, c5, c6⟩, q1, q2, q3⟩ := h
  refine ⟨ht, ⟨fun c x1 x6 x8 => by rw [e1 c x8]; exact k1 c x1 x6 x8, by rw [e1 1 (by decide)]; exact k2, fun c x0 x14 x15 x16 => by rw [e2 c x0]; exact k3 c x0 x14 x15 x16, fun i hi => by rw [e1 6 (by decide)]; exact k4 i hi⟩, ⟨by rw [e1 1 (by decide)]; exact c1, by rw [e3 27 (by decide)]; exact c2, ?_, ?_, c5, by rw [e1 6 (by decide)]; exact c6⟩, by rw [e3 28 (by decide)]; exact q1, by rw [e3 30 (by decide)]; exact q2, by rw [e2 16 (by decide)]; exact q3⟩
  · rw [e1 6 (by decide), e2 14 (by decide), e2 15 (by decide)]; exact c3
  · rw [e2 14 (by decide)]; exact c4
set_option maxHeartbeats 400000 in
theorem wt_next {ts : Nat → Nat} {n : Nat} {U0 B0 U B : Bk} {t : Tok} (hE : WE ts n U0 B0) (h : WT ts n U0 U B0 B t) : ∃ U' B', (∀ {β : Type} (K : Int32 → MM β), bd (lf rh16 2 gX7_next) K U = K 0 U') ∧ (∀ {β : Type} (K : Int32 → MM β), bd gX11_reads K B = K 0 B') ∧ WT ts n U0 U' B0 B' (nxT ts n t) ∧ (∀ c, c ≠ 8 → U' c = U c) ∧ (∀ c, c ≠ 0 → B' c = B c) ∧ ∀ k, k ∉ [14, 15, 16, 17] → (B' 0).getD k 0 = (B 0).getD k 0 := by
  obtain ⟨hx, hy, hb, -⟩ := hE
  obtain ⟨h1, h2, h3, h4, h5⟩ := h
  obtain ⟨o, g1, g2⟩ := c_next (U := U) (a := 8) (b := 9) hx h1 rh16_inj rfl rfl (by rw [h2.2 9 (by decide) (by decide)]; exact hy) h3
  obtain ⟨B', f1, f2, f3, f4, f5⟩ := p_reads hb hx h1 h4 h5
  exact ⟨up U 8 o, B', g2, fun K => bd_some f1, ⟨(TK_nx hx h1).1, WV_8 h2, by rw [up_same]; exact g1, f2, f3⟩, fun c hc => up_ne _ _ hc, f4, f5⟩
set_option maxHeartbeats 400000 in
theorem wt_refuse {ts : Nat → Nat} {n : Nat} {U0 B0 U B : Bk} {t : Tok} (hE : WE ts n U0 B0) (h : WT ts n U0 U B0 B t) (f : Nat) : ∃ U' B', (∀ {β : Type} (K : Int32 → MM β), bd (lf rh16 2 (gX7_refuse (nI f))) K U = K 0 U') ∧ (∀ {β : Type} (K : Int32 → MM β), bd (gX11_errs (nI f)) K B = K (-1) B') ∧ WF U0 U' B0 B' := by
  obtain ⟨hx, hy, hb, -⟩ := hE
  obtain ⟨h1, h2, h3, h4, h5⟩ := h
  obtain ⟨o, g1, g2⟩ := c_refuse (U := U) (a := 8) rh16_inj rfl h3 f
  obtain ⟨B', f1, f2, f3, f4, -⟩ := p_errs hb h4 h5 f
  exact ⟨up U 8 o, B', g2, fun K => bd_some f1, WV_8 h2, f2, f, t.2.2.1, by rw [up_same]; exact g1, f3, f4⟩
set_option maxHeartbeats 400000 in
theorem wt_sign {ts : Nat → Nat} {n c : Nat} {U0 B0 U B : Bk} {t : Tok} (hE : WE ts n U0 B0) (h : WT ts n U0 U B0 B t) (hm : mkN c = true) (hc : t.1 = 4 ∧ t.2.1 = c) : ∃ U' B', (∀ {β : Type} (K : Int32 → MM β), bd (lf rh16 2 (gX7_take (nI c))) K U = K 1 U') ∧ (∀ {β : Type} (K : Int32 → MM β), bd gX11_reads K B = K 0 B') ∧ WT ts n U0 U' B0 B' (nxT ts n t) ∧ (∀ c, c ≠ 8 → U' c = U c) ∧ (∀ c, c ≠ 0 → B' c = B c) ∧ ∀ k, k ∉ [14, 15, 16, 17] → (B' 0).getD k 0 = (B 0).getD k 0 := by
  obtain ⟨hx, hy, hb, -⟩ := hE
  obtain ⟨h1, h2, h3, h4, h5⟩ := h
  obtain ⟨o, g1, g2⟩ := c_take (U := U) (a := 8) (b := 9) (w := c) hx h1 rh16_inj rfl rfl (by rw [h2.2 9 (by decide) (by decide)]; exact hy) h3 ((ctk_sign hx h1 hm).mpr hc)
  obtain ⟨B', f1, f2, f3, f4, f5⟩ := p_reads hb hx h1 h4 h5
  exact ⟨up U 8 o, B', g2, fun K => bd_some f1, ⟨(TK_nx hx h1).1, WV_8 h2, by rw [up_same]; exact g1, f2, f3⟩, fun c hc => up_ne _ _ hc, f4, f5⟩
set_option maxHeartbeats 400000 in
theorem wt_sign' {ts : Nat → Nat} {n c : Nat} {U0 B0 U B : Bk} {t : Tok} (hE : WE ts n U0 B0) (h : WT ts n U0 U B0 B t) (hm : mkN c = true) (hc : ¬ (t.1 = 4 ∧ t.2.1 = c)) : ∃ U' B', (∀ {β : Type} (K : Int32 → MM β), bd (lf rh16 2 (gX7_take (nI c))) K U = K 0 U') ∧ (∀ {β : Type} (K : Int32 → MM β), bd (gX11_errs 1) K B = K (-1) B') ∧ WF U0 U' B0 B' := by
  obtain ⟨hx, hy, hb, -⟩ := hE
  obtain ⟨h1, h2, h3, h4, h5⟩ := h
  obtain ⟨o, g1, g2⟩ := c_take' (U := U) (a := 8) (w := c) hx h1 rh16_inj rfl h3 (fun q => hc ((ctk_sign hx h1 hm).mp q)) (by have := (mk_lt hm).1; omega)
  obtain ⟨B', f1, f2, f3, f4, -⟩ := p_errs hb h4 h5 1
  exact ⟨up U 8 o, B', g2, fun K => bd_some f1, WV_8 h2, f2, 1, t.2.2.1, by rw [up_same]; exact g1, f3, f4⟩
set_option maxHeartbeats 400000 in
theorem p_putc {T : Bk} {cd : Nat} (l0 : (T 0).length = 8) (l5 : (T 5).length = 400) (h : (T 0).getD 1 0 = nI cd) (hc : cd < 400) (c : Int32) : gX2_put c T = some (0, up (up T 5 ((T 5).set cd c)) 0 ((T 0).set 1 (nI (cd + 1)))) := by
  have m : 1 < (T 0).length := by omega
  unfold gX2_put
  simp only [jn_eq]
  rw [bd_ld _ m, h, if_neg (show ¬ (400 : Int32) ≤ nI cd from nI_ge (b := 400) hc (by omega)), bd_ld _ m, h, bd_sa _ (by omega) (by omega), bd_ld _ (by rw [up_ne _ _ (by decide)]; exact m), up_ne _ _ (by decide), h, nI_1, bd_sv _ (by rw [up_ne _ _ (by decide)]; exact m), up_ne _ _ (by decide)]; rfl
set_option maxHeartbeats 400000 in
theorem c_put {U : Bk} {cd : Nat} (l1 : (U 1).length = 8) (l6 : (U 6).length = 400) (h : (U 1).getD 1 0 = nI cd) (hc : cd < 400) (c : Int32) {β : Type} (K : Int32 → MM β) : bd (lf rh17 7 (gX2_put c)) K U = K 0 (up (up U 6 ((U 6).set cd c)) 1 ((U 1).set 1 (nI (cd + 1)))) := by
  have e := p_putc (T := fun i => U (rh17 i)) (cd := cd) l1 l6 h hc c
  rw [bd_lf _ e, pu_up rh17_inj (by decide), pu1 rh17_inj (by decide)]
  rfl
set_option maxHeartbeats 400000 in
theorem p_emits {B : Bk} {cd : Nat} (l0 : (B 0).length = 68) (l14 : (B 14).length = 1200) (l15 : (B 15).length = 1200) (h : (B 0).getD 27 0 = nI cd) (hc : cd < 400) (p q : Int32) : gX11_emits p q B = some (0, up (up (up B 14 ((B 14).set (800 + cd) p)) 15 ((B 15).set (800 + cd) q)) 0 ((B 0).set 27 (nI (cd + 1)))) := by
  have m : 27 < (B 0).length := by omega
  have x : (800 + nI cd : Int32) = nI (800 + cd) := nI_add 800 cd
  unfold gX11_emits
  rw [bd_ld _ m, h, x, bd_sa _ (by omega) (by omega)]
  obtain ⟨C, hC⟩ : ∃ C, up B 14 ((B 14).set (800 + cd) p) = C := ⟨_, rfl⟩
  have c0 : C 0 = B 0 := by rw [← hC]; rfl
  have c15 : C 15 = B 15 := by rw [← hC]; rfl
  rw [hC, bd_ld _ (by rw [c0]; exact m), c0, h, x, bd_sa _ (by rw [c15]; omega) (by rw [c15]; omega), c15]
  obtain ⟨D, hD⟩ : ∃ D, up C 15 ((B 15).set (800 + cd) q) = D := ⟨_, rfl⟩
  have d0 : D 0 = B 0 := by rw [← hD, ← c0]; rfl
  rw [hD, bd_ld _ (by rw [d0]; exact m), d0, h, nI_1, bd_sv _ (by rw [d0]; exact m), d0]
  rfl
set_option maxHeartbeats 400000 in
theorem w_put {ts : Nat → Nat} {n a cd o : Nat} {U0 B0 Ub Bb U B : Bk} {t : Tok} {s s' st : List Nat} {c p q : Int32} (hE : WE ts n U0 B0) (h : WS ts n U0 B0 Ub Bb a U B t 0 cd s o st) (hc : cd < 400) (hr : RCode c p q) (ht : tcs c s = some s') : ∃ U' B', (∀ {β : Type} (K : Int32 → MM β), bd (lf rh17 7 (gX2_put c)) K U = K 0 U') ∧ (∀ {β : Type} (K : Int32 → MM β), bd (gX11_emits p q) K B = K 0 B') ∧ WS ts n U0 B0 Ub Bb a U' B' t 0 (cd + 1) s' o st := by
  obtain ⟨hx, hy, hb, ⟨u1, u2, u3, u4, u5, u6⟩, ⟨b10, b11, b12, b13, b14, b15, b16⟩⟩ := hE
  obtain ⟨⟨t1, t2, t3, t4, t5⟩, ⟨k1, k2, k3, k4⟩, ⟨c1, c2, c3, c4, c5, c6⟩, q1, q2, q3⟩ := h
  have l1 : (U 1).length = 8 := by rw [t2.1 1 (by decide)]; exact u1
  have l6 : (U 6).length = 400 := by rw [t2.1 6 (by decide)]; exact u6
  have l14 : (B 14).length = 1200 := by rw [t4.1 14]; exact b14
  have l15 : (B 15).length = 1200 := by rw [t4.1 15]; exact b15
  have bl := FRR_len hb t4
  refine ⟨up (up U 6 ((U 6).set cd c)) 1 ((U 1).set 1 (nI (cd + 1))), up (up (up B 14 ((B 14).set (800 + cd) p)) 15 ((B 15).set (800 + cd) q)) 0 ((B 0).set 27 (nI (cd + 1))), fun K => c_put l1 l6 c1 hc c K, fun K => bd_some (p_emits bl l14 l15 c2 hc p q), ?_, ?_, ?_, ?_⟩
  · have w1 := WV_s (c := 6) (i := cd) (v := c) t2 (by decide)
    have w2 := WV_s (c := 1) (i := 1) (v := nI (cd + 1)) w1 (by decide)
    have r1 := FRR_c (c := 14) (i := 800 + cd) (v := p) t4 (by decide) (by show 400 ≤ _; omega)
    have r2 := FRR_c (c := 15) (i := 800 + cd) (v := q) r1 (by decide) (by show 400 ≤ _; omega)
    have r3 := FRR_s (k := 27) (v := nI (cd + 1)) r2 (by decide)
    exact ⟨t1, w2, t3, r3, TR_congr t5 (fun k hk => by rw [up_same]; exact gd_set_ne (fun z => by subst z; exact absurd hk (by decide)))⟩
  · refine ⟨fun i x1 x6 x8 => by rw [up_ne _ _ x1, up_ne _ _ x6]; exact k1 i x1 x6 x8, ?_, fun i x0 x14 x15 x16 => by rw [up_ne _ _ x0, up_ne _ _ x15, up_ne _ _ x14]; exact k3 i x0 x14 x15 x16, fun i hi => ?_⟩
    · rw [up_same, gd_set_ne (by decide)]; exact k2
    · rw [up_ne _ _ (by decide), up_same, gd_set_ne (by omega)]; exact k4 i hi
  · have e6 : (up (up U 6 ((U 6).set cd c)) 1 ((U 1).set 1 (nI (cd + 1)))) 6 = (U 6).set cd c := rfl
    have e14 : (up (up (up B 14 ((B 14).set (800 + cd) p)) 15 ((B 15).set (800 + cd) q)) 0 ((B 0).set 27 (nI (cd + 1)))) 14 = (B 14).set (800 + cd) p := rfl
    have e15 : (up (up (up B 14 ((B 14).set (800 + cd) p)) 15 ((B 15).set (800 + cd) q)) 0 ((B 0).set 27 (nI (cd + 1)))) 15 = (B 15).set (800 + cd) q := rfl
    refine ⟨by rw [up_same, gd_set_same (by omega)], by rw [up_same, gd_set_same (by omega)], fun i hi => ?_, fun i hi => absurd hi (Nat.not_lt_zero i), by omega, ?_⟩
    · rw [e6, e14, e15]
      by_cases z : i = cd
      · subst z
        rw [gd_set_same (by omega), gd_set_same (by omega), gd_set_same (by omega)]; exact hr
      · rw [gd_set_ne (by omega), gd_set_ne (by omega), gd_set_ne (by omega)]
        exact c3 i (by omega)
    · rw [e6, seg_push c5 (by rw [List.length_set]; omega), gd_set_same (by omega)]
      refine tcl_app _ c [] s s' ?_ ht
      rw [seg_take (m := U 6) (by rw [List.length_set]; omega) (by omega) (fun i hi => gd_set_ne (by omega))]
      exact c6
  · refine ⟨by rw [up_same, gd_set_ne (by decide)]; exact q1, by rw [up_same, gd_set_ne (by decide)]; exact q2, q3⟩
set_option maxHeartbeats 400000 in
theorem w_catch {ts : Nat → Nat} {n a j cd o : Nat} {U0 B0 Ub Bb U B : Bk} {t : Tok} {s s' st : List Nat} (hE : WE ts n U0 B0) (h : WS ts n U0 B0 Ub Bb a U B t (j + 1) cd s o st) (hc : cd < 400) (ht : tcs 10019 s = some s') : ∃ U', (∀ {β : Type} (K : Int32 → MM β), bd (lf rh17 7 (gX2_put 10019)) K U = K 0 U') ∧ WS ts n U0 B0 Ub Bb a U' B t j (cd + 1) s' o st := by
  obtain ⟨hx, hy, hb, ⟨u1, u2, u3, u4, u5, u6⟩, ⟨b10, b11, b12, b13, b14, b15, b16⟩⟩ := hE
  obtain ⟨⟨t1, t2, t3, t4, t5⟩, ⟨k1, k2, k3, k4⟩, ⟨c1, c2, c3, c4, c5, c6⟩, q⟩ := h
  have l1 : (U 1).length = 8 := by rw [t2.1 1 (by decide)]; exact u1
  have l6 : (U 6).length = 400 := by rw [t2.1 6 (by decide)]; exact u6
  have w1 := WV_s (c := 6) (i := cd) (v := 10019) t2 (by decide)
  have w2 := WV_s (c := 1) (i := 1) (v := nI (cd + 1)) w1 (by decide)
  have e6 : (up (up U 6 ((U 6).set cd 10019)) 1 ((U 1).set 1 (nI (cd + 1)))) 6 = (U 6).set cd 10019 := rfl
  refine ⟨up (up U 6 ((U 6).set cd 10019)) 1 ((U 1).set 1 (nI (cd + 1))), fun K => c_put l1 l6 c1 hc _ K, ⟨t1, w2, t3, t4, t5⟩, ⟨fun i x1 x6 x8 => by rw [up_ne _ _ x1, up_ne _ _ x6]; exact k1 i x1 x6 x8, ?_, k3, fun i hi => ?_⟩, ⟨by rw [up_same, gd_set_same (by omega)], by rw [c2]; congr 1; omega, fun i hi => ?_, fun i hi => ?_, by omega, ?_⟩, q⟩
  · rw [up_same, gd_set_ne (by decide)]; exact k2
  · rw [up_ne _ _ (by decide), up_same, gd_set_ne (by omega)]; exact k4 i hi
  · rw [e6]
    by_cases z : i = cd
    · subst z
      rw [gd_set_same (by omega)]
      exact Or.inr (Or.inr (Or.inr (Or.inr (Or.inr (Or.inr (Or.inr (Or.inr (Or.inr (Or.inr (Or.inr ⟨rfl, c4 0 (by omega)⟩))))))))))
    · rw [gd_set_ne (by omega)]
      exact c3 i (by omega)
  · rw [show 800 + (cd + 1 + i) = 800 + (cd + (i + 1)) by omega]
    exact c4 (i + 1) (by omega)
  · rw [e6, seg_push c5 (by rw [List.length_set]; omega), gd_set_same (by omega)]
    refine tcl_app _ _ [] s s' ?_ ht
    rw [seg_take (m := U 6) (by rw [List.length_set]; omega) (by omega) (fun i hi => gd_set_ne (by omega))]
    exact c6
set_option maxHeartbeats 400000 in
theorem w_ahead {ts : Nat → Nat} {n a j cd o : Nat} {U0 B0 Ub Bb U B : Bk} {t : Tok} {s st : List Nat} (hE : WE ts n U0 B0) (h : WS ts n U0 B0 Ub Bb a U B t j cd s o st) (hc : cd + j < 400) : ∃ B', (∀ {β : Type} (K : Int32 → MM β), bd (gX11_emits 9 0) K B = K 0 B') ∧ WS ts n U0 B0 Ub Bb a U B' t (j + 1) cd s o st := by
  obtain ⟨hx, hy, hb, ⟨u1, u2, u3, u4, u5, u6⟩, ⟨b10, b11, b12, b13, b14, b15, b16⟩⟩ := hE
  obtain ⟨⟨t1, t2, t3, t4, t5⟩, ⟨k1, k2, k3, k4⟩, ⟨c1, c2, c3, c4, c5, c6⟩, q1, q2, q3⟩ := h
  have l14 : (B 14).length = 1200 := by rw [t4.1 14]; exact b14
  have l15 : (B 15).length = 1200 := by rw [t4.1 15]; exact b15
  have bl := FRR_len hb t4
  have r1 := FRR_c (c := 14) (i := 800 + (cd + j)) (v := 9) t4 (by decide) (by show 400 ≤ _; omega)
  have r2 := FRR_c (c := 15) (i := 800 + (cd + j)) (v := 0) r1 (by decide) (by show 400 ≤ _; omega)
  have r3 := FRR_s (k := 27) (v := nI (cd + j + 1)) r2 (by decide)
  have e14 : (up (up (up B 14 ((B 14).set (800 + (cd + j)) 9)) 15 ((B 15).set (800 + (cd + j)) 0)) 0 ((B 0).set 27 (nI (cd + j + 1)))) 14 = (B 14).set (800 + (cd + j)) 9 := rfl
  have e15 : (up (up (up B 14 ((B 14).set (800 + (cd + j)) 9)) 15 ((B 15).set (800 + (cd + j)) 0)) 0 ((B 0).set 27 (nI (cd + j + 1)))) 15 = (B 15).set (800 + (cd + j)) 0 := rfl
  refine ⟨up (up (up B 14 ((B 14).set (800 + (cd + j)) 9)) 15 ((B 15).set (800 + (cd + j)) 0)) 0 ((B 0).set 27 (nI (cd + j + 1))), fun K => bd_some (p_emits bl l14 l15 c2 hc 9 0), ⟨t1, t2, t3, r3, TR_congr t5 (fun k hk => by rw [up_same]; exact gd_set_ne (fun z => by subst z; exact absurd hk (by decide)))⟩, ⟨k1, k2, fun i x0 x14 x15 x16 => by rw [up_ne _ _ x0, up_ne _ _ x15, up_ne _ _ x14]; exact k3 i x0 x14 x15 x16, k4⟩, ⟨c1, by rw [up_same, gd_set_same (by omega)]; rfl, fun i hi => ?_, fun i hi => ?_, c5, c6⟩, by rw [up_same, gd_set_ne (by decide)]; exact q1, by rw [up_same, gd_set_ne (by decide)]; exact q2, q3⟩
  · rw [e14, e15, gd_set_ne (by omega), gd_set_ne (by omega)]
    exact c3 i hi
  · rw [e14]
    by_cases z : i = j
    · subst z
      exact gd_set_same (by omega)
    · rw [gd_set_ne (by omega)]
      exact c4 i (by omega)
