/-! PURE: text, a law: claims and conditions -/
def cOp (rc : Int32 → MM Int32) (rk : Int32 → MM Int32) (x2 v1 : Int32) : MM Int32 :=
  (if x2 < 8 then
  bd (lf rh16 2 gX7_next) fun r4 =>
  (if v1 = 40 then
  bd (rc (x2 + 1)) fun r7 =>
  (if r7 = 0 then
  rz 0
  else
  bd (lf rh16 2 (gX7_take 41)) fun r12 =>
  (if r12 = 0 then
  rz 0
  else
  rz 1))
  else
  bd (rk (x2 + 1)) fun r5 =>
  (if r5 = 0 then
  rz 0
  else
  bd (lf rh17 7 (gX2_put 10019)) fun r6 =>
  rz 1))
  else
  bd (lf rh16 2 (gX7_refuse 3)) fun r13 =>
  rz r13)
theorem lcl_eq (rc : Int32 → MM Int32) (rk : Int32 → MM Int32) (x2 : Int32) : bX3_readClaim rc rk x2 = bd (ld 8 2) fun v1 =>
  (if v1 = 319 then
  cOp rc rk x2 v1
  else
  (if v1 = 40 then
  cOp rc rk x2 v1
  else
  cCm)) := rfl
def cn10 (self1 : (Int32 × Int32 × Int32) → MM Int32) (s2 : Int32 × Int32 × Int32) (a8 a10 : Int32) : MM Int32 :=
  bd (lf rh16 2 gX7_next) fun r11 =>
  lt (s2.2.2 + 1) fun y12 =>
  self1 (a10, a8, y12)
def cn8 (self1 : (Int32 × Int32 × Int32) → MM Int32) (s2 : Int32 × Int32 × Int32) (a8 : Int32) : MM Int32 :=
  (if a8 = 0 then
  cAO 10018 s2.1 (fun _ => bd (ld 8 2) fun v15 =>
  (if v15 = 317 then
  cn10 self1 s2 a8 1
  else
  rz 1))
  else
  cn10 self1 s2 a8 s2.1)
def cnE (self1 : (Int32 × Int32 × Int32) → MM Int32) (s2 : Int32 × Int32 × Int32) : MM Int32 :=
  bd (ld 8 2) fun v6 =>
  (if v6 = 318 then
  cn8 self1 s2 1
  else
  cn8 self1 s2 0)
def cnB (rk : Int32 → MM Int32) (x2 : Int32) : ((Int32 × Int32 × Int32) → MM Int32) → (Int32 × Int32 × Int32) → MM Int32 := fun self1 s2 =>
  (if 400 ≤ s2.2.2 then
  rz 1
  else
  bd (rk x2) fun r3 =>
  (if r3 = 0 then
  rz 0
  else
  cAO 10017 s2.2.1 (fun _ => cnE self1 s2)))
theorem lcn_eq (rk : Int32 → MM Int32) (x2 : Int32) : bX3_readCondition rk x2 = loopC 100000 (cnB rk x2) (0, 0, 0) := rfl
def rTl (self1 : (Int32 × Int32) → MM Int32) (s2 : Int32 × Int32) : MM Int32 :=
  (if s2.1 = 0 then
  pr 0
  else
  bd (gX11_isSign 41) fun r7 =>
  (if r7 = 0 then
  bd (gX11_errs 1) fun r13 =>
  pr r13
  else
  bd (ld 0 30) fun v8 =>
  bd (sv 0 30 (v8 - 1)) fun _ =>
  lt (s2.1 - 1) fun y9 =>
  bd (ld 0 28) fun v10 =>
  bd (sv 0 28 (v10 - 1)) fun _ =>
  bd (gX11_settles 9) fun r11 =>
  bd gX11_reads fun r12 =>
  self1 (y9, s2.2)))
def rDone (self1 : (Int32 × Int32) → MM Int32) (s2 : Int32 × Int32) : MM Int32 :=
  bd (gX11_isWord 5) fun r3 =>
  (if r3 = 0 then
  bd (gX11_isWord 4) fun r4 =>
  (if r4 = 0 then
  bd (gX11_settles 10) fun r5 =>
  bd (gX11_settles 11) fun r6 =>
  rTl self1 s2
  else
  bd (gX11_settles 10) fun r14 =>
  bd (gX11_settles 11) fun r15 =>
  bd (gX11_waits 11) fun r16 =>
  bd gX11_reads fun r17 =>
  self1 (s2.1, 1))
  else
  bd (gX11_settles 10) fun r18 =>
  bd (gX11_waits 10) fun r19 =>
  bd gX11_reads fun r20 =>
  self1 (s2.1, 1))
def rO8 (self1 : (Int32 × Int32) → MM Int32) (s2 : Int32 × Int32) (a27 a29 : Int32) : MM Int32 :=
  bd (gX11_waits a29) fun r30 =>
  bd gX11_reads fun r31 =>
  self1 (a27, s2.2)
def rO6 (self1 : (Int32 × Int32) → MM Int32) (s2 : Int32 × Int32) (r21 a27 : Int32) : MM Int32 :=
  (if r21 = 0 then
  rO8 self1 s2 a27 12
  else
  rO8 self1 s2 a27 9)
def rOp (self1 : (Int32 × Int32) → MM Int32) (s2 : Int32 × Int32) (r21 : Int32) : MM Int32 :=
  bd (ld 0 28) fun v24 =>
  (if v24 = 8 then
  bd (gX11_errs 3) fun r33 =>
  pr r33
  else
  bd (ld 0 28) fun v25 =>
  bd (sv 0 28 (v25 + 1)) fun _ =>
  (if r21 = 0 then
  lt (s2.1 + 1) fun y32 =>
  rO6 self1 s2 r21 y32
  else
  rO6 self1 s2 r21 s2.1))
def rDue (self1 : (Int32 × Int32) → MM Int32) (s2 : Int32 × Int32) : MM Int32 :=
  bd (gX11_isWord 6) fun r21 =>
  (if r21 = 0 then
  bd (gX11_isSign 40) fun r34 =>
  (if r34 = 0 then
  bd gX11_readCompared fun r35 =>
  (if r35 = ((-1)) then
  pr ((-1))
  else
  bd (gX11_settles 9) fun r36 =>
  self1 (s2.1, 0))
  else
  rOp self1 s2 r21)
  else
  rOp self1 s2 r21)
def raB : ((Int32 × Int32) → MM Int32) → (Int32 × Int32) → MM Int32 := fun self1 s2 =>
  (if s2.2 = 0 then
  rDone self1 s2
  else
  rDue self1 s2)
theorem lra_eq : gX11_readAny = bd (sv 0 30 0) fun _ => loopC 100000 raB (0, 1) := rfl
theorem ra_due (self1 : (Int32 × Int32) → MM Int32) (x : Int32) : raB self1 (x, 1) = rDue self1 (x, 1) := if_neg (show ¬ (1 : Int32) = 0 by decide)
theorem ra_done (self1 : (Int32 × Int32) → MM Int32) (x : Int32) : raB self1 (x, 0) = rDone self1 (x, 0) := if_pos rfl
set_option maxHeartbeats 800000 in
theorem w_wN {ts : Nat → Nat} {n i : Nat} {U0 B0 U B : Bk} {t : Tok} (hE : WE ts n U0 B0) (h : WT ts n U0 U B0 B t) (hi : i < 22) : nI (ctk t) = nI (300 + i) ↔ (t.1 = 2 ∧ t.2.1 = i) := by
  rw [nI_eq (by have := ctk_lt hE.1 h.1; omega) (by omega)]
  exact ctk_word hE.1 h.1 hi
def FT (n : Nat) (U0 B0 : Bk) (g : Option (Int32 × Bk)) (L : Nat → Option (Int32 × Bk)) (st : Nat) : Prop := ∃ (U' B' : Bk) (k : Nat), g = some (0, U') ∧ k ≤ n - st + 1 ∧ (∀ N, L (N + k) = some (-1, B')) ∧ WF U0 U' B0 B'
def KS (ts : Nat → Nat) (n : Nat) (U0 B0 Ub Bb : Bk) (a o j b p : Nat) (s P : List Nat) (g : Option (Int32 × Bk)) (L : Nat → Option (Int32 × Bk)) (st : Nat) : Prop := ∃ (U' B' : Bk) (t' : Tok) (cd' k : Nat), g = some (1, U') ∧ (∀ N, L (N + k) = loopC N raB (nI b, 0) B') ∧ WS ts n U0 B0 Ub Bb a U' B' t' j cd' (1 :: s) (o - j) P ∧ cd' + p + j ≤ t'.2.2.1 ∧ st + k ≤ t'.2.2.1 ∧ 1 ≤ k
def CS (ts : Nat → Nat) (n : Nat) (U0 B0 Ub Bb : Bk) (a o b p : Nat) (s Q : List Nat) (g : Option (Int32 × Bk)) (L : Nat → Option (Int32 × Bk)) (st : Nat) : Prop := ∃ (U' B' : Bk) (t' : Tok) (cd' k : Nat), g = some (1, U') ∧ (∀ N, L (N + k) = rTl (loopC N raB) (nI b, 0) B') ∧ WS ts n U0 B0 Ub Bb a U' B' t' 0 cd' (1 :: s) o Q ∧ cd' + p ≤ t'.2.2.1 ∧ st + k ≤ t'.2.2.1 + 1 ∧ 1 ≤ k
def KST (ts : Nat → Nat) (n : Nat) (U0 B0 Ub Bb : Bk) (a f : Nat) : Prop := ∀ (o j b p cd : Nat) (U B : Bk) (t : Tok) (s P : List Nat), WS ts n U0 B0 Ub Bb a U B t 0 cd s o (nines P j) → NE 9 P → AL100 P → j ≤ o → o ≤ 8 → b ≤ o → 17 ≤ f + 2 * o → P.length + j ≤ 3 * o + 2 → cd + p + j ≤ t.2.2.1 → FT n U0 B0 ((gr_X3_readCondition f).2 (nI o) U) (fun M => loopC M raB (nI b, 1) B) t.2.2.1 ∨ KS ts n U0 B0 Ub Bb a o j b p s P ((gr_X3_readCondition f).2 (nI o) U) (fun M => loopC M raB (nI b, 1) B) t.2.2.1
def CST (ts : Nat → Nat) (n : Nat) (U0 B0 Ub Bb : Bk) (a f : Nat) : Prop := ∀ (o b p cd : Nat) (U B : Bk) (t : Tok) (s Q : List Nat), WS ts n U0 B0 Ub Bb a U B t 0 cd s o Q → NE 9 Q → NE 10 Q → NE 11 Q → AL100 Q → o ≤ 8 → b ≤ o → 18 ≤ f + 2 * o → Q.length ≤ 3 * o → cd + p ≤ t.2.2.1 → FT n U0 B0 ((gr_X3_readCondition f).1 (nI o) U) (fun M => loopC M raB (nI b, 1) B) t.2.2.1 ∨ CS ts n U0 B0 Ub Bb a o b p s Q ((gr_X3_readCondition f).1 (nI o) U) (fun M => loopC M raB (nI b, 1) B) t.2.2.1
set_option maxHeartbeats 800000 in
theorem K_step {ts : Nat → Nat} {n a f : Nat} {U0 B0 Ub Bb : Bk} (hE : WE ts n U0 B0) (hC : CST ts n U0 B0 Ub Bb a f) (hK : KST ts n U0 B0 Ub Bb a f) : KST ts n U0 B0 Ub Bb a (f + 1) := by
  intro o j b p cd U B t s P h hn h1 hj ho hb hf hl hp
  obtain ⟨l8, e2, hlt, bl, t4, tn, n4⟩ := w_ck hE h.1
  have q28 := h.2.2.2.1
  have s40 := fun {β : Type} (K : Int32 → MM β) => w_isS (c := 40) hE h.1 (by decide) K
  have x40 := w_sN (c := 40) hE h.1 (by decide)
  have i19 := fun {β : Type} (K : Int32 → MM β) => w_isW (i := 19) hE h.1 (by decide) K
  have x19 := w_wN (i := 19) hE h.1 (by decide)
  have k10 : ¬ nI 1 = (0 : Int32) := by decide
  have k00 : nI 0 = (0 : Int32) := rfl
  have lt8 : nI o < (8 : Int32) ↔ o < 8 := nI_ltI (b := 8) (by omega) (by omega)
  have eq8 : nI o = (8 : Int32) ↔ o = 8 := nI_eq (b := 8) (by omega) (by omega)
  have eg : (gr_X3_readCondition (f + 1)).2 (nI o) = bX3_readClaim (gr_X3_readCondition f).1 (gr_X3_readCondition f).2 (nI o) := rfl
  rw [eg, lcl_eq, bd_ld _ (by omega), e2]
  by_cases c19 : t.1 = 2 ∧ t.2.1 = 19
  · have nx := (TK_nx hE.1 h.1.1).2.1 (by omega)
    have n40 : ¬ nI (ctk t) = (40 : Int32) := fun z => by have := x40.mp z; omega
    rw [if_pos (show nI (ctk t) = 319 from x19.mpr c19)]
    by_cases c8 : o < 8
    · have w0 := w_open hE h (o + 1)
      obtain ⟨B1, f1, w1⟩ := w_waits hE w0 (by rw [nines_len]; omega) 9
      obtain ⟨U2, B2, g2, f2, wt, y1, y2, y3⟩ := wt_next hE w1.1
      have w2 : WS ts n U0 B0 Ub Bb a U2 B2 (nxT ts n t) 0 cd s (o + 1) (nines P (j + 1)) := WS_tok w1 wt y1 y2 y3
      have rN : ∀ self1 : (Int32 × Int32) → MM Int32, raB self1 (nI b, 1) B = self1 (nI b, 1) B2 := by
        intro self1
        rw [ra_due]
        unfold rDue
        rw [show (6 : Int32) = nI (rhoW 19) from rfl, i19, b2i_t c19, if_neg k10]
        unfold rOp
        rw [bd_ld _ (by omega), q28, if_neg (fun z => by have := eq8.mp z; omega), bd_ld _ (by omega), q28, nI_1, bd_sv _ (by omega), if_neg k10]
        unfold rO6
        rw [if_neg k10]
        unfold rO8
        rw [show (9 : Int32) = nI 9 from rfl, f1, f2]
      unfold cOp
      rw [if_pos (lt8.mpr c8), g2, if_neg n40, nI_1]
      rcases hK (o + 1) (j + 1) b p cd U2 B2 (nxT ts n t) s P w2 hn h1 (by omega) (by omega) (by omega) (by omega) (by omega) (by omega) with ⟨U', B', k, g3, hk, f3, fl⟩ | ⟨U', B', t', cd', k, g3, f3, w3, hp3, hk3, hk1⟩
      · refine Or.inl ⟨U', B', k + 1, ?_, by omega, fun N => ?_, fl⟩
        · rw [bd_some g3, if_pos rfl]; rfl
        · show loopC (N + k + 1) raB (nI b, 1) B = _
          rw [loopC_s, rN]
          exact f3 N
      · have w3' : WS ts n U0 B0 Ub Bb a U' B' t' (j + 1) cd' (1 :: s) (o - j) P := by
          rw [show o - j = o + 1 - (j + 1) by omega]; exact w3
        have tn' := (w_ck hE w3.1).2.2.2.2.2
        obtain ⟨U4, g4, w4⟩ := w_catch hE w3' (by omega) (show tcs 10019 (1 :: s) = some (1 :: s) from rfl)
        refine Or.inr ⟨U4, B', t', cd' + 1, k + 1, ?_, fun N => ?_, w4, by omega, by omega, by omega⟩
        · rw [bd_some g3, if_neg (by decide), g4]; rfl
        · show loopC (N + k + 1) raB (nI b, 1) B = _
          rw [loopC_s, rN]
          exact f3 N
    · obtain ⟨U2, B2, g2, f2, fl⟩ := wt_refuse hE h.1 3
      have g2' : ∀ {β : Type} (K : Int32 → MM β), bd (lf rh16 2 (gX7_refuse 3)) K U = K 0 U2 := fun K => g2 K
      have f2' : ∀ {β : Type} (K : Int32 → MM β), bd (gX11_errs 3) K B = K (-1) B2 := fun K => f2 K
      unfold cOp
      rw [if_neg (fun z => c8 (lt8.mp z)), g2']
      refine Or.inl ⟨U2, B2, 1, rfl, by omega, fun N => ?_, fl⟩
      show loopC (N + 1) raB (nI b, 1) B = _
      rw [loopC_s, ra_due]
      unfold rDue
      rw [show (6 : Int32) = nI (rhoW 19) from rfl, i19, b2i_t c19, if_neg k10]
      unfold rOp
      rw [bd_ld _ (by omega), q28, if_pos (eq8.mpr (by omega)), f2']
      rfl
  · rw [if_neg (show ¬ nI (ctk t) = 319 from fun z => c19 (x19.mp z))]
    by_cases c40 : t.1 = 4 ∧ t.2.1 = 40
    · have nx := (TK_nx hE.1 h.1.1).2.1 (by omega)
      have y40 : nI (ctk t) = (40 : Int32) := x40.mpr c40
      rw [if_pos y40]
      by_cases c8 : o < 8
      · have w0 := w_open hE h (o + 1)
        obtain ⟨B1, f1, w1⟩ := w_waits hE w0 (by rw [nines_len]; omega) 12
        obtain ⟨U2, B2, g2, f2, wt, y1, y2, y3⟩ := wt_next hE w1.1
        have w2 : WS ts n U0 B0 Ub Bb a U2 B2 (nxT ts n t) 0 cd s (o + 1) (nines P j ++ [12]) := WS_tok w1 wt y1 y2 y3
        have rN : ∀ self1 : (Int32 × Int32) → MM Int32, raB self1 (nI b, 1) B = self1 (nI (b + 1), 1) B2 := by
          intro self1
          rw [ra_due]
          unfold rDue
          rw [show (6 : Int32) = nI (rhoW 19) from rfl, i19, b2i_f c19, if_pos k00, show (40 : Int32) = nI 40 from rfl, s40, b2i_t c40, if_neg k10]
          unfold rOp
          rw [bd_ld _ (by omega), q28, if_neg (fun z => by have := eq8.mp z; omega), bd_ld _ (by omega), q28, nI_1, bd_sv _ (by omega), if_pos k00, lt_eq]
          unfold rO6
          rw [if_pos k00]
          unfold rO8
          dsimp only
          rw [show (12 : Int32) = nI 12 from rfl, f1, f2, nI_1]
        unfold cOp
        rw [if_pos (lt8.mpr c8), g2, if_pos y40, nI_1]
        have a12 : AL100 (nines P j ++ [12]) := AL_end (nines_AL' h1 j) (by decide)
        rcases hC (o + 1) (b + 1) (p + j) cd U2 B2 (nxT ts n t) s (nines P j ++ [12]) w2 (NE_end (by decide) _) (NE_end (by decide) _) (NE_end (by decide) _) a12 (by omega) (by omega) (by omega) (by rw [ln_end, nines_len]; omega) (by omega) with ⟨U', B', k, g3, hk, f3, fl⟩ | ⟨U', B', t', cd', k, g3, f3, w3, hp3, hk3, hk31⟩
        · refine Or.inl ⟨U', B', k + 1, ?_, by omega, fun N => ?_, fl⟩
          · rw [bd_some g3, if_pos rfl]; rfl
          · show loopC (N + k + 1) raB (nI b, 1) B = _
            rw [loopC_s, rN]
            exact f3 N
        · obtain ⟨l8', e2', hlt', bl', t4', tn', n4'⟩ := w_ck hE w3.1
          have s41 := fun {β : Type} (K : Int32 → MM β) => w_isS (c := 41) hE w3.1 (by decide) K
          have nb : ¬ nI (b + 1) = (0 : Int32) := fun z => by have := (nI_eq (b := 0) (by omega) (by omega)).mp z; omega
          by_cases c41 : t'.1 = 4 ∧ t'.2.1 = 41
          · have w4 := w_open hE (w_pop hE w3) o
            obtain ⟨B5, f5, w5⟩ := w_settle9 hE h1 hn w4 hj (by omega) (by omega)
            obtain ⟨U6, B6, g6, f6, wt6, y1, y2, y3⟩ := wt_sign (c := 41) hE w5.1 (by decide) c41
            have w6 := WS_tok w5 wt6 y1 y2 y3
            have nx' := (TK_nx hE.1 w3.1.1).2.1 (by omega)
            have g6' : ∀ {β : Type} (K : Int32 → MM β), bd (lf rh16 2 (gX7_take 41)) K U' = K 1 U6 := fun K => g6 K
            refine Or.inr ⟨U6, B6, nxT ts n t', cd', k + 1, ?_, fun N => ?_, w6, by omega, by omega, by omega⟩
            · rw [bd_some g3, if_neg (by decide), g6', if_neg (by decide)]; rfl
            · show loopC (N + k + 1) raB (nI b, 1) B = _
              rw [loopC_s, rN]
              refine (f3 N).trans ?_
              unfold rTl
              dsimp only
              have q30 := w3.2.2.2.2.1
              rw [ln_end] at q30
              rw [if_neg nb, show (41 : Int32) = nI 41 from rfl, s41, b2i_t c41, if_neg k10, bd_ld _ (by omega), q30, nI_prd, bd_sv _ (by omega), lt_eq, nI_prd]
              obtain ⟨C, hCC⟩ : ∃ C, up B' 0 ((B' 0).set 30 (nI (nines P j).length)) = C := ⟨_, rfl⟩
              rw [hCC] at f5
              have c28 : (C 0).getD 28 0 = nI (o + 1) := by rw [← hCC, up_same, gd_set_ne (by decide)]; exact w3.2.2.2.1
              have cl : 28 < (C 0).length := by rw [← hCC, up_same, List.length_set]; omega
              rw [hCC, bd_ld _ cl, c28, nI_prd, bd_sv _ cl, f5, f6]
          · obtain ⟨U4, B4, g4, f4, fl⟩ := wt_sign' (c := 41) hE w3.1 (by decide) c41
            have g4' : ∀ {β : Type} (K : Int32 → MM β), bd (lf rh16 2 (gX7_take 41)) K U' = K 0 U4 := fun K => g4 K
            refine Or.inl ⟨U4, B4, k + 1, ?_, by omega, fun N => ?_, fl⟩
            · rw [bd_some g3, if_neg (by decide), g4', if_pos rfl]; rfl
            · show loopC (N + k + 1) raB (nI b, 1) B = _
              rw [loopC_s, rN]
              refine (f3 N).trans ?_
              unfold rTl
              dsimp only
              rw [if_neg nb, show (41 : Int32) = nI 41 from rfl, s41, b2i_f c41, if_pos k00, f4]
              rfl
      · obtain ⟨U2, B2, g2, f2, fl⟩ := wt_refuse hE h.1 3
        have g2' : ∀ {β : Type} (K : Int32 → MM β), bd (lf rh16 2 (gX7_refuse 3)) K U = K 0 U2 := fun K => g2 K
        have f2' : ∀ {β : Type} (K : Int32 → MM β), bd (gX11_errs 3) K B = K (-1) B2 := fun K => f2 K
        unfold cOp
        rw [if_neg (fun z => c8 (lt8.mp z)), g2']
        refine Or.inl ⟨U2, B2, 1, rfl, by omega, fun N => ?_, fl⟩
        show loopC (N + 1) raB (nI b, 1) B = _
        rw [loopC_s, ra_due]
        unfold rDue
        rw [show (6 : Int32) = nI (rhoW 19) from rfl, i19, b2i_f c19, if_pos k00, show (40 : Int32) = nI 40 from rfl, s40, b2i_t c40, if_neg k10]
        unfold rOp
        rw [bd_ld _ (by omega), q28, if_pos (eq8.mpr (by omega)), f2']
        rfl
    · rw [if_neg (show ¬ nI (ctk t) = 40 from fun z => c40 (x40.mp z))]
      have rN : ∀ self1 : (Int32 × Int32) → MM Int32, raB self1 (nI b, 1) B = (bd gX11_readCompared fun r35 => (if r35 = ((-1)) then pr ((-1)) else bd (gX11_settles 9) fun r36 => self1 (nI b, 0))) B := by
        intro self1
        rw [ra_due]
        unfold rDue
        rw [show (6 : Int32) = nI (rhoW 19) from rfl, i19, b2i_f c19, if_pos k00, show (40 : Int32) = nI 40 from rfl, s40, b2i_f c40, if_pos k00]
      obtain ⟨r, U2, r', B2, g2, f2, hP⟩ := w_cmp (p := p + j) hE h (by omega)
      rcases hP with ⟨rfl, rfl, fl⟩ | ⟨rfl, rfl, t2, cd2, h2, hp2, hlo⟩
      · refine Or.inl ⟨U2, B2, 1, g2, by omega, fun N => ?_, fl⟩
        show loopC (N + 1) raB (nI b, 1) B = _
        rw [loopC_s, rN, bd_some f2, if_pos rfl]; rfl
      · have tn' := (w_ck hE h2.1).2.2.2.2.2
        obtain ⟨B5, f5, w5⟩ := w_settle9 hE h1 hn h2 hj (by omega) (by omega)
        refine Or.inr ⟨U2, B5, t2, cd2, 1, g2, fun N => ?_, w5, by omega, by omega, by omega⟩
        show loopC (N + 1) raB (nI b, 1) B = _
        rw [loopC_s, rN, bd_some f2, if_neg (by decide), f5]
