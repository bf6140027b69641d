/-! PURE: text, a law: a unit, a product -/
theorem tcs_num {v : Nat} (hv : v < 10000) (s : List Nat) : tcs (nI v) s = some ((if nI v = 0 then 0 else 2) :: s) := by
  have h : nI v < (10000 : Int32) := nI_lt (b := 10000) hv (by omega)
  unfold tcs
  dsimp only
  rw [if_pos h]
theorem tcs_ask : ∀ q, q < 9 → ∀ s, tcs (nI (10000 + q)) s = some (0 :: s) := by
  intro q hq s
  have h1 : ¬ nI (10000 + q) < (10000 : Int32) := nI_nlt (a := 10000 + q) (b := 10000) (by omega) (by omega)
  have h2 : nI (10000 + q) < (10010 : Int32) := nI_lt (b := 10010) (by omega) (by omega)
  unfold tcs
  dsimp only
  rw [if_neg h1, if_pos h2]
theorem tcs_mul {x y : Nat} (hx : x ≠ 1) (hy : y ≠ 1) (s : List Nat) : tcs 10012 (x :: y :: s) = some (0 :: s) := by
  show (if x ≠ 1 ∧ y ≠ 1 then some (0 :: s) else none) = _
  rw [if_pos ⟨hx, hy⟩]
theorem tcs_add {x y : Nat} (hx : x ≠ 1) (hy : y ≠ 1) (s : List Nat) : tcs 10010 (x :: y :: s) = some (0 :: s) := by
  show (if x ≠ 1 ∧ y ≠ 1 then some (0 :: s) else none) = _
  rw [if_pos ⟨hx, hy⟩]
theorem tcs_sub {x y : Nat} (hx : x ≠ 1) (hy : y ≠ 1) (s : List Nat) : tcs 10011 (x :: y :: s) = some (0 :: s) := by
  show (if x ≠ 1 ∧ y ≠ 1 then some (0 :: s) else none) = _
  rw [if_pos ⟨hx, hy⟩]
theorem tcs_div {y : Nat} (hy : y ≠ 1) (s : List Nat) : tcs 10013 (2 :: y :: s) = some (0 :: s) := by
  show (if 2 = 2 ∧ y ≠ 1 then some (0 :: s) else none) = _
  rw [if_pos ⟨rfl, hy⟩]
def cUn (K : Unit → MM Int32) : MM Int32 :=
  bd (ld 8 2) fun v5 =>
  (if v5 = 257 then
  bd (ld 8 3) fun v23 =>
  bd (lf rh17 7 (gX2_put v23)) fun r24 =>
  K ()
  else
  bd (ld 8 2) fun v18 =>
  bd (lf rh0 0 (gX10_isWithin v18 303 311)) fun r19 =>
  (if r19 = 0 then
  bd (lf rh16 2 (gX7_refuse 1)) fun r20 =>
  rz r20
  else
  bd (ld 8 2) fun v21 =>
  bd (lf rh17 7 (gX2_put ((10000 + v21) - 303))) fun r22 =>
  K ()))
def cPt (x : Int32) (K : Unit → MM Int32) : MM Int32 :=
  (if x = ((-1)) then
  K ()
  else
  bd (lf rh17 7 (gX2_put x)) fun r17 =>
  K ())
def cSg (k : Int32 → MM Int32) : MM Int32 :=
  bd (ld 8 2) fun v11 =>
  (if v11 = 42 then
  k 10012
  else
  bd (ld 8 2) fun v16 =>
  (if v16 = 47 then
  k 10013
  else
  k ((-1))))
def cCk (x : Int32) (K : Unit → MM Int32) : MM Int32 :=
  (if x = 10013 then
  bd (lf rh16 2 (gX7_isNumber 1 9999)) fun r25 =>
  (if r25 = 0 then
  rz 0
  else
  K ())
  else
  K ())
def pdK (self1 : (Int32 × Int32) → MM Int32) (i : Int32) : Int32 → MM Int32 := fun a13 =>
  (if a13 = ((-1)) then
  rz 1
  else
  bd (lf rh16 2 gX7_next) fun r14 =>
  lt (i + 1) fun y15 =>
  self1 (a13, y15))
def pdB : ((Int32 × Int32) → MM Int32) → (Int32 × Int32) → MM Int32 := fun self1 s2 =>
  (if 400 ≤ s2.2 then
  rz 1
  else
  cCk s2.1 (fun _ => cUn (fun _ => bd (lf rh16 2 gX7_next) fun r8 => cPt s2.1 (fun _ => cSg (pdK self1 s2.2)))))
theorem lpd_eq : gX3_readProduct = loopC 100000 pdB (((-1)), 0) := rfl
def ru8 (a7 a9 : Int32) : MM Int32 :=
  bd (gX11_emits a7 a9) fun r10 =>
  bd gX11_reads fun r11 =>
  pr 0
def ru6 (a3 a7 : Int32) : MM Int32 :=
  (if a3 = 0 then
  bd (ld 0 17) fun v12 =>
  ru8 a7 v12
  else
  bd (ld 0 17) fun v13 =>
  ru8 a7 (v13 - 7))
def ru4 (a3 : Int32) : MM Int32 :=
  (if a3 = 0 then
  ru6 a3 0
  else
  ru6 a3 1)
def ru (a3 : Int32) : MM Int32 :=
  (if a3 = 0 then
  bd (ld 0 16) fun v14 =>
  (if v14 = 3 then
  ru4 a3
  else
  bd (gX11_errs 1) fun r15 =>
  pr r15)
  else
  ru4 a3)
theorem ru_eq : gX11_readUnit = bd (ld 0 16) fun v1 =>
  (if v1 = 2 then
  bd (ld 0 17) fun v18 =>
  bd (gX11_canAsk v18) fun r19 =>
  (if r19 = 0 then
  ru 0
  else
  ru 1)
  else
  ru 0) := rfl
def rJe (self2 : Unit → MM Int32) (a15 : Int32) : MM Int32 :=
  bd (gX11_emits a15 0) fun r16 =>
  self2 ()
def rJ11 (self2 : Unit → MM Int32) (r7 : Int32) : MM Int32 :=
  bd gX11_readUnit fun r13 =>
  (if r13 = ((-1)) then
  pr ((-1))
  else
  (if r7 = 0 then
  rJe self2 5
  else
  rJe self2 4))
def rJ9 (self2 : Unit → MM Int32) (r7 : Int32) : MM Int32 :=
  (if r7 = 0 then
  bd (ld 0 17) fun v17 =>
  (if v17 = 0 then
  bd (gX11_errs 2) fun r18 =>
  pr r18
  else
  rJ11 self2 r7)
  else
  rJ11 self2 r7)
def rJ (self2 : Unit → MM Int32) : MM Int32 :=
  bd (gX11_isSign 42) fun r7 =>
  bd gX11_reads fun r8 =>
  (if r7 = 0 then
  bd (ld 0 16) fun v19 =>
  (if v19 = 3 then
  rJ9 self2 r7
  else
  bd (gX11_errs 1) fun r20 =>
  pr r20)
  else
  rJ9 self2 r7)
def rpB : (Unit → MM Int32) → Unit → MM Int32 := fun (self2 : Unit → MM Int32) (_ : Unit) =>
  bd (gX11_isSign 42) fun r4 =>
  (if r4 = 0 then
  bd (gX11_isSign 47) fun r21 =>
  (if r21 = 0 then
  pr 0
  else
  rJ self2)
  else
  rJ self2)
theorem lrp_eq : gX11_readProduct = bd gX11_readUnit fun r1 =>
  (if r1 = ((-1)) then
  pr ((-1))
  else
  loopC 100000 rpB ()) := rfl
set_option maxHeartbeats 400000 in
theorem p_canAsk (v : Int32) (B : Bk) : gX11_canAsk v B = some (b2i ((7 : Int32) ≤ v ∧ v ≤ 15), B) := by
  unfold gX11_canAsk
  rw [bd_in]
  by_cases h : (7 : Int32) ≤ v ∧ v ≤ 15
  · rw [b2i_t h]; rfl
  · rw [b2i_f h]; rfl
theorem ask_w : ∀ v, v < 22 → ((3 ≤ v ∧ v ≤ 11) ↔ (7 ≤ rhoW v ∧ rhoW v ≤ 15)) ∧ (3 ≤ v ∧ v ≤ 11 → rhoW v = v + 4) := by decide
set_option maxHeartbeats 400000 in
theorem w_unit {ts : Nat → Nat} {n a cd o : Nat} {U0 B0 Ub Bb U B : Bk} {t : Tok} {s st : List Nat} (hE : WE ts n U0 B0) (h : WS ts n U0 B0 Ub Bb a U B t 0 cd s o st) (hp : cd ≤ t.2.2.1) :
    (∃ U' B' y, (∀ K : MM Int32, cUn (fun _ => bd (lf rh16 2 gX7_next) fun _ => K) U = K U') ∧ gX11_readUnit B = some (0, B') ∧ y ≠ 1 ∧ (t.1 = 3 → t.2.1 ≠ 0 → y = 2) ∧ t.1 ≠ 0 ∧ WS ts n U0 B0 Ub Bb a U' B' (nxT ts n t) 0 (cd + 1) (y :: s) o st) ∨
    (∃ U' B', (∀ K : MM Int32, cUn (fun _ => bd (lf rh16 2 gX7_next) fun _ => K) U = some (0, U')) ∧ gX11_readUnit B = some (-1, B') ∧ WF U0 U' B0 B') := by
  have hE' := hE
  obtain ⟨hx, hy, hb, -⟩ := hE
  have hlt := ctk_lt hx h.1.1
  have l8 : (U 8).length = 8 := h.1.2.2.1.1
  have e2 : (U 8).getD 2 0 = nI (ctk t) := h.1.2.2.1.2.2.2.1
  have bl := FRR_len hb h.1.2.2.2.1
  obtain ⟨tr1, tr2, tr3, tr4, tr5, tr6⟩ := h.1.2.2.2.2
  have hk := TK_ok hx h.1.1
  have hnx := TK_nx hx h.1.1
  by_cases c3 : t.1 = 3
  · have v9 : t.2.1 ≤ 9999 := hk.2.2.2.2.2.2.1 c3
    have e3 : (U 8).getD 3 0 = nI t.2.1 := h.1.2.2.1.2.2.2.2.1 c3
    have hst := (hnx.2.1 (by omega)).2
    obtain ⟨U1, B1, g1, f1, w1⟩ := w_put hE' h (c := nI t.2.1) (p := 0) (q := nI t.2.1) (by have := hx.1; omega) (Or.inl ⟨t.2.1, by omega, rfl, rfl, rfl⟩) (tcs_num (by omega) s)
    obtain ⟨U2, B2, g2, f2, w2, q1, q2, q3⟩ := wt_next hE' w1.1
    refine Or.inl ⟨U2, B2, if nI t.2.1 = 0 then 0 else 2, fun K => ?_, ?_, ?_, fun _ hv => ?_, by omega, WS_tok w1 w2 q1 q2 q3⟩
    · unfold cUn
      rw [bd_ld _ (by omega), e2, (ctk_num hx h.1.1).mpr c3, if_pos (show nI 257 = (257 : Int32) from rfl), bd_ld _ (by omega), e3, g1]
      exact g2 (fun _ => K)
    · rw [ru_eq, bd_ld _ (by omega), tr3, c3, if_neg (show ¬ nI 3 = (2 : Int32) by decide)]
      unfold ru
      rw [if_pos rfl, bd_ld _ (by omega), tr3, c3, if_pos (show nI 3 = (3 : Int32) from rfl)]
      unfold ru4
      rw [if_pos rfl]
      unfold ru6
      rw [if_pos rfl, bd_ld _ (by omega), tr5 c3]
      unfold ru8
      rw [f1, f2]; rfl
    · by_cases z : nI t.2.1 = 0
      · rw [if_pos z]; decide
      · rw [if_neg z]; decide
    · rw [if_neg (show ¬ nI t.2.1 = (0 : Int32) from fun z => hv ((nI_eq (b := 0) (by omega) (by omega)).mp z))]
  · have ne : ¬ nI (ctk t) = (257 : Int32) := fun z => c3 ((ctk_num hx h.1.1).mp ((nI_eq (b := 257) (by omega) (by omega)).mp z))
    have hrng : ((303 : Int32) ≤ nI (ctk t) ∧ nI (ctk t) ≤ 311) ↔ (t.1 = 2 ∧ 3 ≤ t.2.1 ∧ t.2.1 ≤ 11) := ctk_rng (a := 3) (b := 11) hx h.1.1 (by decide) (by decide)
    have n3 : ¬ nI t.1 = (3 : Int32) := fun z => c3 ((nI_eq (b := 3) (by omega) (by omega)).mp z)
    by_cases cD : t.1 = 2 ∧ 3 ≤ t.2.1 ∧ t.2.1 ≤ 11
    · obtain ⟨q, hq⟩ : ∃ q, t.2.1 = q + 3 := ⟨t.2.1 - 3, by omega⟩
      have hv22 : t.2.1 < 22 := hk.2.2.2.2.2.1 cD.1
      have hrho : rhoW t.2.1 = q + 7 := by rw [(ask_w _ hv22).2 ⟨cD.2.1, cD.2.2⟩, hq]
      have ectk : ctk t = 303 + q := by rw [(ctk_word (i := t.2.1) hx h.1.1 hv22).mpr ⟨cD.1, rfl⟩, hq]; omega
      have hst := (hnx.2.1 (by omega)).2
      obtain ⟨U1, B1, g1, f1, w1⟩ := w_put hE' h (c := nI (10000 + q)) (p := 1) (q := nI q) (by have := hx.1; omega) (Or.inr (Or.inl ⟨q, by omega, rfl, rfl, rfl⟩)) (tcs_ask q (by omega) s)
      obtain ⟨U2, B2, g2, f2, w2, q1, q2, q3⟩ := wt_next hE' w1.1
      have y1 : (10000 + nI (ctk t) - 303 : Int32) = nI (10000 + q) := by
        rw [ectk]
        show nI 10000 + nI (303 + q) - nI 303 = _
        rw [nI_add, pk_sub (by omega), show 10000 + (303 + q) - 303 = 10000 + q by omega]
      have y2 : (nI (rhoW t.2.1) - 7 : Int32) = nI q := by
        rw [hrho]
        show nI (q + 7) - nI 7 = _
        rw [pk_sub (by omega), show q + 7 - 7 = q by omega]
      have i7 : (7 : Int32) ≤ nI (rhoW t.2.1) ∧ nI (rhoW t.2.1) ≤ 15 := by
        rw [hrho]
        exact ⟨(nI_leI (a := 7) (by omega) (by omega)).mpr (by omega), (nI_leI (b := 15) (by omega) (by omega)).mpr (by omega)⟩
      refine Or.inl ⟨U2, B2, 0, fun K => ?_, ?_, by decide, fun z => absurd z c3, by omega, WS_tok w1 w2 q1 q2 q3⟩
      · unfold cUn
        rw [bd_ld _ (by omega), e2, if_neg ne, bd_ld _ (by omega), e2, bd_iw, b2i_t (hrng.mpr cD), if_neg (show ¬ nI 1 = (0 : Int32) by decide), bd_ld _ (by omega), e2, y1, g1]
        exact g2 (fun _ => K)
      · rw [ru_eq, bd_ld _ (by omega), tr3, cD.1, if_pos (show nI 2 = (2 : Int32) from rfl), bd_ld _ (by omega), tr4 cD.1, bd_some (p_canAsk _ _), b2i_t i7, if_neg (show ¬ nI 1 = (0 : Int32) by decide)]
        unfold ru
        rw [if_neg (by decide)]
        unfold ru4
        rw [if_neg (by decide)]
        unfold ru6
        rw [if_neg (by decide), bd_ld _ (by omega), tr4 cD.1, y2]
        unfold ru8
        rw [f1, f2]; rfl
    · obtain ⟨U1, B1, g1, f1, fl⟩ := wt_refuse hE' h.1 1
      have g1' : ∀ {β : Type} (K : Int32 → MM β), bd (lf rh16 2 (gX7_refuse 1)) K U = K 0 U1 := fun K => g1 K
      have f1' : ∀ {β : Type} (K : Int32 → MM β), bd (gX11_errs 1) K B = K (-1) B1 := fun K => f1 K
      have fin : ru 0 B = some (-1, B1) := by
        unfold ru
        rw [if_pos rfl, bd_ld _ (by omega), tr3, if_neg n3, f1']; rfl
      refine Or.inr ⟨U1, B1, fun K => ?_, ?_, fl⟩
      · unfold cUn
        rw [bd_ld _ (by omega), e2, if_neg ne, bd_ld _ (by omega), e2, bd_iw, b2i_f (fun z => cD (hrng.mp z)), if_pos (show nI 0 = (0 : Int32) from rfl), g1']; rfl
      · rw [ru_eq, bd_ld _ (by omega), tr3]
        by_cases c2 : t.1 = 2
        · have hv22 : t.2.1 < 22 := hk.2.2.2.2.2.1 c2
          have hr22 := (rho_t _ hv22).1
          have no7 : ¬ ((7 : Int32) ≤ nI (rhoW t.2.1) ∧ nI (rhoW t.2.1) ≤ 15) := fun z => cD ⟨c2, ((ask_w _ hv22).1).mpr ⟨(nI_leI (a := 7) (by omega) (by omega)).mp z.1, (nI_leI (b := 15) (by omega) (by omega)).mp z.2⟩⟩
          rw [if_pos (show nI t.1 = (2 : Int32) by rw [c2]; rfl), bd_ld _ (by omega), tr4 c2, bd_some (p_canAsk _ _), b2i_f no7, if_pos (show nI 0 = (0 : Int32) from rfl)]
          exact fin
        · rw [if_neg (show ¬ nI t.1 = (2 : Int32) from fun z => c2 ((nI_eq (b := 2) (by omega) (by omega)).mp z))]
          exact fin
