/-! PURE: text, a law: what is compared; what waits -/
def cCmJ (a17 : Int32) : MM Int32 :=
  (if a17 = ((-1)) then
  bd (lf rh16 2 (gX7_refuse 1)) fun r21 =>
  rz r21
  else
  bd (lf rh16 2 gX7_next) fun r18 =>
  bd gX3_readSum fun r19 =>
  (if r19 = 0 then
  rz 0
  else
  bd (lf rh17 7 (gX2_put a17)) fun r20 =>
  rz 1))
def cCm : MM Int32 :=
  bd gX3_readSum fun r14 =>
  (if r14 = 0 then
  rz 0
  else
  bd (ld 8 2) fun v15 =>
  (if v15 = 60 then
  cCmJ 10014
  else
  bd (ld 8 2) fun v22 =>
  (if v22 = 61 then
  cCmJ 10015
  else
  bd (ld 8 2) fun v23 =>
  (if v23 = 62 then
  cCmJ 10016
  else
  cCmJ ((-1))))))
def rCmE (a7 : Int32) : MM Int32 :=
  bd gX11_reads fun r8 =>
  bd gX11_readSum fun r9 =>
  (if r9 = ((-1)) then
  pr ((-1))
  else
  bd (gX11_emits a7 0) fun r10 =>
  pr 0)
def rCmJ : MM Int32 :=
  bd (ld 0 17) fun v5 =>
  (if v5 = 60 then
  rCmE 6
  else
  bd (ld 0 17) fun v11 =>
  (if v11 = 61 then
  rCmE 7
  else
  rCmE 8))
theorem lrc_eq : gX11_readCompared = bd gX11_readSum fun r1 =>
  (if r1 = ((-1)) then
  pr ((-1))
  else
  bd (gX11_isSign 60) fun r2 =>
  (if r2 = 0 then
  bd (gX11_isSign 61) fun r12 =>
  (if r12 = 0 then
  bd (gX11_isSign 62) fun r13 =>
  (if r13 = 0 then
  bd (gX11_errs 1) fun r14 =>
  pr r14
  else
  rCmJ)
  else
  rCmJ)
  else
  rCmJ)) := rfl
theorem tcs_cmp {x y : Nat} (hx : x ≠ 1) (hy : y ≠ 1) (s : List Nat) : tcs 10014 (x :: y :: s) = some (1 :: s) ∧ tcs 10015 (x :: y :: s) = some (1 :: s) ∧ tcs 10016 (x :: y :: s) = some (1 :: s) := by
  refine ⟨?_, ?_, ?_⟩ <;>
  · show (if x ≠ 1 ∧ y ≠ 1 then some (1 :: s) else none) = _
    rw [if_pos ⟨hx, hy⟩]
def PB (ts : Nat → Nat) (n : Nat) (U0 B0 Ub Bb : Bk) (a p lo : Nat) (s : List Nat) (o : Nat) (st : List Nat) (r : Int32) (U' : Bk) (r' : Int32) (B' : Bk) : Prop := (r = 0 ∧ r' = -1 ∧ WF U0 U' B0 B') ∨ (r = 1 ∧ r' = 0 ∧ ∃ (t' : Tok) (cd' : Nat), WS ts n U0 B0 Ub Bb a U' B' t' 0 cd' (1 :: s) o st ∧ cd' + p ≤ t'.2.2.1 ∧ lo ≤ t'.2.2.1)
set_option maxHeartbeats 400000 in
theorem w_cmpE {ts : Nat → Nat} {n a p o cd y : Nat} {U0 B0 Ub Bb U B : Bk} {s st : List Nat} {t : Tok} {c : Int32} {q : Int32} (hE : WE ts n U0 B0) (h : WS ts n U0 B0 Ub Bb a U B t 0 cd (y :: s) o st) (hp : cd + p ≤ t.2.2.1) (hk : t.1 ≠ 0) (hy : y ≠ 1) (hc : ¬ c = -1) (hr : RCode c q 0) (htc : ∀ x, x ≠ 1 → tcs c (x :: y :: s) = some (1 :: s)) : J2 (cCmJ c U) (rCmE q B) (PB ts n U0 B0 Ub Bb a p (t.2.2.1 + 1) s o st) := by
  obtain ⟨U1, B1, g1, f1, w1, q1, q2, q3⟩ := wt_next hE h.1
  have h1 := WS_tok h w1 q1 q2 q3
  have hst := ((TK_nx hE.1 h.1.1).2.1 hk).1
  obtain ⟨r, U2, r', B2, g2, f2, hP⟩ := w_sum (p := p + 1) hE h1 (by omega)
  unfold cCmJ rCmE
  rw [if_neg hc, g1, f1, bd_some g2, bd_some f2]
  rcases hP with ⟨rfl, rfl, fl⟩ | ⟨rfl, rfl, t2, cd2, y2, hy2, h2, hp2, hlo⟩
  · rw [if_pos rfl, if_pos rfl]
    exact ⟨_, _, _, _, rfl, rfl, Or.inl ⟨rfl, rfl, fl⟩⟩
  · obtain ⟨-, -, -, -, -, tn, n4⟩ := w_ck hE h2.1
    obtain ⟨U3, B3, g3, f3, h3⟩ := w_put hE h2 (c := c) (p := q) (q := 0) (by omega) hr (htc y2 hy2)
    rw [if_neg (by decide), if_neg (by decide), g3, f3]
    exact ⟨_, _, _, _, rfl, rfl, Or.inr ⟨rfl, rfl, t2, cd2 + 1, h3, by omega, by omega⟩⟩
set_option maxHeartbeats 400000 in
theorem w_cmp {ts : Nat → Nat} {n a p o cd : Nat} {U0 B0 Ub Bb U B : Bk} {s st : List Nat} {t : Tok} (hE : WE ts n U0 B0) (h : WS ts n U0 B0 Ub Bb a U B t 0 cd s o st) (hp : cd + p ≤ t.2.2.1) : J2 (cCm U) (gX11_readCompared B) (PB ts n U0 B0 Ub Bb a p (t.2.2.1 + 1) s o st) := by
  rw [lrc_eq]
  unfold cCm
  obtain ⟨r, U1, r', B1, g1, f1, hP⟩ := w_sum (p := p) hE h hp
  rw [bd_some g1, bd_some f1]
  have k10 : ¬ nI 1 = (0 : Int32) := by decide
  have k00 : nI 0 = (0 : Int32) := rfl
  rcases hP with ⟨rfl, rfl, fl⟩ | ⟨rfl, rfl, t1, cd1, y1, hy1, h1, hp1, hlo⟩
  · rw [if_pos rfl, if_pos rfl]
    exact ⟨_, _, _, _, rfl, rfl, Or.inl ⟨rfl, rfl, fl⟩⟩
  · obtain ⟨l8, e2, hlt, bl, t4, tn, n4⟩ := w_ck hE h1.1
    have tr6 := h1.1.2.2.2.2.2.2.2.2.2
    have s60 := fun {β : Type} (K : Int32 → MM β) => w_isS (c := 60) hE h1.1 (by decide) K
    have s61 := fun {β : Type} (K : Int32 → MM β) => w_isS (c := 61) hE h1.1 (by decide) K
    have s62 := fun {β : Type} (K : Int32 → MM β) => w_isS (c := 62) hE h1.1 (by decide) K
    have x60 := w_sN (c := 60) hE h1.1 (by decide)
    have x61 := w_sN (c := 61) hE h1.1 (by decide)
    have x62 := w_sN (c := 62) hE h1.1 (by decide)
    have lo : ∀ {r V r' C}, PB ts n U0 B0 Ub Bb a p (t1.2.2.1 + 1) s o st r V r' C → PB ts n U0 B0 Ub Bb a p (t.2.2.1 + 1) s o st r V r' C := by
      intro r V r' C hh
      rcases hh with hh | ⟨z1, z2, t', cd', z3, z4, z5⟩
      · exact Or.inl hh
      · exact Or.inr ⟨z1, z2, t', cd', z3, z4, by omega⟩
    rw [if_neg (by decide), if_neg (by decide), bd_ld _ (by omega), e2, show (60 : Int32) = nI 60 from rfl, s60, show (61 : Int32) = nI 61 from rfl, show (62 : Int32) = nI 62 from rfl]
    by_cases c60 : t1.1 = 4 ∧ t1.2.1 = 60
    · rw [if_pos (x60.mpr c60), b2i_t c60, if_neg k10]
      unfold rCmJ
      rw [bd_ld _ (by omega), tr6 c60.1, c60.2, if_pos (show nI 60 = (60 : Int32) from rfl)]
      obtain ⟨r, V, r', C, e1, e2, hP⟩ := w_cmpE (c := 10014) (q := 6) hE h1 hp1 (by omega) hy1 (by decide) (Or.inr (Or.inr (Or.inr (Or.inr (Or.inr (Or.inr (Or.inl ⟨rfl, rfl⟩))))))) (fun x hx => (tcs_cmp hx hy1 s).1)
      exact ⟨r, V, r', C, e1, e2, lo hP⟩
    · rw [if_neg (fun z => c60 (x60.mp z)), b2i_f c60, if_pos k00, bd_ld _ (by omega), e2, s61]
      by_cases c61 : t1.1 = 4 ∧ t1.2.1 = 61
      · rw [if_pos (x61.mpr c61), b2i_t c61, if_neg k10]
        unfold rCmJ
        rw [bd_ld _ (by omega), tr6 c61.1, c61.2, if_neg (show ¬ nI 61 = (60 : Int32) by decide), bd_ld _ (by omega), tr6 c61.1, c61.2, if_pos (show nI 61 = (61 : Int32) from rfl)]
        obtain ⟨r, V, r', C, e1, e2, hP⟩ := w_cmpE (c := 10015) (q := 7) hE h1 hp1 (by omega) hy1 (by decide) (Or.inr (Or.inr (Or.inr (Or.inr (Or.inr (Or.inr (Or.inr (Or.inl ⟨rfl, rfl⟩)))))))) (fun x hx => (tcs_cmp hx hy1 s).2.1)
        exact ⟨r, V, r', C, e1, e2, lo hP⟩
      · rw [if_neg (fun z => c61 (x61.mp z)), b2i_f c61, if_pos k00, bd_ld _ (by omega), e2, s62]
        by_cases c62 : t1.1 = 4 ∧ t1.2.1 = 62
        · rw [if_pos (x62.mpr c62), b2i_t c62, if_neg k10]
          unfold rCmJ
          rw [bd_ld _ (by omega), tr6 c62.1, c62.2, if_neg (show ¬ nI 62 = (60 : Int32) by decide), bd_ld _ (by omega), tr6 c62.1, c62.2, if_neg (show ¬ nI 62 = (61 : Int32) by decide)]
          obtain ⟨r, V, r', C, e1, e2, hP⟩ := w_cmpE (c := 10016) (q := 8) hE h1 hp1 (by omega) hy1 (by decide) (Or.inr (Or.inr (Or.inr (Or.inr (Or.inr (Or.inr (Or.inr (Or.inr (Or.inl ⟨rfl, rfl⟩))))))))) (fun x hx => (tcs_cmp hx hy1 s).2.2)
          exact ⟨r, V, r', C, e1, e2, lo hP⟩
        · obtain ⟨U2, B2, g2, f2, fl⟩ := wt_refuse hE h1.1 1
          have g2' : ∀ {β : Type} (K : Int32 → MM β), bd (lf rh16 2 (gX7_refuse 1)) K U1 = K 0 U2 := fun K => g2 K
          have f2' : ∀ {β : Type} (K : Int32 → MM β), bd (gX11_errs 1) K B1 = K (-1) B2 := fun K => f2 K
          rw [if_neg (fun z => c62 (x62.mp z)), b2i_f c62, if_pos k00, f2']
          unfold cCmJ
          rw [if_pos rfl, g2']
          exact ⟨_, _, _, _, rfl, rfl, Or.inl ⟨rfl, rfl, fl⟩⟩
theorem l_end : ∀ l : List Nat, l = [] ∨ ∃ P z, l = P ++ [z]
  | [] => Or.inl rfl
  | x :: l => Or.inr (match l_end l with
    | Or.inl h => ⟨[], x, by rw [h]; rfl⟩
    | Or.inr ⟨P, z, h⟩ => ⟨x :: P, z, by rw [h]; rfl⟩)
/-- x does not wait on top -/
def NE (x : Nat) (st : List Nat) : Prop := ∀ P, st ≠ P ++ [x]
theorem NE_nil (x : Nat) : NE x [] := fun P h => by
  have := congrArg List.length h
  simp at this
theorem NE_end {x z : Nat} (h : z ≠ x) (P : List Nat) : NE x (P ++ [z]) := fun Q e => by
  have := (List.append_inj' e rfl).2
  exact h (List.cons.inj this).1
theorem gd_end (P : List Nat) (z : Nat) : (P ++ [z]).getD P.length 0 = z := by simp [List.getD_eq_getElem?_getD]
theorem gd_front (P : List Nat) (z i : Nat) (h : i < P.length) : (P ++ [z]).getD i 0 = P.getD i 0 := by simp [List.getD_eq_getElem?_getD, List.getElem?_append_left h]
theorem ln_end (P : List Nat) (z : Nat) : (P ++ [z]).length = P.length + 1 := by simp
set_option maxHeartbeats 400000 in
theorem WS_q {ts : Nat → Nat} {n a j cd o o' : Nat} {U0 B0 Ub Bb U B B' : Bk} {t : Tok} {s st st' : List Nat} (h : WS ts n U0 B0 Ub Bb a U B t j cd s o st) (hf : FRR B0 B') (e0 : ∀ k, k ≠ 28 → k ≠ 30 → (B' 0).getD k 0 = (B 0).getD k 0) (ec : ∀ c, c ≠ 0 → c ≠ 16 → B' c = B c) (hq : WQ B' o' st') : WS ts n U0 B0 Ub Bb a U B' t j cd s o' st' := by
  obtain ⟨⟨t1, t2, t3, t4, t5⟩, ⟨k1, k2, k3, k4⟩, ⟨c1, c2, c3, c4, c5, c6⟩, q⟩ := h
  refine ⟨⟨t1, t2, t3, hf, TR_congr t5 (fun k hk => e0 k (fun z => by subst z; exact absurd hk (by decide)) (fun z => by subst z; exact absurd hk (by decide)))⟩, ⟨k1, k2, fun c x0 x14 x15 x16 => by rw [ec c x0 x16]; exact k3 c x0 x14 x15 x16, k4⟩, ⟨c1, by rw [e0 27 (by decide) (by decide)]; exact c2, ?_, ?_, c5, c6⟩, hq⟩
  · rw [ec 14 (by decide) (by decide), ec 15 (by decide) (by decide)]; exact c3
  · rw [ec 14 (by decide) (by decide)]; exact c4
set_option maxHeartbeats 400000 in
theorem w_waits {ts : Nat → Nat} {n a j cd o : Nat} {U0 B0 Ub Bb U B : Bk} {t : Tok} {s st : List Nat} (hE : WE ts n U0 B0) (h : WS ts n U0 B0 Ub Bb a U B t j cd s o st) (hl : st.length < 40) (x : Nat) : ∃ B', (∀ {β : Type} (K : Int32 → MM β), bd (gX11_waits (nI x)) K B = K 0 B') ∧ WS ts n U0 B0 Ub Bb a U B' t j cd s o (st ++ [x]) := by
  have l16 : (B 16).length = 40 := by rw [h.1.2.2.2.1.1 16]; exact hE.2.2.2.2.2.2.2.2.2.2
  have bl := FRR_len hE.2.2.1 h.1.2.2.2.1
  have m : 30 < (B 0).length := by omega
  obtain ⟨q1, q2, q3⟩ := h.2.2.2
  have r1 := FRR_c (c := 16) (i := st.length) (v := nI x) h.1.2.2.2.1 (by decide) (Nat.zero_le _)
  have r2 := FRR_s (k := 30) (v := nI (st.length + 1)) r1 (by decide)
  refine ⟨up (up B 16 ((B 16).set st.length (nI x))) 0 ((B 0).set 30 (nI (st.length + 1))), fun K => bd_some ?_, WS_q h r2 (fun k _ h30 => by rw [up_same]; exact gd_set_ne (fun z => h30 z.symm)) (fun c x0 x16 => by rw [up_ne _ _ x0, up_ne _ _ x16]) ⟨by rw [up_same, gd_set_ne (by decide)]; exact q1, by rw [up_same, gd_set_same m, ln_end], fun i hi => ?_⟩⟩
  · unfold gX11_waits
    rw [bd_ld _ m, q2, bd_sa _ (by omega) (by omega)]
    obtain ⟨C, hC⟩ : ∃ C, up B 16 ((B 16).set st.length (nI x)) = C := ⟨_, rfl⟩
    have c0 : C 0 = B 0 := by rw [← hC]; rfl
    rw [hC, bd_ld _ (by rw [c0]; exact m), c0, q2, nI_1, bd_sv _ (by rw [c0]; exact m), c0]; rfl
  · rw [ln_end] at hi
    rw [up_ne _ _ (by decide), up_same]
    by_cases z : i = st.length
    · subst z
      rw [gd_set_same (by omega), gd_end]
    · rw [gd_set_ne (by omega), gd_front _ _ _ (by omega)]
      exact q3 i (by omega)
set_option maxHeartbeats 400000 in
theorem w_open {ts : Nat → Nat} {n a j cd o : Nat} {U0 B0 Ub Bb U B : Bk} {t : Tok} {s st : List Nat} (hE : WE ts n U0 B0) (h : WS ts n U0 B0 Ub Bb a U B t j cd s o st) (o' : Nat) : WS ts n U0 B0 Ub Bb a U (up B 0 ((B 0).set 28 (nI o'))) t j cd s o' st := by
  have bl := FRR_len hE.2.2.1 h.1.2.2.2.1
  obtain ⟨q1, q2, q3⟩ := h.2.2.2
  exact WS_q h (FRR_s h.1.2.2.2.1 (by decide)) (fun k h28 _ => by rw [up_same]; exact gd_set_ne (fun z => h28 z.symm)) (fun c x0 _ => up_ne _ _ x0) ⟨by rw [up_same, gd_set_same (by omega)], by rw [up_same, gd_set_ne (by decide)]; exact q2, q3⟩
set_option maxHeartbeats 400000 in
theorem w_pop {ts : Nat → Nat} {n a j cd o x : Nat} {U0 B0 Ub Bb U B : Bk} {t : Tok} {s P : List Nat} (hE : WE ts n U0 B0) (h : WS ts n U0 B0 Ub Bb a U B t j cd s o (P ++ [x])) : WS ts n U0 B0 Ub Bb a U (up B 0 ((B 0).set 30 (nI P.length))) t j cd s o P := by
  have bl := FRR_len hE.2.2.1 h.1.2.2.2.1
  obtain ⟨q1, q2, q3⟩ := h.2.2.2
  refine WS_q h (FRR_s h.1.2.2.2.1 (by decide)) (fun k _ h30 => by rw [up_same]; exact gd_set_ne (fun z => h30 z.symm)) (fun c x0 _ => up_ne _ _ x0) ⟨by rw [up_same, gd_set_ne (by decide)]; exact q1, by rw [up_same, gd_set_same (by omega)], fun i hi => ?_⟩
  have := q3 i (by rw [ln_end]; omega)
  rw [gd_front _ _ _ hi] at this
  exact this
theorem nI_prd (k : Nat) : (nI (k + 1) - 1 : Int32) = nI k := nI_pred2 k
def seB (x1 : Int32) : (Unit → MM Int32) → Unit → MM Int32 := fun self1 _ =>
  bd (ld 0 30) fun v3 =>
  (if v3 ≤ 0 then
  pr 0
  else
  bd (ld 0 30) fun v6 =>
  bd (la 16 (v6 - 1)) fun v7 =>
  (if v7 = x1 then
  bd (ld 0 30) fun v8 =>
  bd (sv 0 30 (v8 - 1)) fun _ =>
  bd (gX11_emits x1 0) fun r9 =>
  (if x1 = 9 then
  bd (ld 0 28) fun v10 =>
  bd (sv 0 28 (v10 - 1)) fun _ =>
  self1 ()
  else
  self1 ())
  else
  pr 0))
theorem lse_eq (x : Int32) : gX11_settles x = loopC 100000 (seB x) () := rfl
set_option maxHeartbeats 400000 in
theorem se_no {ts : Nat → Nat} {n a j cd o x : Nat} {U0 B0 Ub Bb U B : Bk} {t : Tok} {s st : List Nat} (hE : WE ts n U0 B0) (h : WS ts n U0 B0 Ub Bb a U B t j cd s o st) (hx : x < 100) (h40 : st.length ≤ 40) (h100 : ∀ z ∈ st, z < 100) (hn : NE x st) (f : Unit → MM Int32) : seB (nI x) f () B = some (0, B) := by
  have l16 : (B 16).length = 40 := by rw [h.1.2.2.2.1.1 16]; exact hE.2.2.2.2.2.2.2.2.2.2
  have bl := FRR_len hE.2.2.1 h.1.2.2.2.1
  obtain ⟨q1, q2, q3⟩ := h.2.2.2
  unfold seB
  rw [bd_ld _ (by omega), q2]
  rcases l_end st with rfl | ⟨P, z, rfl⟩
  · rw [if_pos (show nI (List.length ([] : List Nat)) ≤ (0 : Int32) by decide)]; rfl
  · rw [ln_end] at h40 ⊢
    have hz : z < 100 := h100 z (by simp)
    have q := q3 P.length (by rw [ln_end]; omega)
    rw [gd_end] at q
    rw [if_neg (show ¬ nI (P.length + 1) ≤ (0 : Int32) from fun w => by have := (nI_leI (b := 0) (by omega) (by omega)).mp w; omega), bd_ld _ (by omega), q2, ln_end, nI_prd, bd_la _ (by omega) (by omega), q, if_neg (fun w => hn P (by rw [(nI_eq (by omega) (by omega)).mp w]))]; rfl
set_option maxHeartbeats 400000 in
theorem se_yes {ts : Nat → Nat} {n a j cd o x : Nat} {U0 B0 Ub Bb U B : Bk} {t : Tok} {s P : List Nat} (hE : WE ts n U0 B0) (h : WS ts n U0 B0 Ub Bb a U B t j cd s o (P ++ [x])) (h40 : P.length < 40) (f : Unit → MM Int32) : seB (nI x) f () B = (bd (gX11_emits (nI x) 0) fun _ => (if nI x = 9 then bd (ld 0 28) fun v10 => bd (sv 0 28 (v10 - 1)) fun _ => f () else f ())) (up B 0 ((B 0).set 30 (nI P.length))) := by
  have l16 : (B 16).length = 40 := by rw [h.1.2.2.2.1.1 16]; exact hE.2.2.2.2.2.2.2.2.2.2
  have bl := FRR_len hE.2.2.1 h.1.2.2.2.1
  obtain ⟨q1, q2, q3⟩ := h.2.2.2
  have q := q3 P.length (by rw [ln_end]; omega)
  rw [gd_end] at q
  rw [ln_end] at q2
  unfold seB
  rw [bd_ld _ (by omega), q2, if_neg (show ¬ nI (P.length + 1) ≤ (0 : Int32) from fun w => by have := (nI_leI (b := 0) (by omega) (by omega)).mp w; omega), bd_ld _ (by omega), q2, nI_prd, bd_la _ (by omega) (by omega), q, if_pos rfl, bd_ld _ (by omega), q2, nI_prd, bd_sv _ (by omega)]
