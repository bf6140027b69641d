/-! PURE: text, a law: conditions -/
theorem kS_NE {Q : List Nat} {z : Nat} (hn : NE z Q) (h10 : z ≠ 10) (h11 : z ≠ 11) (hO hA : Bool) : NE z (kS Q hO hA) := by
  cases hA
  · cases hO
    · exact hn
    · exact NE_end (fun q => h11 q.symm) Q
  · cases hO
    · exact NE_end (fun q => h10 q.symm) Q
    · exact NE_end (fun q => h10 q.symm) (Q ++ [11])
theorem kS_AL {Q : List Nat} (h : AL100 Q) (hO hA : Bool) : AL100 (kS Q hO hA) := by
  cases hA
  · cases hO
    · exact h
    · exact AL_end h (by decide)
  · cases hO
    · exact AL_end h (by decide)
    · exact AL_end (AL_end h (by decide)) (by decide)
theorem kS_len (Q : List Nat) (hO hA : Bool) : (kS Q hO hA).length ≤ Q.length + 2 := by
  cases hA
  · cases hO
    · exact Nat.le_add_right _ _
    · show (Q ++ [11]).length ≤ _
      rw [ln_end]; omega
  · cases hO
    · show (Q ++ [10]).length ≤ _
      rw [ln_end]; omega
    · show ((Q ++ [11]) ++ [10]).length ≤ _
      rw [ln_end, ln_end]; omega
set_option maxHeartbeats 800000 in
theorem C_loop {ts : Nat → Nat} {n a f o b p : Nat} {U0 B0 Ub Bb : Bk} {s Q : List Nat} (hE : WE ts n U0 B0) (hK : KST ts n U0 B0 Ub Bb a f) (n9 : NE 9 Q) (n10 : NE 10 Q) (n11 : NE 11 Q) (h1 : AL100 Q) (ho : o ≤ 8) (hb : b ≤ o) (hf : 17 ≤ f + 2 * o) (hl : Q.length ≤ 3 * o) : ∀ M {U B : Bk} {t : Tok} {cd i : Nat} {hO hA : Bool}, WS ts n U0 B0 Ub Bb a U B t 0 cd (yF (yF s hO) hA) o (kS Q hO hA) → cd + p + hO.toNat + hA.toNat ≤ t.2.2.1 → 2 * i ≤ t.2.2.1 → n - t.2.2.1 < M → FT n U0 B0 (loopC M (cnB (gr_X3_readCondition f).2 (nI o)) (b2n hO, b2n hA, nI i) U) (fun M => loopC M raB (nI b, 1) B) t.2.2.1 ∨ CS ts n U0 B0 Ub Bb a o b p s Q (loopC M (cnB (gr_X3_readCondition f).2 (nI o)) (b2n hO, b2n hA, nI i) U) (fun M => loopC M raB (nI b, 1) B) t.2.2.1 := by
  intro M
  induction M with
  | zero => intro U B t cd i hO hA h hp hi hM; omega
  | succ M ih =>
    intro U B t cd i hO hA h hp hi hM
    obtain ⟨l8, e2, hlt, bl, t4, tn, n4⟩ := w_ck hE h.1
    have k10 : ¬ nI 1 = (0 : Int32) := by decide
    have k00 : nI 0 = (0 : Int32) := rfl
    have kl := kS_len Q hO hA
    have ige : ¬ (400 : Int32) ≤ nI i := nI_ge (b := 400) (by omega) (by omega)
    have eU : loopC (M + 1) (cnB (gr_X3_readCondition f).2 (nI o)) (b2n hO, b2n hA, nI i) U = (bd ((gr_X3_readCondition f).2 (nI o)) fun r3 => (if r3 = 0 then rz 0 else cAO 10017 (b2n hA) (fun _ => cnE (loopC M (cnB (gr_X3_readCondition f).2 (nI o))) (b2n hO, b2n hA, nI i)))) U := by
      rw [loopC_s]
      exact congrFun (if_neg ige) U
    rcases hK o 0 b (p + hO.toNat + hA.toNat) cd U B t (yF (yF s hO) hA) (kS Q hO hA) h (kS_NE n9 (by decide) (by decide) hO hA) (kS_AL h1 hO hA) (Nat.zero_le _) ho hb hf (by omega) (by omega) with ⟨U', B', k, g3, hk, f3, fl⟩ | ⟨U1, B1, t1, cd1, k1, g3, f3, w1, hp1, hk1, h11⟩
    · exact Or.inl ⟨U', B', k, by rw [eU, bd_some g3, if_pos rfl]; rfl, hk, f3, fl⟩
    · have w1' : WS ts n U0 B0 Ub Bb a U1 B1 t1 0 cd1 (1 :: yF (yF s hO) hA) o (kS Q hO hA) := w1
      obtain ⟨l8', e2', hlt', bl', t4', tn', n4'⟩ := w_ck hE w1'.1
      have i18 := fun {β : Type} (K : Int32 → MM β) => w_isW (i := 18) hE w1'.1 (by decide) K
      have i17 := fun {β : Type} (K : Int32 → MM β) => w_isW (i := 17) hE w1'.1 (by decide) K
      obtain ⟨U2, B2, g2, f2, w2⟩ := w_and hE w1' (by omega) h1 n10 (by omega)
      have x18 := w_wN (i := 18) hE w2.1 (by decide)
      have m2 := w_ck hE w2.1
      have eU2 : loopC (M + 1) (cnB (gr_X3_readCondition f).2 (nI o)) (b2n hO, b2n hA, nI i) U = cnE (loopC M (cnB (gr_X3_readCondition f).2 (nI o))) (b2n hO, b2n hA, nI i) U2 := by
        rw [eU, bd_some g3, if_neg (by decide), g2]
      by_cases c18 : t1.1 = 2 ∧ t1.2.1 = 18
      · have nx := (TK_nx hE.1 w1'.1.1).2.1 (by omega)
        have kl2 := kS_len Q hO false
        obtain ⟨B3, f3', w3⟩ := w_waits hE w2 (by omega) 10
        obtain ⟨U4, B4, g4, f4, wt, y1, y2, y3⟩ := wt_next hE w3.1
        have w4 : WS ts n U0 B0 Ub Bb a U4 B4 (nxT ts n t1) 0 (cd1 + hA.toNat) (yF (yF s hO) true) o (kS Q hO true) := WS_tok w3 wt y1 y2 y3
        have rA : ∀ self1 : (Int32 × Int32) → MM Int32, raB self1 (nI b, 0) B1 = self1 (nI b, 1) B4 := by
          intro self1
          rw [ra_done]
          unfold rDone
          dsimp only
          rw [show (5 : Int32) = nI (rhoW 18) from rfl, i18, b2i_t c18, if_neg k10, f2, show (10 : Int32) = nI 10 from rfl, f3', f4]
        have eC : loopC (M + 1) (cnB (gr_X3_readCondition f).2 (nI o)) (b2n hO, b2n hA, nI i) U = loopC M (cnB (gr_X3_readCondition f).2 (nI o)) (b2n hO, b2n true, nI (i + 1)) U4 := by
          rw [eU2]
          generalize loopC M (cnB (gr_X3_readCondition f).2 (nI o)) = F
          unfold cnE
          rw [bd_ld _ (by omega), m2.2.1, if_pos (show nI (ctk t1) = 318 from x18.mpr c18)]
          unfold cn8
          rw [if_neg (by decide)]
          unfold cn10
          dsimp only
          rw [g4, lt_eq, nI_1]
          rfl
        rw [eC]
        rcases ih (U := U4) (B := B4) (t := nxT ts n t1) (i := i + 1) (hO := hO) (hA := true) w4 (by show _ + 1 ≤ _; omega) (by omega) (by omega) with ⟨U', B', k, g5, hk, f5, fl⟩ | ⟨U', B', t', cd', k, g5, f5, w5, hp5, hk5, hk51⟩
        · refine Or.inl ⟨U', B', k + 1 + k1, g5, by omega, fun N => ?_, fl⟩
          rw [show N + (k + 1 + k1) = (N + k + 1) + k1 by omega]
          refine (f3 (N + k + 1)).trans ?_
          rw [loopC_s, rA]
          exact f5 N
        · refine Or.inr ⟨U', B', t', cd', k + 1 + k1, g5, fun N => ?_, w5, hp5, by omega, by omega⟩
          rw [show N + (k + 1 + k1) = (N + k + 1) + k1 by omega]
          refine (f3 (N + k + 1)).trans ?_
          rw [loopC_s, rA]
          exact f5 N
      · obtain ⟨U3, B3, g3', f3', w3⟩ := w_or hE w2 (by omega) h1 n11 (by omega)
        have x17 := w_wN (i := 17) hE w3.1 (by decide)
        have m3 := w_ck hE w3.1
        have eU3 : ∀ F : (Int32 × Int32 × Int32) → MM Int32, cnE F (b2n hO, b2n hA, nI i) U2 = (if nI (ctk t1) = 317 then cn10 F (b2n hO, b2n hA, nI i) 0 1 else rz 1) U3 := by
          intro F
          unfold cnE
          rw [bd_ld _ (by omega), m2.2.1, if_neg (show ¬ nI (ctk t1) = 318 from fun z => c18 (x18.mp z))]
          unfold cn8
          rw [if_pos rfl]
          dsimp only
          rw [g3', bd_ld _ (by omega), m3.2.1]
        by_cases c17 : t1.1 = 2 ∧ t1.2.1 = 17
        · have nx := (TK_nx hE.1 w1'.1.1).2.1 (by omega)
          obtain ⟨B4, f4', w4⟩ := w_waits hE w3 (by omega) 11
          obtain ⟨U5, B5, g5, f5', wt, y1, y2, y3⟩ := wt_next hE w4.1
          have w5 : WS ts n U0 B0 Ub Bb a U5 B5 (nxT ts n t1) 0 (cd1 + hA.toNat + hO.toNat) (yF (yF s true) false) o (kS Q true false) := WS_tok w4 wt y1 y2 y3
          have rA : ∀ self1 : (Int32 × Int32) → MM Int32, raB self1 (nI b, 0) B1 = self1 (nI b, 1) B5 := by
            intro self1
            rw [ra_done]
            unfold rDone
            dsimp only
            rw [show (5 : Int32) = nI (rhoW 18) from rfl, i18, b2i_f c18, if_pos k00, show (4 : Int32) = nI (rhoW 17) from rfl, i17, b2i_t c17, if_neg k10, f2, f3', show (11 : Int32) = nI 11 from rfl, f4', f5']
          have eC : loopC (M + 1) (cnB (gr_X3_readCondition f).2 (nI o)) (b2n hO, b2n hA, nI i) U = loopC M (cnB (gr_X3_readCondition f).2 (nI o)) (b2n true, b2n false, nI (i + 1)) U5 := by
            rw [eU2, eU3, if_pos (show nI (ctk t1) = 317 from x17.mpr c17)]
            generalize loopC M (cnB (gr_X3_readCondition f).2 (nI o)) = F
            unfold cn10
            dsimp only
            rw [g5, lt_eq, nI_1]
            rfl
          rw [eC]
          rcases ih (U := U5) (B := B5) (t := nxT ts n t1) (i := i + 1) (hO := true) (hA := false) w5 (by show _ + 1 + 0 ≤ _; omega) (by omega) (by omega) with ⟨U', B', k, g6, hk, f6, fl⟩ | ⟨U', B', t', cd', k, g6, f6, w6, hp6, hk6, hk61⟩
          · refine Or.inl ⟨U', B', k + 1 + k1, g6, by omega, fun N => ?_, fl⟩
            rw [show N + (k + 1 + k1) = (N + k + 1) + k1 by omega]
            refine (f3 (N + k + 1)).trans ?_
            rw [loopC_s, rA]
            exact f6 N
          · refine Or.inr ⟨U', B', t', cd', k + 1 + k1, g6, fun N => ?_, w6, hp6, by omega, by omega⟩
            rw [show N + (k + 1 + k1) = (N + k + 1) + k1 by omega]
            refine (f3 (N + k + 1)).trans ?_
            rw [loopC_s, rA]
            exact f6 N
        · have rA : ∀ self1 : (Int32 × Int32) → MM Int32, raB self1 (nI b, 0) B1 = rTl self1 (nI b, 0) B3 := by
            intro self1
            rw [ra_done]
            unfold rDone
            rw [show (5 : Int32) = nI (rhoW 18) from rfl, i18, b2i_f c18, if_pos k00, show (4 : Int32) = nI (rhoW 17) from rfl, i17, b2i_f c17, if_pos k00, f2, f3']
          refine Or.inr ⟨U3, B3, t1, cd1 + hA.toNat + hO.toNat, k1 + 1, ?_, fun N => ?_, w3, by omega, by omega, by omega⟩
          · rw [eU2, eU3, if_neg (show ¬ nI (ctk t1) = 317 from fun z => c17 (x17.mp z))]
            rfl
          · rw [show N + (k1 + 1) = (N + 1) + k1 by omega]
            refine (f3 (N + 1)).trans ?_
            rw [loopC_s, rA]
set_option maxHeartbeats 800000 in
theorem C_step {ts : Nat → Nat} {n a f : Nat} {U0 B0 Ub Bb : Bk} (hE : WE ts n U0 B0) (hK : KST ts n U0 B0 Ub Bb a f) : CST ts n U0 B0 Ub Bb a (f + 1) := by
  intro o b p cd U B t s Q h n9 n10 n11 h1 ho hb hf hl hp
  obtain ⟨l8, e2, hlt, bl, t4, tn, n4⟩ := w_ck hE h.1
  have eg : (gr_X3_readCondition (f + 1)).1 (nI o) = bX3_readCondition (gr_X3_readCondition f).2 (nI o) := rfl
  rw [eg, lcn_eq]
  exact C_loop (s := s) hE hK n9 n10 n11 h1 ho hb (by omega) hl 100000 (i := 0) (hO := false) (hA := false) h (by show cd + p + 0 + 0 ≤ _; omega) (by omega) (by omega)
theorem KC_all {ts : Nat → Nat} {n a : Nat} {U0 B0 Ub Bb : Bk} (hE : WE ts n U0 B0) : ∀ f, KST ts n U0 B0 Ub Bb a f ∧ CST ts n U0 B0 Ub Bb a f
  | 0 => ⟨fun o j b p cd U B t s P _ _ _ _ ho _ hf _ _ => by omega, fun o b p cd U B t s Q _ _ _ _ _ ho _ hf _ _ => by omega⟩
  | f + 1 => ⟨K_step hE (KC_all hE f).2 (KC_all hE f).1, C_step hE (KC_all hE f).1⟩
/-- a condition -/
def PCd (ts : Nat → Nat) (n : Nat) (U0 B0 Ub Bb : Bk) (a lo : Nat) (s : List Nat) (r : Int32) (U' : Bk) (r' : Int32) (B' : Bk) : Prop := (r = 0 ∧ r' = -1 ∧ WF U0 U' B0 B') ∨ (r = 1 ∧ r' = 0 ∧ ∃ (t' : Tok) (cd' : Nat), WS ts n U0 B0 Ub Bb a U' B' t' 0 cd' (1 :: s) 0 [] ∧ cd' ≤ t'.2.2.1 ∧ lo ≤ t'.2.2.1)
set_option maxHeartbeats 800000 in
theorem w_cond {ts : Nat → Nat} {n a cd : Nat} {U0 B0 Ub Bb U B : Bk} {s st : List Nat} {t : Tok} (hE : WE ts n U0 B0) (h : WS ts n U0 B0 Ub Bb a U B t 0 cd s 0 st) (hp : cd ≤ t.2.2.1) : J2 (gX3_readCondition 0 U) (gX11_readAny B) (PCd ts n U0 B0 Ub Bb a t.2.2.1 s) := by
  obtain ⟨l8, e2, hlt, bl, t4, tn, n4⟩ := w_ck hE h.1
  rw [lra_eq, bd_sv _ (by omega)]
  have h0 : WS ts n U0 B0 Ub Bb a U (up B 0 ((B 0).set 30 0)) t 0 cd s 0 [] := by
    obtain ⟨q1, q2, q3⟩ := h.2.2.2
    exact WS_q h (FRR_s h.1.2.2.2.1 (by decide)) (fun k _ h30 => by rw [up_same]; exact gd_set_ne (fun z => h30 z.symm)) (fun c x0 _ => up_ne _ _ x0) ⟨by rw [up_same, gd_set_ne (by decide)]; exact q1, by rw [up_same, gd_set_same (by omega)]; rfl, fun i hi => absurd hi (Nat.not_lt_zero i)⟩
  have eg : gX3_readCondition 0 = (gr_X3_readCondition 40).1 (nI 0) := rfl
  rw [eg]
  generalize up B 0 ((B 0).set 30 0) = C at h0
  rcases (KC_all (a := a) (Ub := Ub) (Bb := Bb) hE 40).2 0 0 0 cd U C t s [] h0 (NE_nil _) (NE_nil _) (NE_nil _) (fun z hz => absurd hz (by simp)) (by omega) (by omega) (by omega) (Nat.le_refl _) (by omega) with ⟨U', B', k, g3, hk, f3, fl⟩ | ⟨U', B', t', cd', k, g3, f3, w3, hp3, hk3, hk31⟩
  · have f4 := f3 (100000 - k)
    dsimp only at f4
    rw [show 100000 - k + k = 100000 by omega] at f4
    exact ⟨_, _, _, _, g3, f4, Or.inl ⟨rfl, rfl, fl⟩⟩
  · have tn' := (w_ck hE w3.1).2.2.2.2.2
    have f4 := f3 (100000 - k)
    dsimp only at f4
    rw [show 100000 - k + k = 100000 by omega] at f4
    have f5 : rTl (loopC (100000 - k) raB) (nI 0, 0) B' = some (0, B') := by
      unfold rTl
      dsimp only
      rw [if_pos (show nI 0 = (0 : Int32) from rfl)]; rfl
    exact ⟨_, _, _, _, g3, f4.trans f5, Or.inr ⟨rfl, rfl, t', cd', w3, by omega, by omega⟩⟩
