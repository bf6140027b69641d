/-! PURE: text, a line of friends -/
theorem frF_congr {l3 l4 m3 m4 : List Int32} {q : Int32} : ∀ n, (∀ i, i < n → m3.getD i 0 = l3.getD i 0 ∧ m4.getD i 0 = l4.getD i 0) → frF m3 m4 q n = frF l3 l4 q n := by
  intro n h
  unfold frF
  refine fo_congr (fun i hi x => ?_)
  obtain ⟨e1, e2⟩ := h i hi
  rw [e1, e2]
theorem frF_s (l3 l4 : List Int32) (q : Int32) (n : Nat) : frF l3 l4 q (n + 1) = if l4.getD n 0 = q then (if l3.getD n 0 = q then frF l3 l4 q n ||| (nI 1 <<< (l4.getD n 0 &&& nI 31)) else frF l3 l4 q n) ||| (nI 1 <<< (l3.getD n 0 &&& nI 31)) else if l3.getD n 0 = q then frF l3 l4 q n ||| (nI 1 <<< (l4.getD n 0 &&& nI 31)) else frF l3 l4 q n := rfl
def DLf (np : Nat) (U : Bk) (fr : List Int32) (k : Nat) : Prop := (∀ i, i < k → ∃ a b : Nat, (U 4).getD i 0 = nI a ∧ (U 5).getD i 0 = nI b ∧ a < np ∧ b < np ∧ a ≠ b) ∧ ∀ q, q < 12 → fr.getD (12 + q) 0 = frF (U 4) (U 5) (nI q) k
set_option maxHeartbeats 400000 in
theorem DLf_put {np k a b : Nat} {U U' : Bk} {fr fr' : List Int32} (h : DLf np U fr k) (hk : k < 16) (hl : fr.length = 24) (l4 : (U 4).length = 16) (l5 : (U 5).length = 16)
    (e4 : U' 4 = (U 4).set k (nI a)) (e5 : U' 5 = (U 5).set k (nI b)) (e : fr' = (fr.set (12 + a) (fr.getD (12 + a) 0 ||| (1 <<< (nI b &&& 31)))).set (12 + b) (fr.getD (12 + b) 0 ||| (1 <<< (nI a &&& 31)))) (ha : a < np) (hb : b < np) (hab : a ≠ b) (hnp : np ≤ 12) : DLf np U' fr' (k + 1) := by
  obtain ⟨h1, h2⟩ := h
  have g4 : ∀ i, i < k → ((U 4).set k (nI a)).getD i 0 = (U 4).getD i 0 := fun i hi => gd_set_ne (by omega)
  have g5 : ∀ i, i < k → ((U 5).set k (nI b)).getD i 0 = (U 5).getD i 0 := fun i hi => gd_set_ne (by omega)
  refine ⟨fun i hi => ?_, fun q hq => ?_⟩
  · rw [e4, e5]
    by_cases c : i = k
    · subst c
      rw [gd_set_same (by omega), gd_set_same (by omega)]
      exact ⟨a, b, rfl, rfl, ha, hb, hab⟩
    · rw [g4 i (by omega), g5 i (by omega)]
      exact h1 i (by omega)
  · have i1 : (nI b = nI q) ↔ b = q := nI_eq (by omega) (by omega)
    have i2 : (nI a = nI q) ↔ a = q := nI_eq (by omega) (by omega)
    rw [e4, e5, frF_s, frF_congr k (fun i hi => ⟨g4 i hi, g5 i hi⟩), gd_set_same (by omega), gd_set_same (by omega), ← h2 q hq, e]
    by_cases c1 : b = q
    · subst c1
      rw [if_pos rfl, if_neg (fun z => hab (i2.mp z)), gd_set_same (by rw [List.length_set]; omega)]; rfl
    · rw [if_neg (fun z => c1 (i1.mp z)), gd_set_ne (by omega)]
      by_cases c2 : a = q
      · subst c2
        rw [if_pos rfl, gd_set_same (by omega)]; rfl
      · rw [if_neg (fun z => c2 (i2.mp z)), gd_set_ne (by omega)]
def PFl (ts : Nat → Nat) (n np : Nat) (U0 B0 : Bk) (k : Nat) (r : Int32) (U' : Bk) (r' : Int32) (B' : Bk) : Prop := (r = 0 ∧ r' = -1 ∧ FLL U0 U' B0 B') ∨ (r = 1 ∧ r' = 0 ∧ ∃ t', MLi ts n U0 U' B0 B' t' ∧ (U' 1).getD 0 0 = nI (k + 1) ∧ DLf np U' (B' 19) (k + 1))
set_option maxHeartbeats 400000 in
theorem lk_nonum {ts : Nat → Nat} {n np nc nt c : Nat} {U0 B0 U B : Bk} {t : Tok} (hE : ENV ts n U0 B0 np nc nt) (h : MLi ts n U0 U B0 B t) (hc : c < 20000) (q : ¬ (t.1 = 3 ∧ t.2.1 < c)) : ∃ U' B', (∀ {β : Type} (K : Int32 → MM β), bd (lf rh18 2 (gX7_isNumber 0 (nI c - 1))) K U = K 0 U') ∧ (∀ {β : Type} (K : Int32 → MM β), bd (gX11_readNumber 0 (nI c - 1)) K B = K (-1) B') ∧ FLL U0 U' B0 B' := by
  obtain ⟨hx, ⟨hu, -⟩, ⟨hy, -⟩, hb, -⟩ := hE
  obtain ⟨h1, h2, h3, h4, h5⟩ := h
  obtain ⟨-, -, k4, -, -, -, k3, -⟩ := TK_ok hx h1
  have bl := FRR_len hb h4
  have hno : ¬ (t.1 = 3 ∧ ((0 : Int32) ≤ nI t.2.1 ∧ nI t.2.1 ≤ nI c - 1)) := fun z => q ⟨z.1, (le_pred (by have := k3 z.1; omega) hc).mp z.2⟩
  obtain ⟨o, g1, g2⟩ := c_isNumber' (U := U) (a := 6) hx h1 rh18_inj rfl h3 0 (nI c - 1) hno
  obtain ⟨B', f1, f2, f3, f4, -⟩ := p_errs hb h4 h5 (nfF t)
  refine ⟨up U 6 o, B', g2, fun K => bd_some ?_, FU_6 h2, f2, nfF t, t.2.2.1, by rw [up_same]; exact g1, f3, f4⟩
  unfold gX11_readNumber
  unfold nfF at f1
  rw [bd_ld _ (by omega), h5.2.2.1]
  by_cases z : t.1 = 3
  · rw [if_pos z] at f1
    have f1' : gX11_errs 2 B = some (-1, B') := f1
    rw [if_pos (show nI t.1 = 3 by rw [z]; rfl), bd_ld _ (by omega), h5.2.2.2.2.1 z, bd_in, b2i_f (fun w => hno ⟨z, w⟩), if_pos (by decide), bd_some f1']; rfl
  · rw [if_neg z] at f1
    have f1' : gX11_errs 1 B = some (-1, B') := f1
    rw [if_neg (show ¬ nI t.1 = 3 from fun w => z ((nI_eq (b := 3) (by omega) (by omega)).mp w)), bd_some f1']; rfl
set_option maxHeartbeats 400000 in
theorem lk_rnum {ts : Nat → Nat} {n np nc nt c : Nat} {U0 B0 U B B' : Bk} {t : Tok} (hE : ENV ts n U0 B0 np nc nt) (h : MLi ts n U0 U B0 B t) (hc : c < 20000) (q : t.1 = 3 ∧ t.2.1 < c) (f1 : ∀ {β : Type} (K : Int32 → MM β), bd gX11_reads K B = K 0 B') {β : Type} (K : Int32 → MM β) : bd (gX11_readNumber 0 (nI c - 1)) K B = K (nI t.2.1) B' := by
  obtain ⟨hx, ⟨hu, -⟩, ⟨hy, -⟩, hb, -⟩ := hE
  obtain ⟨h1, h2, h3, h4, h5⟩ := h
  obtain ⟨-, -, k4, -, -, -, k3, -⟩ := TK_ok hx h1
  have bl := FRR_len hb h4
  obtain ⟨q1, q2⟩ := q
  have v9 := k3 q1
  have hr : (0 : Int32) ≤ nI t.2.1 ∧ nI t.2.1 ≤ nI c - 1 := (le_pred (by omega) hc).mpr q2
  refine bd_some ?_
  unfold gX11_readNumber
  rw [bd_ld _ (by omega), h5.2.2.1, if_pos (show nI t.1 = 3 by rw [q1]; rfl), bd_ld _ (by omega), h5.2.2.2.2.1 q1, bd_in, b2i_t hr, if_neg (by decide), bd_ld _ (by omega), h5.2.2.2.2.1 q1, f1]; rfl
set_option maxHeartbeats 400000 in
theorem friend_line {ts : Nat → Nat} {n np nc nt k : Nat} {U0 B0 U B : Bk} {t : Tok} (hE : ENV ts n U0 B0 np nc nt) (h : MLi ts n U0 U B0 B t) (hw : t.1 = 2 ∧ t.2.1 = 21) (hk : (U 1).getD 0 0 = nI k) (hk16 : k < 16) (hD : DLf np U (B 19) k) : J2 (gX4_readLine 3 U) (gX11_readFriend B) (PFl ts n np U0 B0 k) := by
  have hE' := hE
  obtain ⟨hx, ⟨u0, u1, u2, u3, u4, u5⟩, ⟨hy, y8, y4, y5, y6⟩, hb, ⟨r6, r7, r8⟩, ⟨-, -, b19⟩, ⟨hnp, hnc, hnt⟩⟩ := hE
  obtain ⟨U1, B1, g1, f1, m1, e1, kb1⟩ := lk_next hE' h
  have ht : ∀ {β : Type} (K : Int32 → MM β), bd (gX11_readTold 21 0 (nI np - 1)) K B = bd (gX11_readNumber 0 (nI np - 1)) K B1 := fun K => lk_told hE' h (i := 21) (by decide) hw f1 0 (nI np - 1) K
  have h10 : ¬ (1 : Int32) = 0 := by decide
  have bl := FRR_len hb h.2.2.2.1
  have eb : (B 0).getD 6 0 = nI np := by rw [h.2.2.2.1.2.2.1 6 (by decide)]; exact r6
  have e18 : (U1 8).getD 4 0 = nI np := by rw [m1.2.1.2 8 (by decide)]; exact y4
  have l18 : (U1 8).length = 19 := by rw [m1.2.1.2 8 (by decide)]; exact y8
  rw [head_3 hE' h hw hk hk16 g1]
  unfold gX11_readFriend gX4_readFriends
  simp only [jn_eq]
  rw [bd_ld (i := 0) (k := 6) (A := B) _ (by omega), eb, ht, bd_as, bd_ld _ (by omega), e18, bd_as]
  rcases lk_num hE' m1 (c := np) (by omega) with ⟨U2, B2, ha, g2, f2, m2, e2, ku2, kb2⟩ | ⟨U2, B2, g2, f2, fl⟩
  · obtain ⟨a, hav⟩ : ∃ a, (nxT ts n t).2.1 = a := ⟨_, rfl⟩
    rw [hav] at ha f2 e2
    have l20 : (U2 0).length = 2 := by rw [m2.2.1.1 0 (by decide)]; exact u0
    obtain ⟨t2, ht2⟩ : ∃ t2, nxT ts n (nxT ts n t) = t2 := ⟨_, rfl⟩
    rw [ht2] at m2
    have bl2 := FRR_len hb m2.2.2.2.1
    have wd := p_isWord hb hx m2.1 m2.2.2.2.1 m2.2.2.2.2 (i := 7) (by decide)
    have wd' : gX11_isWord 11 B2 = some (b2i (t2.1 = 2 ∧ t2.2.1 = 7), B2) := wd
    rw [g2, if_neg h10, f2, if_neg (n_m1 (by omega)), bd_as, bd_ld _ (by omega), e2, bd_as, bd_some wd']
    by_cases c7 : t2.1 = 2 ∧ t2.2.1 = 7
    · obtain ⟨U3, B3, g3, f3, m3, e3, kb3⟩ := lk_take hE' m2 (i := 7) (by decide) c7
      have g3' : ∀ {β : Type} (K : Int32 → MM β), bd (lf rh18 2 (gX7_take 307)) K U2 = K 1 U3 := fun K => g3 K
      obtain ⟨t3, ht3⟩ : ∃ t3, nxT ts n t2 = t3 := ⟨_, rfl⟩
      rw [ht3] at m3
      have bl3 := FRR_len hb m3.2.2.2.1
      have e38 : (U3 8).getD 4 0 = nI np := by rw [m3.2.1.2 8 (by decide)]; exact y4
      have l38 : (U3 8).length = 19 := by rw [m3.2.1.2 8 (by decide)]; exact y8
      have b36 : (B3 0).getD 6 0 = nI np := by rw [m3.2.2.2.1.2.2.1 6 (by decide)]; exact r6
      have k3 := TK_ok hx m3.1
      have tr3 := m3.2.2.2.2
      rw [g3', if_neg h10, b2i_t c7, if_neg (show ¬ nI 1 = (0 : Int32) by decide), f3, bd_ld (i := 0) (k := 16) _ (by omega), tr3.2.2.1, bd_as, bd_ld _ (by omega), e38, bd_as]
      by_cases cn : t3.1 = 3 ∧ t3.2.1 < np
      · have gn := fun {β : Type} (K : Int32 → MM β) => c_isNumber (U := U3) (a := 6) hx m3.1 rh18_inj rfl m3.2.2.1 0 (nI np - 1) K ⟨cn.1, (le_pred (by omega) (by omega)).mpr cn.2⟩
        have e63 : (U3 6).getD 3 0 = nI t3.2.1 := m3.2.2.1.2.2.2.2.1 cn.1
        have l36 : (U3 6).length = 8 := m3.2.2.1.1
        obtain ⟨b, hbv⟩ : ∃ b, t3.2.1 = b := ⟨_, rfl⟩
        rw [gn, if_neg h10, bd_as, bd_ld _ (by omega), e63, if_pos (show nI t3.1 = 3 by rw [cn.1]; rfl), bd_ld (i := 0) (k := 17) _ (by omega), tr3.2.2.2.2.1 cn.1]
        by_cases cq : t3.2.1 = a
        · obtain ⟨U4, B4, g4, f4, fl⟩ := lk_refuse hE' m3 2
          have g4' : ∀ {β : Type} (K : Int32 → MM β), bd (lf rh18 2 (gX7_refuse 2)) K U3 = K 0 U4 := fun K => g4 K
          have f4' : ∀ {β : Type} (K : Int32 → MM β), bd (gX11_errs 2) K B3 = K (-1) B4 := fun K => f4 K
          rw [if_pos (by rw [cq]), if_pos (by rw [cq]), bd_as, g4', bd_rzf0, if_pos rfl, f4']
          exact ⟨_, _, _, _, rfl, rfl, Or.inl ⟨rfl, rfl, fl⟩⟩
        · have nq : ¬ nI t3.2.1 = nI a := fun z => cq ((nI_eq (by omega) (by omega)).mp z)
          have hu := m3.2.1
          have eU3 : ∀ c, c ≠ 0 → c ≠ 6 → U3 c = U c := fun c c0 c6 => by rw [e3 c c6, ku2 c c0 c6, e1 c c6]
          have l1 : (U3 1).length = 5 := by rw [hu.1 1 (by decide)]; exact u1
          have l2 : (U3 2).length = 16 := by rw [hu.1 2 (by decide)]; exact u2
          have l3 : (U3 3).length = 16 := by rw [hu.1 3 (by decide)]; exact u3
          have l4 : (U3 4).length = 16 := by rw [hu.1 4 (by decide)]; exact u4
          have l5 : (U3 5).length = 16 := by rw [hu.1 5 (by decide)]; exact u5
          have hk3 : (U3 1).getD 0 0 = nI k := by rw [eU3 1 (by decide) (by decide)]; exact hk
          rw [if_neg nq, if_neg nq, bd_as, bd_ld _ (by omega), e63, bd_as, c_add l1 l2 l3 l4 l5 hk3 hk16, bd_as]
          rw [hbv] at cq ⊢
          obtain ⟨V, hV⟩ : ∃ V, up (up (up (up (up U3 2 ((U3 2).set k 0)) 3 ((U3 3).set k 0)) 4 ((U3 4).set k (nI a))) 5 ((U3 5).set k (nI b))) 1 ((U3 1).set 0 (nI (k + 1))) = V := ⟨_, rfl⟩
          rw [hV]
          have vF : FU U0 V := by
            rw [← hV]
            refine ⟨fun c hc => ?_, fun c hc => ?_⟩
            · rw [up_len (by rw [List.length_set]; rfl), up_len (by rw [List.length_set]; rfl), up_len (by rw [List.length_set]; rfl), up_len (by rw [List.length_set]; rfl), up_len List.length_set]
              exact hu.1 c hc
            · rw [up_ne _ _ (by omega), up_ne _ _ (by omega), up_ne _ _ (by omega), up_ne _ _ (by omega), up_ne _ _ (by omega)]
              exact hu.2 c hc
          have v6 : V 6 = U3 6 := by rw [← hV]; rfl
          have mV : MLi ts n U0 V B0 B3 t3 := ⟨m3.1, vF, by rw [v6]; exact m3.2.2.1, m3.2.2.2.1, m3.2.2.2.2⟩
          obtain ⟨U4, B4, g4, f4, m4, e4, kb4⟩ := lk_next hE' mV
          have b419 : B4 19 = B 19 := by rw [kb4 19 (by decide), kb3 19 (by decide), kb2 19 (by decide), kb1 19 (by decide)]
          have lb4 : (B4 19).length = 24 := by rw [m4.2.2.2.1.1 19]; exact b19
          have hb12 : b < np := by rw [← hbv]; exact cn.2
          rw [g4, bd_rzf1, if_neg h10, bd_ld (i := 0) (k := 6) _ (by omega), b36, lk_rnum hE' m3 (c := np) (by omega) cn f4, hbv, if_neg (n_m1 (by omega))]
          have x1 : (12 + nI a : Int32) = nI (12 + a) := nI_add 12 a
          have x2 : (12 + nI b : Int32) = nI (12 + b) := nI_add 12 b
          rw [x1, x2, bd_la _ (by omega) (by omega), bd_sa _ (by omega) (by omega)]
          obtain ⟨v, hv⟩ : ∃ v, (B4 19).getD (12 + a) 0 ||| (1 <<< (nI b &&& 31)) = v := ⟨_, rfl⟩
          rw [hv, bd_la _ (by rw [up_same, List.length_set]; omega) (by rw [up_same, List.length_set]; omega), up_same, gd_set_ne (by omega), bd_sa _ (by rw [up_same, List.length_set]; omega) (by rw [up_same, List.length_set]; omega)]
          obtain ⟨w, hw2⟩ : ∃ w, (B4 19).getD (12 + b) 0 ||| (1 <<< (nI a &&& 31)) = w := ⟨_, rfl⟩
          rw [hw2]
          have m5 := ML_c (c := 19) (i := 12 + a) (v := v) m4 (by decide) (by show 12 ≤ _; omega)
          have m6 := ML_c (c := 19) (i := 12 + b) (v := w) m5 (by decide) (by show 12 ≤ _; omega)
          obtain ⟨C, hC⟩ : ∃ C, up (up B4 19 ((B4 19).set (12 + a) v)) 19 ((up B4 19 ((B4 19).set (12 + a) v) 19).set (12 + b) w) = C := ⟨_, rfl⟩
          rw [hC] at m6 ⊢
          have c19 : C 19 = ((B 19).set (12 + a) ((B 19).getD (12 + a) 0 ||| (1 <<< (nI b &&& 31)))).set (12 + b) ((B 19).getD (12 + b) 0 ||| (1 <<< (nI a &&& 31))) := by
            rw [← hC, up_same, up_same, ← hv, ← hw2, b419]
          have v4 : V 4 = (U 4).set k (nI a) := by rw [← hV, ← eU3 4 (by decide) (by decide)]; rfl
          have v5 : V 5 = (U 5).set k (nI b) := by rw [← hV, ← eU3 5 (by decide) (by decide)]; rfl
          have hD2 : DLf np V (C 19) (k + 1) := DLf_put hD hk16 (by rw [h.2.2.2.1.1 19]; exact b19) (by rw [← eU3 4 (by decide) (by decide)]; exact l4) (by rw [← eU3 5 (by decide) (by decide)]; exact l5) v4 v5 c19 ha hb12 (fun z => cq z.symm) hnp
          rcases lk_mark hE' m6 with ⟨V', C', t', q1, q2, q3, q4, q5⟩ | ⟨V', C', q1, q2, q3⟩
          · rw [q1, q2, if_neg h10]
            refine ⟨_, _, _, _, rfl, rfl, Or.inr ⟨rfl, rfl, t', q3, ?_, ?_⟩⟩
            · rw [q4 1 (by decide), e4 1 (by decide), ← hV, up_same, gd_set_same (by omega)]
            · unfold DLf
              rw [q4 4 (by decide), q4 5 (by decide), e4 4 (by decide), e4 5 (by decide), q5 19 (by decide)]
              exact hD2
          · rw [q1, q2, if_pos rfl]
            exact ⟨_, _, _, _, rfl, rfl, Or.inl ⟨rfl, rfl, q3⟩⟩
      · obtain ⟨U4, B4, g4, f4, fl⟩ := lk_nonum hE' m3 (c := np) (by omega) cn
        have fin : J2 (rz 0 U4) (pr (-1) B4) (PFl ts n np U0 B0 k) := ⟨_, _, _, _, rfl, rfl, Or.inl ⟨rfl, rfl, fl⟩⟩
        rw [g4, if_pos rfl, bd_rzf0, if_pos rfl]
        by_cases c3 : t3.1 = 3
        · rw [if_pos (show nI t3.1 = 3 by rw [c3]; rfl), bd_ld (i := 0) (k := 17) _ (by omega), tr3.2.2.2.2.1 c3, if_neg (fun z => cn ⟨c3, by have := k3.2.2.2.2.2.2.1 c3; have := (nI_eq (by omega) (by omega)).mp z; omega⟩), bd_ld (i := 0) (k := 6) _ (by omega), b36, f4, if_pos rfl]
          exact fin
        · rw [if_neg (show ¬ nI t3.1 = 3 from fun w => c3 ((nI_eq (b := 3) (by omega) (by omega)).mp w)), bd_ld (i := 0) (k := 6) _ (by omega), b36, f4, if_pos rfl]
          exact fin
    · obtain ⟨U3, B3, g3, f3, fl⟩ := lk_take' hE' m2 (i := 7) (by decide) c7
      have g3' : ∀ {β : Type} (K : Int32 → MM β), bd (lf rh18 2 (gX7_take 307)) K U2 = K 0 U3 := fun K => g3 K
      rw [g3', if_pos rfl, bd_rzf0, if_pos rfl, b2i_f c7, if_pos (show nI 0 = (0 : Int32) from rfl), f3]
      exact ⟨_, _, _, _, rfl, rfl, Or.inl ⟨rfl, rfl, fl⟩⟩
  · rw [g2, if_pos rfl, bd_rzf0, if_pos rfl, f2, if_pos rfl]
    exact ⟨_, _, _, _, rfl, rfl, Or.inl ⟨rfl, rfl, fl⟩⟩
