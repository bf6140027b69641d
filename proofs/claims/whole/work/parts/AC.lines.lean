/-! PURE: text, deeds, minds and friends: what both do step by step -/
theorem rh18_inj : ∀ i j, i < 2 → j < 2 → rh18 i = rh18 j → i = j := inj_d (by decide +kernel)
theorem rh19_inj : ∀ i j, i < 5 → j < 5 → rh19 i = rh19 j → i = j := inj_d (by decide +kernel)
/-- where the reading of lines begins, in the class and in the reference -/
def ENV (ts : Nat → Nat) (n : Nat) (U0 B0 : Bk) (np nc nt : Nat) : Prop :=
  TXT ts n ∧ ((U0 0).length = 2 ∧ (U0 1).length = 5 ∧ (U0 2).length = 16 ∧ (U0 3).length = 16 ∧ (U0 4).length = 16 ∧ (U0 5).length = 16) ∧ (BY (U0 7) ts n ∧ (U0 8).length = 19 ∧ (U0 8).getD 4 0 = nI np ∧ (U0 8).getD 5 0 = nI nc ∧ (U0 8).getD 6 0 = nI nt) ∧
  BSE B0 ts n ∧ ((B0 0).getD 6 0 = nI np ∧ (B0 0).getD 7 0 = nI nc ∧ (B0 0).getD 8 0 = nI nt) ∧ ((B0 17).length = 128 ∧ (B0 18).length = 96 ∧ (B0 19).length = 24) ∧ (np ≤ 12 ∧ nc ≤ 14 ∧ nt ≤ 20)
def FU (U0 U : Bk) : Prop := (∀ c, c ≠ 6 → (U c).length = (U0 c).length) ∧ ∀ c, 7 ≤ c → U c = U0 c
/-- both stand before the same token -/
def MLi (ts : Nat → Nat) (n : Nat) (U0 U B0 B : Bk) (t : Tok) : Prop := TK ts n t ∧ FU U0 U ∧ CT (U 6) n t ∧ FRR B0 B ∧ TR B t
/-- both have told the same fault -/
def FLL (U0 U B0 B : Bk) : Prop := FU U0 U ∧ FRR B0 B ∧ ∃ f st : Nat, CF8 (U 6) f st ∧ (B 0).getD 31 0 = nI f ∧ (B 0).getD 32 0 = nI st
def KUU (U U' : Bk) : Prop := ∀ c, c ≠ 0 → c ≠ 6 → U' c = U c
def KBB (B B' : Bk) : Prop := ∀ c, c ≠ 0 → B' c = B c
theorem FU_6 {U0 U : Bk} {o : List Int32} (h : FU U0 U) : FU U0 (up U 6 o) := ⟨fun c hc => by rw [up_ne _ _ hc]; exact h.1 c hc, fun c hc => by rw [up_ne _ _ (by omega)]; exact h.2 c hc⟩
theorem FU_s {U0 U : Bk} {c i : Nat} {v : Int32} (h : FU U0 U) (hc : c < 6) : FU U0 (up U c ((U c).set i v)) := ⟨fun j hj => by rw [up_len List.length_set, h.1 j hj], fun j hj => by rw [up_ne _ _ (by omega)]; exact h.2 j hj⟩
set_option maxHeartbeats 400000 in
theorem lk_next {ts : Nat → Nat} {n np nc nt : Nat} {U0 B0 U B : Bk} {t : Tok} (hE : ENV ts n U0 B0 np nc nt) (h : MLi ts n U0 U B0 B t) : ∃ U' B', (∀ {β : Type} (K : Int32 → MM β), bd (lf rh18 2 gX7_next) K U = K 0 U') ∧ (∀ {β : Type} (K : Int32 → MM β), bd gX11_reads K B = K 0 B') ∧ MLi ts n U0 U' B0 B' (nxT ts n t) ∧ (∀ c, c ≠ 6 → U' c = U c) ∧ KBB B B' := by
  obtain ⟨hx, hu, ⟨hy, -⟩, hb, -⟩ := hE
  obtain ⟨h1, h2, h3, h4, h5⟩ := h
  obtain ⟨o, g1, g2⟩ := c_next (U := U) (a := 6) (b := 7) hx h1 rh18_inj rfl rfl (by rw [h2.2 7 (by decide)]; exact hy) h3
  obtain ⟨B', f1, f2, f3, f4, f5⟩ := p_reads hb hx h1 h4 h5
  exact ⟨up U 6 o, B', g2, fun K => bd_some f1, ⟨(TK_nx hx h1).1, FU_6 h2, by rw [up_same]; exact g1, f2, f3⟩, fun c hc => up_ne _ _ hc, f4⟩
set_option maxHeartbeats 400000 in
theorem lk_refuse {ts : Nat → Nat} {n np nc nt : Nat} {U0 B0 U B : Bk} {t : Tok} (hE : ENV ts n U0 B0 np nc nt) (h : MLi ts n U0 U B0 B t) (f : Nat) : ∃ U' B', (∀ {β : Type} (K : Int32 → MM β), bd (lf rh18 2 (gX7_refuse (nI f))) K U = K 0 U') ∧ (∀ {β : Type} (K : Int32 → MM β), bd (gX11_errs (nI f)) K B = K (-1) B') ∧ FLL U0 U' B0 B' := by
  obtain ⟨hx, hu, ⟨hy, -⟩, hb, -⟩ := hE
  obtain ⟨h1, h2, h3, h4, h5⟩ := h
  obtain ⟨o, g1, g2⟩ := c_refuse (U := U) (a := 6) rh18_inj rfl h3 f
  obtain ⟨B', f1, f2, f3, f4, -⟩ := p_errs hb h4 h5 f
  exact ⟨up U 6 o, B', g2, fun K => bd_some f1, FU_6 h2, f2, f, t.2.2.1, by rw [up_same]; exact g1, f3, f4⟩
set_option maxHeartbeats 400000 in
theorem lk_take {ts : Nat → Nat} {n np nc nt i : Nat} {U0 B0 U B : Bk} {t : Tok} (hE : ENV ts n U0 B0 np nc nt) (h : MLi ts n U0 U B0 B t) (hi : i < 22) (hw : t.1 = 2 ∧ t.2.1 = i) : ∃ U' B', (∀ {β : Type} (K : Int32 → MM β), bd (lf rh18 2 (gX7_take (nI (300 + i)))) K U = K 1 U') ∧ (∀ {β : Type} (K : Int32 → MM β), bd gX11_reads K B = K 0 B') ∧ MLi ts n U0 U' B0 B' (nxT ts n t) ∧ (∀ c, c ≠ 6 → U' c = U c) ∧ KBB B B' := by
  obtain ⟨hx, hu, ⟨hy, -⟩, hb, -⟩ := hE
  obtain ⟨h1, h2, h3, h4, h5⟩ := h
  obtain ⟨o, g1, g2⟩ := c_take (U := U) (a := 6) (b := 7) (w := 300 + i) hx h1 rh18_inj rfl rfl (by rw [h2.2 7 (by decide)]; exact hy) h3 ((ctk_word hx h1 hi).mpr hw)
  obtain ⟨B', f1, f2, f3, f4, f5⟩ := p_reads hb hx h1 h4 h5
  exact ⟨up U 6 o, B', g2, fun K => bd_some f1, ⟨(TK_nx hx h1).1, FU_6 h2, by rw [up_same]; exact g1, f2, f3⟩, fun c hc => up_ne _ _ hc, f4⟩
set_option maxHeartbeats 400000 in
theorem lk_take' {ts : Nat → Nat} {n np nc nt i : Nat} {U0 B0 U B : Bk} {t : Tok} (hE : ENV ts n U0 B0 np nc nt) (h : MLi ts n U0 U B0 B t) (hi : i < 22) (hw : ¬ (t.1 = 2 ∧ t.2.1 = i)) : ∃ U' B', (∀ {β : Type} (K : Int32 → MM β), bd (lf rh18 2 (gX7_take (nI (300 + i)))) K U = K 0 U') ∧ (∀ {β : Type} (K : Int32 → MM β), bd (gX11_errs 1) K B = K (-1) B') ∧ FLL U0 U' B0 B' := by
  obtain ⟨hx, hu, ⟨hy, -⟩, hb, -⟩ := hE
  obtain ⟨h1, h2, h3, h4, h5⟩ := h
  obtain ⟨o, g1, g2⟩ := c_take' (U := U) (a := 6) (w := 300 + i) hx h1 rh18_inj rfl h3 (fun q => hw ((ctk_word hx h1 hi).mp q)) (by omega)
  obtain ⟨B', f1, f2, f3, f4, -⟩ := p_errs hb h4 h5 1
  exact ⟨up U 6 o, B', g2, fun K => bd_some f1, FU_6 h2, f2, 1, t.2.2.1, by rw [up_same]; exact g1, f3, f4⟩
set_option maxHeartbeats 400000 in
theorem lk_mark {ts : Nat → Nat} {n np nc nt : Nat} {U0 B0 U B : Bk} {t : Tok} (hE : ENV ts n U0 B0 np nc nt) (h : MLi ts n U0 U B0 B t) : (∃ U' B' t', (∀ {β : Type} (K : Int32 → MM β), bd (lf rh18 2 (gX7_take 59)) K U = K 1 U') ∧ (∀ {β : Type} (K : Int32 → MM β), bd (gX11_readMark 59) K B = K 0 B') ∧ MLi ts n U0 U' B0 B' t' ∧ (∀ c, c ≠ 6 → U' c = U c) ∧ KBB B B') ∨ (∃ U' B', (∀ {β : Type} (K : Int32 → MM β), bd (lf rh18 2 (gX7_take 59)) K U = K 0 U') ∧ (∀ {β : Type} (K : Int32 → MM β), bd (gX11_readMark 59) K B = K (-1) B') ∧ FLL U0 U' B0 B') := by
  obtain ⟨hx, hu, ⟨hy, -⟩, hb, -⟩ := hE
  obtain ⟨h1, h2, h3, h4, h5⟩ := h
  have hs : gX11_isSign 59 B = some (b2i (t.1 = 4 ∧ t.2.1 = 59), B) := p_isSign (s := 59) hb hx h1 h4 h5 (by decide)
  by_cases c : t.1 = 4 ∧ t.2.1 = 59
  · obtain ⟨o, g1, g2⟩ := c_take (U := U) (a := 6) (b := 7) (w := 59) hx h1 rh18_inj rfl rfl (by rw [h2.2 7 (by decide)]; exact hy) h3 ((ctk_sign hx h1 (by decide)).mpr c)
    obtain ⟨B', f1, f2, f3, f4, f5⟩ := p_reads hb hx h1 h4 h5
    refine Or.inl ⟨up U 6 o, B', nxT ts n t, g2, fun K => ?_, ⟨(TK_nx hx h1).1, FU_6 h2, by rw [up_same]; exact g1, f2, f3⟩, fun c hc => up_ne _ _ hc, f4⟩
    refine bd_some ?_
    unfold gX11_readMark
    rw [bd_some hs, b2i_t c, if_neg (by decide), bd_some f1]; rfl
  · obtain ⟨o, g1, g2⟩ := c_take' (U := U) (a := 6) (w := 59) hx h1 rh18_inj rfl h3 (fun q => c ((ctk_sign hx h1 (by decide)).mp q)) (by decide)
    obtain ⟨B', f1, f2, f3, f4, -⟩ := p_errs hb h4 h5 1
    refine Or.inr ⟨up U 6 o, B', g2, fun K => ?_, FU_6 h2, f2, 1, t.2.2.1, by rw [up_same]; exact g1, f3, f4⟩
    refine bd_some ?_
    have f1' : gX11_errs 1 B = some (-1, B') := f1
    unfold gX11_readMark
    rw [bd_some hs, b2i_f c, if_pos (by decide), bd_some f1']; rfl
set_option maxHeartbeats 400000 in
theorem lk_num {ts : Nat → Nat} {n np nc nt c : Nat} {U0 B0 U B : Bk} {t : Tok} (hE : ENV ts n U0 B0 np nc nt) (h : MLi ts n U0 U B0 B t) (hc : c < 20000) : (∃ U' B', t.2.1 < c ∧ (∀ {β : Type} (K : Int32 → MM β), bd (gX4_takeNumber (nI c - 1)) K U = K 1 U') ∧ (∀ {β : Type} (K : Int32 → MM β), bd (gX11_readNumber 0 (nI c - 1)) K B = K (nI t.2.1) B') ∧ MLi ts n U0 U' B0 B' (nxT ts n t) ∧ (U' 0).getD 1 0 = nI t.2.1 ∧ KUU U U' ∧ KBB B B') ∨ (∃ U' B', (∀ {β : Type} (K : Int32 → MM β), bd (gX4_takeNumber (nI c - 1)) K U = K 0 U') ∧ (∀ {β : Type} (K : Int32 → MM β), bd (gX11_readNumber 0 (nI c - 1)) K B = K (-1) B') ∧ FLL U0 U' B0 B') := by
  obtain ⟨hx, ⟨hu, -⟩, ⟨hy, -⟩, hb, -⟩ := hE
  obtain ⟨h1, h2, h3, h4, h5⟩ := h
  obtain ⟨-, -, k4, -, -, -, k3, -⟩ := TK_ok hx h1
  have bl := FRR_len hb h4
  have u0 : (U 0).length = 2 := by rw [h2.1 0 (by decide)]; exact hu
  by_cases q : t.1 = 3 ∧ t.2.1 < c
  · obtain ⟨q1, q2⟩ := q
    have v9 := k3 q1
    have hr : (0 : Int32) ≤ nI t.2.1 ∧ nI t.2.1 ≤ nI c - 1 := (le_pred (by omega) hc).mpr q2
    have gn := fun {β : Type} (K : Int32 → MM β) => c_isNumber (U := U) (a := 6) hx h1 rh18_inj rfl h3 0 (nI c - 1) K ⟨q1, hr⟩
    have e63 : (U 6).getD 3 0 = nI t.2.1 := h3.2.2.2.2.1 q1
    have l6 : (U 6).length = 8 := h3.1
    have h2' := FU_s (c := 0) (i := 1) (v := nI t.2.1) h2 (by decide)
    obtain ⟨o, g1, g2⟩ := c_next (U := up U 0 ((U 0).set 1 (nI t.2.1))) (a := 6) (b := 7) hx h1 rh18_inj rfl rfl (by rw [up_ne _ _ (by decide), h2.2 7 (by decide)]; exact hy) (by rw [up_ne _ _ (by decide)]; exact h3)
    obtain ⟨B', f1, f2, f3, f4, f5⟩ := p_reads hb hx h1 h4 h5
    refine Or.inl ⟨up (up U 0 ((U 0).set 1 (nI t.2.1))) 6 o, B', q2, fun K => bd_some ?_, fun K => bd_some ?_, ⟨(TK_nx hx h1).1, FU_6 h2', by rw [up_same]; exact g1, f2, f3⟩, ?_, fun c c0 c6 => by rw [up_ne _ _ c6, up_ne _ _ c0], f4⟩
    · unfold gX4_takeNumber
      rw [gn, if_neg (by decide), bd_ld _ (by omega), e63, bd_sv _ (by omega), g2]; rfl
    · unfold gX11_readNumber
      rw [bd_ld _ (by omega), h5.2.2.1, if_pos (show nI t.1 = 3 by rw [q1]; rfl), bd_ld _ (by omega), h5.2.2.2.2.1 q1, bd_in, b2i_t hr, if_neg (by decide), bd_ld _ (by omega), h5.2.2.2.2.1 q1, bd_some f1]; rfl
    · rw [up_ne _ _ (by decide), up_same, gd_set_same (by omega)]
  · have hno : ¬ (t.1 = 3 ∧ ((0 : Int32) ≤ nI t.2.1 ∧ nI t.2.1 ≤ nI c - 1)) := fun z => q ⟨z.1, (le_pred (by have := k3 z.1; omega) hc).mp z.2⟩
    obtain ⟨o, g1, g2⟩ := c_isNumber' (U := U) (a := 6) hx h1 rh18_inj rfl h3 0 (nI c - 1) hno
    obtain ⟨B', f1, f2, f3, f4, -⟩ := p_errs hb h4 h5 (nfF t)
    refine Or.inr ⟨up U 6 o, B', fun K => bd_some ?_, fun K => bd_some ?_, FU_6 h2, f2, nfF t, t.2.2.1, by rw [up_same]; exact g1, f3, f4⟩
    · unfold gX4_takeNumber
      rw [g2, if_pos rfl]; rfl
    · unfold gX11_readNumber
      unfold nfF at f1
      rw [bd_ld _ (by omega), h5.2.2.1]
      by_cases z : t.1 = 3
      · rw [if_pos z] at f1
        have f1' : gX11_errs 2 B = some (-1, B') := f1
        rw [if_pos (show nI t.1 = 3 by rw [z]; rfl), bd_ld _ (by omega), h5.2.2.2.2.1 z, bd_in, b2i_f (fun w => hno ⟨z, w⟩), if_pos (by decide), bd_some f1']; rfl
      · rw [if_neg z] at f1
        have f1' : gX11_errs 1 B = some (-1, B') := f1
        rw [if_neg (show ¬ nI t.1 = 3 from fun w => z ((nI_eq (b := 3) (by omega) (by omega)).mp w)), bd_some f1']; rfl
set_option maxHeartbeats 400000 in
theorem p_add {T : Bk} {k : Nat} (l1 : (T 0).length = 5) (l2 : (T 1).length = 16) (l3 : (T 2).length = 16) (l4 : (T 3).length = 16) (l5 : (T 4).length = 16) (hk : (T 0).getD 0 0 = nI k) (hk16 : k < 16) (a b c d : Int32) : gX5_add a b c d T = some (0, up (up (up (up (up T 1 ((T 1).set k a)) 2 ((T 2).set k b)) 3 ((T 3).set k c)) 4 ((T 4).set k d)) 0 ((T 0).set 0 (nI (k + 1)))) := by
  have m : 0 < (T 0).length := by omega
  unfold gX5_add
  simp only [jn_eq]
  rw [bd_ld _ m, hk, if_neg (show ¬ (16 : Int32) ≤ nI k from nI_ge (b := 16) hk16 (by omega)), bd_ld _ m, hk, bd_sa _ (by omega) (by omega)]
  refine (bd_ld (i := 0) (k := 0) _ ?_).trans ?_
  · exact m
  show bd (sa 2 ((T 0).getD 0 0) b) _ _ = _
  rw [hk]
  refine (bd_sa (i := 2) (j := k) _ ?_ ?_).trans ?_
  · show k < (T 2).length; omega
  · show (T 2).length < 2 ^ 31; omega
  refine (bd_ld (i := 0) (k := 0) _ ?_).trans ?_
  · exact m
  show bd (sa 3 ((T 0).getD 0 0) c) _ _ = _
  rw [hk]
  refine (bd_sa (i := 3) (j := k) _ ?_ ?_).trans ?_
  · show k < (T 3).length; omega
  · show (T 3).length < 2 ^ 31; omega
  refine (bd_ld (i := 0) (k := 0) _ ?_).trans ?_
  · exact m
  show bd (sa 4 ((T 0).getD 0 0) d) _ _ = _
  rw [hk]
  refine (bd_sa (i := 4) (j := k) _ ?_ ?_).trans ?_
  · show k < (T 4).length; omega
  · show (T 4).length < 2 ^ 31; omega
  refine (bd_ld (i := 0) (k := 0) _ ?_).trans ?_
  · exact m
  show bd (sv 0 0 ((T 0).getD 0 0 + 1)) _ _ = _
  rw [hk, nI_1]
  refine (bd_sv (i := 0) (k := 0) _ ?_).trans ?_
  · exact m
  rfl
set_option maxHeartbeats 400000 in
theorem c_add {U : Bk} {k : Nat} (l1 : (U 1).length = 5) (l2 : (U 2).length = 16) (l3 : (U 3).length = 16) (l4 : (U 4).length = 16) (l5 : (U 5).length = 16) (hk : (U 1).getD 0 0 = nI k) (hk16 : k < 16) (a b c d : Int32) {β : Type} (K : Int32 → MM β) : bd (lf rh19 5 (gX5_add a b c d)) K U = K 0 (up (up (up (up (up U 2 ((U 2).set k a)) 3 ((U 3).set k b)) 4 ((U 4).set k c)) 5 ((U 5).set k d)) 1 ((U 1).set 0 (nI (k + 1)))) := by
  have e := p_add (T := fun i => U (rh19 i)) (k := k) l1 l2 l3 l4 l5 hk hk16 a b c d
  rw [bd_lf _ e, pu_up rh19_inj (by decide), pu_up rh19_inj (by decide), pu_up rh19_inj (by decide), pu_up rh19_inj (by decide), pu1 rh19_inj (by decide)]
  rfl
