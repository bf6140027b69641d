/-! PURE: text, a law: its lines -/
theorem nI_bv (v : Int32) : nI v.toBitVec.toNat = v := by
  apply Int32.toBitVec_inj.mp
  show (Int32.ofNat v.toBitVec.toNat).toBitVec = _
  simp [Int32.ofNat]
set_option maxHeartbeats 800000 in
theorem WQ_any {B : Bk} {o : Nat} (h : (B 0).getD 28 0 = nI o) : ∃ st, WQ B o st := by
  refine ⟨(List.range ((B 0).getD 30 0).toBitVec.toNat).map (fun i => ((B 16).getD i 0).toBitVec.toNat), h, ?_, fun i hi => ?_⟩
  · rw [List.length_map, List.length_range, nI_bv]
  · rw [List.length_map, List.length_range] at hi
    rw [show ((List.range ((B 0).getD 30 0).toBitVec.toNat).map (fun i => ((B 16).getD i 0).toBitVec.toNat)).getD i 0 = ((B 16).getD i 0).toBitVec.toNat by rw [List.getD_eq_getElem?_getD, List.getElem?_map, List.getElem?_range hi]; rfl, nI_bv]
theorem WS_new {ts : Nat → Nat} {n cd : Nat} {U0 B0 U B : Bk} {t : Tok} (h : WT ts n U0 U B0 B t) (c1 : (U 1).getD 1 0 = nI cd) (c2 : (B 0).getD 27 0 = nI cd) (hr : ∀ i, i < cd → RCode ((U 6).getD i 0) ((B 14).getD (800 + i) 0) ((B 15).getD (800 + i) 0)) (q : (B 0).getD 28 0 = nI 0) : ∃ st, WS ts n U0 B0 U B cd U B t 0 cd [] 0 st := by
  obtain ⟨st, hst⟩ := WQ_any q
  exact ⟨st, h, ⟨fun _ _ _ _ => rfl, rfl, fun _ _ _ _ _ => rfl, fun _ _ => rfl⟩, ⟨c1, c2, hr, fun i hi => absurd hi (Nat.not_lt_zero i), Nat.le_refl _, by rw [seg_nil]; rfl⟩, hst⟩
theorem WT_b {ts : Nat → Nat} {n c i : Nat} {U0 B0 U B : Bk} {t : Tok} {v : Int32} (h : WT ts n U0 U B0 B t) (hc : 10 ≤ c ∧ c ≤ 19) (hi : mnN c ≤ i) : WT ts n U0 U B0 (up B c ((B c).set i v)) t := ⟨h.1, h.2.1, h.2.2.1, FRR_c h.2.2.2.1 hc hi, TR_congr h.2.2.2.2 (fun k _ => by rw [up_ne _ _ (by omega)])⟩
def LN (U B : Bk) (cd i : Nat) : Prop := (U 2).getD i 0 = (B 10).getD (32 + i) 0 ∧ ∃ a b c : Nat, a ≤ b ∧ b ≤ c ∧ c ≤ cd ∧ (U 3).getD i 0 = nI a ∧ (U 4).getD i 0 = nI b ∧ (U 5).getD i 0 = nI c ∧ (B 11).getD (32 + i) 0 = nI a ∧ (B 12).getD (32 + i) 0 = nI b ∧ (B 13).getD (32 + i) 0 = nI c ∧ (∃ y, y ≠ 1 ∧ tcl (seg (U 6) a b) [] = some [y]) ∧ (b = c ∨ tcl (seg (U 6) b c) [] = some [1])
set_option maxHeartbeats 800000 in
theorem LN_c {U B U' B' : Bk} {cd cd' i : Nat} (h : LN U B cd i) (hcd : cd ≤ cd') (e : ∀ c, 2 ≤ c → c ≤ 5 → (U' c).getD i 0 = (U c).getD i 0) (f : ∀ c, 10 ≤ c → c ≤ 13 → (B' c).getD (32 + i) 0 = (B c).getD (32 + i) 0) (l6 : (U 6).length = 400) (l6' : (U' 6).length = 400) (h4 : cd ≤ 400) (e6 : ∀ k, k < cd → (U' 6).getD k 0 = (U 6).getD k 0) : LN U' B' cd' i := by
  obtain ⟨h1, a, b, c, ab, bc, cc, h3, h4', h5, g1, g2, g3, ⟨y, hy, t1⟩, t2⟩ := h
  refine ⟨by rw [e 2 (by omega) (by omega), f 10 (by omega) (by omega)]; exact h1, a, b, c, ab, bc, by omega, by rw [e 3 (by omega) (by omega)]; exact h3, by rw [e 4 (by omega) (by omega)]; exact h4', by rw [e 5 (by omega) (by omega)]; exact h5, by rw [f 11 (by omega) (by omega)]; exact g1, by rw [f 12 (by omega) (by omega)]; exact g2, by rw [f 13 (by omega) (by omega)]; exact g3, ⟨y, hy, ?_⟩, ?_⟩
  · rw [seg_take (m := U 6) (by omega) (by omega) (fun k hk => e6 k (by omega))]; exact t1
  · rcases t2 with t2 | t2
    · exact Or.inl t2
    · right
      rw [seg_take (m := U 6) (by omega) (by omega) (fun k hk => e6 k (by omega))]; exact t2
def RC (U B : Bk) (cd : Nat) : Prop := ∀ i, i < cd → RCode ((U 6).getD i 0) ((B 14).getD (800 + i) 0) ((B 15).getD (800 + i) 0)
def LI (ts : Nat → Nat) (n : Nat) (U0 B0 U B : Bk) (t : Tok) (cd l : Nat) : Prop := WT ts n U0 U B0 B t ∧ cd ≤ t.2.2.1 ∧ ((U 1).getD 0 0 = nI l ∧ (U 1).getD 1 0 = nI cd ∧ (B 0).getD 27 0 = nI cd ∧ (B 0).getD 28 0 = nI 0) ∧ RC U B cd ∧ ∀ i, i < l → LN U B cd i
/-- a line that is under way -/
def LPy (U B : Bk) (c l i a b : Nat) : Prop := ((U 1).getD 0 0 = nI l ∧ (U 1).getD 1 0 = nI c ∧ (B 0).getD 27 0 = nI c ∧ (B 0).getD 28 0 = nI 0) ∧ RC U B c ∧ (∀ k, k < l → LN U B c k) ∧ ((B 10).getD (32 + l) 0 = nI i ∧ (B 11).getD (32 + l) 0 = nI a ∧ (B 12).getD (32 + l) 0 = nI b) ∧ a ≤ b ∧ b ≤ c ∧ (∃ y, y ≠ 1 ∧ tcl (seg (U 6) a b) [] = some [y]) ∧ (b = c ∨ tcl (seg (U 6) b c) [] = some [1])
set_option maxHeartbeats 800000 in
theorem p_addLine {T : Bk} {l cd : Nat} (l0 : (T 0).length = 8) (l1 : (T 1).length = 16) (l2 : (T 2).length = 16) (l3 : (T 3).length = 16) (l4 : (T 4).length = 16) (h0 : (T 0).getD 0 0 = nI l) (h1 : (T 0).getD 1 0 = nI cd) (hl : l < 16) (x a b : Int32) : gX2_addLine x a b T = some (0, up (up (up (up (up T 1 ((T 1).set l x)) 2 ((T 2).set l a)) 3 ((T 3).set l b)) 4 ((T 4).set l (nI cd))) 0 ((T 0).set 0 (nI (l + 1)))) := by
  unfold gX2_addLine
  simp only [jn_eq]
  rw [bd_ld _ (by omega), h0, if_neg (show ¬ (16 : Int32) ≤ nI l from nI_ge (b := 16) hl (by omega)), bd_ld _ (by omega), h0, bd_sa _ (by omega) (by omega)]
  obtain ⟨C, hC⟩ : ∃ C, up T 1 ((T 1).set l x) = C := ⟨_, rfl⟩
  have c0 : C 0 = T 0 := by rw [← hC]; rfl
  have c2 : C 2 = T 2 := by rw [← hC]; rfl
  have c3 : C 3 = T 3 := by rw [← hC]; rfl
  have c4 : C 4 = T 4 := by rw [← hC]; rfl
  rw [hC, bd_ld _ (by rw [c0]; omega), c0, h0, bd_sa _ (by rw [c2]; omega) (by rw [c2]; omega), c2]
  obtain ⟨D, hD⟩ : ∃ D, up C 2 ((T 2).set l a) = D := ⟨_, rfl⟩
  have d0 : D 0 = T 0 := by rw [← hD, ← c0]; rfl
  have d3 : D 3 = T 3 := by rw [← hD, ← c3]; rfl
  have d4 : D 4 = T 4 := by rw [← hD, ← c4]; rfl
  rw [hD, bd_ld _ (by rw [d0]; omega), d0, h0, bd_sa _ (by rw [d3]; omega) (by rw [d3]; omega), d3]
  obtain ⟨E, hE⟩ : ∃ E, up D 3 ((T 3).set l b) = E := ⟨_, rfl⟩
  have e0 : E 0 = T 0 := by rw [← hE, ← d0]; rfl
  have e4 : E 4 = T 4 := by rw [← hE, ← d4]; rfl
  rw [hE, bd_ld _ (by rw [e0]; omega), e0, h0, bd_ld _ (by rw [e0]; omega), e0, h1, bd_sa _ (by rw [e4]; omega) (by rw [e4]; omega), e4]
  obtain ⟨F, hF⟩ : ∃ F, up E 4 ((T 4).set l (nI cd)) = F := ⟨_, rfl⟩
  have f0 : F 0 = T 0 := by rw [← hF, ← e0]; rfl
  rw [hF, bd_ld _ (by rw [f0]; omega), f0, h0, nI_1, bd_sv _ (by rw [f0]; omega), f0]
  rfl
set_option maxHeartbeats 800000 in
theorem c_addLine {U : Bk} {l cd : Nat} (l0 : (U 1).length = 8) (l1 : (U 2).length = 16) (l2 : (U 3).length = 16) (l3 : (U 4).length = 16) (l4 : (U 5).length = 16) (h0 : (U 1).getD 0 0 = nI l) (h1 : (U 1).getD 1 0 = nI cd) (hl : l < 16) (x a b : Int32) {β : Type} (K : Int32 → MM β) : bd (lf rh17 7 (gX2_addLine x a b)) K U = K 0 (up (up (up (up (up U 2 ((U 2).set l x)) 3 ((U 3).set l a)) 4 ((U 4).set l b)) 5 ((U 5).set l (nI cd))) 1 ((U 1).set 0 (nI (l + 1)))) := by
  have e := p_addLine (T := fun i => U (rh17 i)) (l := l) (cd := cd) l0 l1 l2 l3 l4 h0 h1 hl x a b
  rw [bd_lf _ e, pu_up rh17_inj (by decide), pu_up rh17_inj (by decide), pu_up rh17_inj (by decide), pu_up rh17_inj (by decide), pu1 rh17_inj (by decide)]
  rfl
def clT (self3 : Int32 → MM Int32) (s4 y9 v14 v16 : Int32) : MM Int32 :=
  bd (lf rh16 2 (gX7_take 59)) fun r20 =>
  (if r20 = 0 then
  rz 0
  else
  bd (lf rh17 7 (gX2_addLine y9 v14 v16)) fun r21 =>
  lt (s4 + 1) fun y22 =>
  self3 y22)
def clL (self3 : Int32 → MM Int32) (s4 y9 : Int32) : MM Int32 :=
  bd (lf rh16 2 gX7_next) fun r13 =>
  bd (ld 1 1) fun v14 =>
  bd gX3_readSum fun r15 =>
  (if r15 = 0 then
  rz 0
  else
  bd (ld 1 1) fun v16 =>
  bd (ld 8 2) fun v17 =>
  (if v17 = 316 then
  bd (lf rh16 2 gX7_next) fun r23 =>
  bd (gX3_readCondition 0) fun r24 =>
  (if r24 = 0 then
  rz 0
  else
  clT self3 s4 y9 v14 v16)
  else
  clT self3 s4 y9 v14 v16))
def clB : (Int32 → MM Int32) → Int32 → MM Int32 := fun self3 s4 =>
  (if 400 ≤ s4 then
  rz 1
  else
  bd (ld 8 2) fun v7 =>
  (if v7 = 256 then
  rz 1
  else
  bd (ld 8 2) fun v8 =>
  lt (v8 - 300) fun y9 =>
  bd (ld 8 2) fun v10 =>
  bd (lf rh0 0 (gX10_isWithin v10 300 302)) fun r11 =>
  (if r11 = 0 then
  bd (lf rh16 2 (gX7_refuse 1)) fun r26 =>
  rz r26
  else
  bd (ld 1 0) fun v12 =>
  (if v12 < 16 then
  clL self3 s4 y9
  else
  bd (lf rh16 2 (gX7_refuse 3)) fun r25 =>
  rz r25))))
theorem lcla_eq : gX3_readLaw = bd (lf rh17 7 gX2_empty) fun r1 => bd (lf rh16 2 gX7_next) fun r2 => loopC 100000 clB 0 := rfl
def rlT (self1 : Int32 → MM Int32) (s2 y8 : Int32) : MM Int32 :=
  bd (ld 0 27) fun v17 =>
  bd (sa 13 y8 v17) fun _ =>
  bd (gX11_isSign 59) fun r18 =>
  (if r18 = 0 then
  bd (gX11_errs 1) fun r21 =>
  pr r21
  else
  bd gX11_reads fun r19 =>
  lt (s2 + 1) fun y20 =>
  self1 y20)
def rlL (self1 : Int32 → MM Int32) (s2 y8 : Int32) : MM Int32 :=
  bd (ld 0 27) fun v13 =>
  bd (sa 12 y8 v13) fun _ =>
  bd (gX11_isWord 3) fun r14 =>
  (if r14 = 0 then
  rlT self1 s2 y8
  else
  bd gX11_reads fun r22 =>
  bd gX11_readAny fun r23 =>
  (if r23 = ((-1)) then
  pr ((-1))
  else
  rlT self1 s2 y8))
def rlS (self1 : Int32 → MM Int32) (s2 y8 : Int32) : MM Int32 :=
  bd (ld 0 17) fun v9 =>
  bd (sa 10 y8 v9) fun _ =>
  bd gX11_reads fun r10 =>
  bd (ld 0 27) fun v11 =>
  bd (sa 11 y8 v11) fun _ =>
  bd gX11_readSum fun r12 =>
  (if r12 = ((-1)) then
  pr ((-1))
  else
  rlL self1 s2 y8)
def rlB : (Int32 → MM Int32) → Int32 → MM Int32 := fun self1 s2 =>
  bd gX11_isLineWord fun r3 =>
  (if r3 = 0 then
  bd (ld 0 16) fun v4 =>
  (if v4 = 0 then
  pr s2
  else
  bd (gX11_errs 1) fun r7 =>
  pr r7)
  else
  (if s2 = 16 then
  bd (gX11_errs 3) fun r24 =>
  pr r24
  else
  lt (32 + s2) fun y8 =>
  rlS self1 s2 y8))
theorem lrla_eq : gX11_readLaw = loopC 100000 rlB 0 := rfl
theorem lw_t : ∀ v, v < 22 → (rhoW v ≤ 2 ↔ v ≤ 2) ∧ (v ≤ 2 → rhoW v = v) := by decide
set_option maxHeartbeats 800000 in
theorem w_isL {ts : Nat → Nat} {n : Nat} {U0 B0 U B : Bk} {t : Tok} (hE : WE ts n U0 B0) (h : WT ts n U0 U B0 B t) {β : Type} (K : Int32 → MM β) : bd gX11_isLineWord K B = K (b2i (t.1 = 2 ∧ t.2.1 ≤ 2)) B := by
  obtain ⟨l8, e2, hlt, bl, t4, tn, n4⟩ := w_ck hE h
  obtain ⟨tr1, tr2, tr3, tr4, tr5, tr6⟩ := h.2.2.2.2
  refine bd_some ?_
  unfold gX11_isLineWord
  rw [bd_ld _ (by omega), tr3]
  simp only [jn_eq]
  by_cases c2 : t.1 = 2
  · have v22 := (TK_ok hE.1 h.1).2.2.2.2.2.1 c2
    have hw := lw_t _ v22
    have r22 := (rho_t _ v22).1
    have hi : ((0 : Int32) ≤ nI (rhoW t.2.1) ∧ nI (rhoW t.2.1) ≤ 2) ↔ t.2.1 ≤ 2 := by
      have e1 : nI (rhoW t.2.1) ≤ (2 : Int32) ↔ rhoW t.2.1 ≤ 2 := nI_leI (b := 2) (by omega) (by omega)
      rw [e1, hw.1]
      exact ⟨fun z => z.2, fun z => ⟨nI_pos' (by omega), z⟩⟩
    rw [if_pos (show nI t.1 = (2 : Int32) by rw [c2]; rfl), bd_ld _ (by omega), tr4 c2, bd_some (p_isIn _ _ _ _)]
    by_cases c : t.2.1 ≤ 2
    · rw [b2i_t (hi.mpr c), b2i_t ⟨c2, c⟩, if_neg (show ¬ nI 1 = (0 : Int32) by decide)]; rfl
    · rw [b2i_f (fun z => c (hi.mp z)), b2i_f (fun z => c z.2), if_pos (show nI 0 = (0 : Int32) from rfl)]; rfl
  · rw [if_neg (show ¬ nI t.1 = (2 : Int32) from fun z => c2 ((nI_eq (b := 2) (by omega) (by omega)).mp z)), b2i_f (fun z => c2 z.1)]; rfl
set_option maxHeartbeats 800000 in
theorem ln_tail {ts : Nat → Nat} {n c l i a b : Nat} {U0 B0 U B : Bk} {t : Tok} (hE : WE ts n U0 B0) (h : WT ts n U0 U B0 B t) (hl : l < 16) (hc : c ≤ t.2.2.1) (hp : LPy U B c l i a b) : (∃ U' B', (∀ self : Int32 → MM Int32, clT self (nI l) (nI i) (nI a) (nI b) U = self (nI (l + 1)) U') ∧ (∀ self : Int32 → MM Int32, rlT self (nI l) (nI (32 + l)) B = self (nI (l + 1)) B') ∧ LI ts n U0 B0 U' B' (nxT ts n t) c (l + 1)) ∨ (∃ U' B', (∀ self : Int32 → MM Int32, clT self (nI l) (nI i) (nI a) (nI b) U = some (0, U')) ∧ (∀ self : Int32 → MM Int32, rlT self (nI l) (nI (32 + l)) B = some (-1, B')) ∧ WF U0 U' B0 B') := by
  obtain ⟨⟨p1, p2, p3, p4⟩, hr, hln, ⟨x10, x11, x12⟩, ab, bc, ty1, ty2⟩ := hp
  obtain ⟨l8, e2, hlt, bl, t4, tn, n4⟩ := w_ck hE h
  have hE' := hE
  obtain ⟨hx, hy, hb, ⟨u1, u2, u3, u4, u5, u6⟩, ⟨b10, b11, b12, b13, b14, b15, b16⟩⟩ := hE'
  have m13 : (B 13).length = 48 := by rw [h.2.2.2.1.1 13]; exact b13
  have m6 : (U 6).length = 400 := by rw [h.2.1.1 6 (by decide)]; exact u6
  have hB : WT ts n U0 U B0 (up B 13 ((B 13).set (32 + l) (nI c))) t := WT_b h (by decide) (by show 16 ≤ _; omega)
  have s59 := fun {β : Type} (K : Int32 → MM β) => w_isS (c := 59) hE hB (by decide) K
  have k10 : ¬ nI 1 = (0 : Int32) := by decide
  have k00 : nI 0 = (0 : Int32) := rfl
  by_cases c59 : t.1 = 4 ∧ t.2.1 = 59
  · obtain ⟨U1, B1, g1, f1, w1, q1, q2, q3⟩ := wt_sign (c := 59) hE hB (by decide) c59
    have g1' : ∀ {β : Type} (K : Int32 → MM β), bd (lf rh16 2 (gX7_take 59)) K U = K 1 U1 := fun K => g1 K
    have nx := (TK_nx hE.1 h.1).2.1 (by omega)
    have le : ∀ c, c ≠ 8 → (U1 c).length = (U0 c).length := w1.2.1.1
    have m2 : (U1 2).length = 16 := by rw [le 2 (by decide)]; exact u2
    have m3 : (U1 3).length = 16 := by rw [le 3 (by decide)]; exact u3
    have m4 : (U1 4).length = 16 := by rw [le 4 (by decide)]; exact u4
    have m5 : (U1 5).length = 16 := by rw [le 5 (by decide)]; exact u5
    have m1 : (U1 1).length = 8 := by rw [le 1 (by decide)]; exact u1
    have ga := fun {β : Type} (K : Int32 → MM β) => c_addLine m1 m2 m3 m4 m5 (by rw [q1 1 (by decide)]; exact p1) (by rw [q1 1 (by decide)]; exact p2) hl (nI i) (nI a) (nI b) K
    obtain ⟨V, hV⟩ : ∃ V, up (up (up (up (up U1 2 ((U1 2).set l (nI i))) 3 ((U1 3).set l (nI a))) 4 ((U1 4).set l (nI b))) 5 ((U1 5).set l (nI c))) 1 ((U1 1).set 0 (nI (l + 1))) = V := ⟨_, rfl⟩
    have v1 : V 1 = (U1 1).set 0 (nI (l + 1)) := by rw [← hV]; rfl
    have v2 : V 2 = (U1 2).set l (nI i) := by rw [← hV]; rfl
    have v3 : V 3 = (U1 3).set l (nI a) := by rw [← hV]; rfl
    have v4 : V 4 = (U1 4).set l (nI b) := by rw [← hV]; rfl
    have v5 : V 5 = (U1 5).set l (nI c) := by rw [← hV]; rfl
    have v6 : V 6 = U 6 := by rw [← hV, ← q1 6 (by decide)]; rfl
    have v8 : V 8 = U1 8 := by rw [← hV]; rfl
    have vw : WV U0 V := by
      rw [← hV]
      exact WV_s (WV_s (WV_s (WV_s (WV_s w1.2.1 (by decide)) (by decide)) (by decide)) (by decide)) (by decide)
    rw [hV] at ga
    refine Or.inl ⟨V, B1, fun self => ?_, fun self => ?_, ⟨w1.1, vw, by rw [v8]; exact w1.2.2.1, w1.2.2.2.1, w1.2.2.2.2⟩, by omega, ⟨by rw [v1, gd_set_same (by omega)], by rw [v1, gd_set_ne (by decide), q1 1 (by decide)]; exact p2, by rw [q3 27 (by decide), up_ne _ _ (by decide)]; exact p3, by rw [q3 28 (by decide), up_ne _ _ (by decide)]; exact p4⟩, fun k hk => ?_, fun k hk => ?_⟩
    · unfold clT
      rw [g1', if_neg (by decide), ga, lt_eq, nI_1]
    · unfold rlT
      rw [bd_ld _ (by omega), p3, bd_sa _ (by omega) (by omega), show (59 : Int32) = nI 59 from rfl, s59, b2i_t c59, if_neg k10, f1, lt_eq, nI_1]
    · rw [v6, q2 14 (by decide), q2 15 (by decide), up_ne _ _ (by decide), up_ne _ _ (by decide)]
      exact hr k hk
    · by_cases z : k = l
      · subst z
        refine ⟨by rw [v2, gd_set_same (by omega), q2 10 (by decide), up_ne _ _ (by decide)]; exact x10.symm, a, b, c, ab, bc, Nat.le_refl _, by rw [v3, gd_set_same (by omega)], by rw [v4, gd_set_same (by omega)], by rw [v5, gd_set_same (by omega)], by rw [q2 11 (by decide), up_ne _ _ (by decide)]; exact x11, by rw [q2 12 (by decide), up_ne _ _ (by decide)]; exact x12, by rw [q2 13 (by decide), up_same, gd_set_same (by omega)], ?_, ?_⟩
        · rw [v6]; exact ty1
        · rw [v6]; exact ty2
      · refine LN_c (hln k (by omega)) (Nat.le_refl _) (fun q a2 a5 => ?_) (fun q a10 a13 => ?_) m6 (by rw [v6]; exact m6) (by omega) (fun _ _ => by rw [v6])
        · rcases (by omega : q = 2 ∨ q = 3 ∨ q = 4 ∨ q = 5) with rfl | rfl | rfl | rfl
          · rw [v2, gd_set_ne (by omega), q1 2 (by decide)]
          · rw [v3, gd_set_ne (by omega), q1 3 (by decide)]
          · rw [v4, gd_set_ne (by omega), q1 4 (by decide)]
          · rw [v5, gd_set_ne (by omega), q1 5 (by decide)]
        · rw [q2 q (by omega)]
          by_cases z13 : q = 13
          · subst z13
            rw [up_same, gd_set_ne (by omega)]
          · rw [up_ne _ _ z13]
  · obtain ⟨U1, B1, g1, f1, fl⟩ := wt_sign' (c := 59) hE hB (by decide) c59
    have g1' : ∀ {β : Type} (K : Int32 → MM β), bd (lf rh16 2 (gX7_take 59)) K U = K 0 U1 := fun K => g1 K
    refine Or.inr ⟨U1, B1, fun self => ?_, fun self => ?_, fl⟩
    · unfold clT
      rw [g1', if_pos rfl]; rfl
    · unfold rlT
      rw [bd_ld _ (by omega), p3, bd_sa _ (by omega) (by omega), show (59 : Int32) = nI 59 from rfl, s59, b2i_f c59, if_pos k00, f1]; rfl
set_option maxHeartbeats 800000 in
theorem w_line {ts : Nat → Nat} {n cd l : Nat} {U0 B0 U B : Bk} {t : Tok} (hE : WE ts n U0 B0) (h : LI ts n U0 B0 U B t cd l) (hl : l ≤ 16) : (∃ U' B', (∀ self : Int32 → MM Int32, clB self (nI l) U = some (0, U')) ∧ (∀ self : Int32 → MM Int32, rlB self (nI l) B = some (-1, B')) ∧ WF U0 U' B0 B') ∨ ((∀ self : Int32 → MM Int32, clB self (nI l) U = some (1, U)) ∧ (∀ self : Int32 → MM Int32, rlB self (nI l) B = some (nI l, B))) ∨ (l < 16 ∧ ∃ U' B' t' cd', (∀ self : Int32 → MM Int32, clB self (nI l) U = self (nI (l + 1)) U') ∧ (∀ self : Int32 → MM Int32, rlB self (nI l) B = self (nI (l + 1)) B') ∧ LI ts n U0 B0 U' B' t' cd' (l + 1)) := by
  obtain ⟨hw, hcd, ⟨p1, p2, p3, p4⟩, hr, hln⟩ := h
  obtain ⟨l8, e2, hlt, bl, t4, tn, n4⟩ := w_ck hE hw
  obtain ⟨tr1, tr2, tr3, tr4, tr5, tr6⟩ := hw.2.2.2.2
  have hE' := hE
  obtain ⟨hx, hy, hb, ⟨u1, u2, u3, u4, u5, u6⟩, ⟨b10, b11, b12, b13, b14, b15, b16⟩⟩ := hE'
  have k10 : ¬ nI 1 = (0 : Int32) := by decide
  have k00 : nI 0 = (0 : Int32) := rfl
  have l1 : (U 1).length = 8 := by rw [hw.2.1.1 1 (by decide)]; exact u1
  have ige : ¬ (400 : Int32) ≤ nI l := nI_ge (b := 400) (by omega) (by omega)
  have isL := fun {β : Type} (K : Int32 → MM β) => w_isL hE hw K
  have xend : nI (ctk t) = (256 : Int32) ↔ t.1 = 0 := by
    rw [show (256 : Int32) = nI 256 from rfl, nI_eq (by omega) (by omega)]
    exact ctk_end hx hw.1
  have x0 : nI t.1 = (0 : Int32) ↔ t.1 = 0 := nI_eq (b := 0) (by omega) (by omega)
  by_cases c0 : t.1 = 0
  · refine Or.inr (Or.inl ⟨fun self => ?_, fun self => ?_⟩)
    · unfold clB
      rw [if_neg ige, bd_ld _ (by omega), e2, if_pos (xend.mpr c0)]; rfl
    · unfold rlB
      rw [isL, b2i_f (fun z => by omega), if_pos k00, bd_ld _ (by omega), tr3, if_pos (x0.mpr c0)]; rfl
  · have hrng : ((300 : Int32) ≤ nI (ctk t) ∧ nI (ctk t) ≤ 302) ↔ (t.1 = 2 ∧ 0 ≤ t.2.1 ∧ t.2.1 ≤ 2) := ctk_rng (a := 0) (b := 2) hx hw.1 (by decide) (by decide)
    have eC : ∀ self : Int32 → MM Int32, clB self (nI l) U = (if b2i ((300 : Int32) ≤ nI (ctk t) ∧ nI (ctk t) ≤ 302) = 0 then bd (lf rh16 2 (gX7_refuse 1)) fun r26 => rz r26 else bd (ld 1 0) fun v12 => (if v12 < 16 then clL self (nI l) (nI (ctk t) - 300) else bd (lf rh16 2 (gX7_refuse 3)) fun r25 => rz r25)) U := by
      intro self
      unfold clB
      rw [if_neg ige, bd_ld _ (by omega), e2, if_neg (fun z => c0 (xend.mp z)), bd_ld _ (by omega), e2, lt_eq, bd_ld _ (by omega), e2, bd_iw]
    by_cases cL : t.1 = 2 ∧ t.2.1 ≤ 2
    · have v22 := (TK_ok hx hw.1).2.2.2.2.2.1 cL.1
      have hrho := (lw_t _ v22).2 cL.2
      by_cases c16 : l < 16
      · obtain ⟨i, hi⟩ : ∃ i, t.2.1 = i := ⟨_, rfl⟩
        have yi : (nI (ctk t) - 300 : Int32) = nI i := by
          rw [(ctk_word (i := t.2.1) hx hw.1 v22).mpr ⟨cL.1, rfl⟩, hi]
          show nI (300 + i) - nI 300 = _
          rw [pk_sub (by omega), show 300 + i - 300 = i by omega]
        have nx := (TK_nx hx hw.1).2.1 (by omega)
        have m10 : (B 10).length = 48 := by rw [hw.2.2.2.1.1 10]; exact b10
        have w1 : WT ts n U0 U B0 (up B 10 ((B 10).set (32 + l) (nI i))) t := WT_b hw (by decide) (by show 16 ≤ _; omega)
        obtain ⟨U2, B2, g2, f2, w2, q1, q2, q3⟩ := wt_next hE w1
        have bl2 := (w_ck hE w2).2.2.2.1
        have m11 : (B2 11).length = 48 := by rw [w2.2.2.2.1.1 11]; exact b11
        have w3 : WT ts n U0 U2 B0 (up B2 11 ((B2 11).set (32 + l) (nI cd))) (nxT ts n t) := WT_b w2 (by decide) (by show 16 ≤ _; omega)
        have r27 : (B2 0).getD 27 0 = nI cd := by rw [q3 27 (by decide), up_ne _ _ (by decide)]; exact p3
        have r28 : (B2 0).getD 28 0 = nI 0 := by rw [q3 28 (by decide), up_ne _ _ (by decide)]; exact p4
        obtain ⟨B3, hB3⟩ : ∃ B3, up B2 11 ((B2 11).set (32 + l) (nI cd)) = B3 := ⟨_, rfl⟩
        rw [hB3] at w3
        have z3 : ∀ c, c ≠ 11 → B3 c = B2 c := fun c hc => by rw [← hB3, up_ne _ _ hc]
        have z11 : B3 11 = (B2 11).set (32 + l) (nI cd) := by rw [← hB3, up_same]
        have hr3 : RC U2 B3 cd := fun k hk => by
          rw [z3 14 (by decide), z3 15 (by decide), q1 6 (by decide), q2 14 (by decide), q2 15 (by decide), up_ne _ _ (by decide), up_ne _ _ (by decide)]
          exact hr k hk
        have len6 : ∀ {V C : Bk} {t' : Tok}, WT ts n U0 V B0 C t' → (V 6).length = 400 := fun hh => by rw [hh.2.1.1 6 (by decide)]; exact u6
        have hln3 : ∀ k, k < l → LN U2 B3 cd k := fun k hk => by
          refine LN_c (hln k hk) (Nat.le_refl _) (fun q a2 a5 => by rw [q1 q (by omega)]) (fun q a10 a13 => ?_) (len6 hw) (len6 w2) (by omega) (fun _ _ => by rw [q1 6 (by decide)])
          by_cases z : q = 11
          · subst z
            rw [z11, gd_set_ne (by omega), q2 11 (by decide), up_ne _ _ (by decide)]
          · rw [z3 q z, q2 q (by omega)]
            by_cases z' : q = 10
            · subst z'
              rw [up_same, gd_set_ne (by omega)]
            · rw [up_ne _ _ z']
        obtain ⟨st, hS⟩ := WS_new w3 (by rw [q1 1 (by decide)]; exact p2) (by rw [z3 0 (by decide)]; exact r27) hr3 (by rw [z3 0 (by decide)]; exact r28)
        obtain ⟨r, U3, r', B4, g4, f4, hP⟩ := w_sum (p := 0) hE hS (by omega)
        have e1 : (U2 1).getD 1 0 = nI cd := by rw [q1 1 (by decide)]; exact p2
        have l21 : (U2 1).length = 8 := by rw [w2.2.1.1 1 (by decide)]; exact u1
        have eA : ∀ self : Int32 → MM Int32, clB self (nI l) U = (if r = 0 then rz 0 else bd (ld 1 1) fun v16 => bd (ld 8 2) fun v17 => (if v17 = 316 then bd (lf rh16 2 gX7_next) fun r23 => bd (gX3_readCondition 0) fun r24 => (if r24 = 0 then rz 0 else clT self (nI l) (nI i) (nI cd) v16) else clT self (nI l) (nI i) (nI cd) v16)) U3 := by
          intro self
          rw [eC, b2i_t (hrng.mpr ⟨cL.1, Nat.zero_le _, cL.2⟩), if_neg k10, bd_ld _ (by omega), p1, if_pos (show nI l < (16 : Int32) from (nI_ltI (b := 16) (by omega) (by omega)).mpr c16), yi]
          unfold clL
          rw [g2, bd_ld _ (by omega), e1, bd_some g4]
        have eB : ∀ self : Int32 → MM Int32, rlB self (nI l) B = (if r' = ((-1)) then pr ((-1)) else rlL self (nI l) (nI (32 + l))) B4 := by
          intro self
          unfold rlB
          rw [isL, b2i_t cL, if_neg k10, if_neg (show ¬ nI l = (16 : Int32) from fun z => by have := (nI_eq (b := 16) (by omega) (by omega)).mp z; omega), lt_eq, show (32 + nI l : Int32) = nI (32 + l) from nI_add 32 l]
          unfold rlS
          rw [bd_ld _ (by omega), tr4 cL.1, hrho, hi, bd_sa _ (by omega) (by omega), f2, bd_ld _ (by omega), r27, bd_sa _ (by omega) (by omega), hB3, bd_some f4]
        rcases hP with ⟨rfl, rfl, fl⟩ | ⟨rfl, rfl, t3, cd3, y, hy1, W3, hp3, hlo⟩
        · refine Or.inl ⟨U3, B4, fun self => ?_, fun self => ?_, fl⟩
          · rw [eA, if_pos rfl]; rfl
          · rw [eB, if_pos rfl]; rfl
        · obtain ⟨w4, ⟨k1, k2, k3, k4⟩, ⟨d1, d2, d3, d4, d5, d6⟩, q28, -⟩ := W3
          obtain ⟨l83, e23, hlt3, bl3, t43, tn3, -⟩ := w_ck hE w4
          have m12 : (B4 12).length = 48 := by rw [w4.2.2.2.1.1 12]; exact b12
          have w5 : WT ts n U0 U3 B0 (up B4 12 ((B4 12).set (32 + l) (nI cd3))) t3 := WT_b w4 (by decide) (by show 16 ≤ _; omega)
          obtain ⟨B5, hB5⟩ : ∃ B5, up B4 12 ((B4 12).set (32 + l) (nI cd3)) = B5 := ⟨_, rfl⟩
          rw [hB5] at w5
          have z5 : ∀ c, c ≠ 12 → B5 c = B4 c := fun c hc => by rw [← hB5, up_ne _ _ hc]
          have z12 : B5 12 = (B4 12).set (32 + l) (nI cd3) := by rw [← hB5, up_same]
          have l31 : (U3 1).length = 8 := by rw [w4.2.1.1 1 (by decide)]; exact u1
          have p31 : (U3 1).getD 0 0 = nI l := by rw [k2, q1 1 (by decide)]; exact p1
          have hr5 : RC U3 B5 cd3 := fun k hk => by
            rw [z5 14 (by decide), z5 15 (by decide)]
            exact d3 k hk
          have hln5 : ∀ k, k < l → LN U3 B5 cd3 k := fun k hk => by
            refine LN_c (hln3 k hk) d5 (fun q a2 a5 => by rw [k1 q (by omega) (by omega) (by omega)]) (fun q a10 a13 => ?_) (len6 w2) (len6 w4) (by omega) k4
            by_cases z : q = 12
            · subst z
              rw [z12, gd_set_ne (by omega), k3 12 (by decide) (by decide) (by decide) (by decide)]
            · rw [z5 q z, k3 q (by omega) (by omega) (by omega) (by omega)]
          have x10 : (B5 10).getD (32 + l) 0 = nI i := by rw [z5 10 (by decide), k3 10 (by decide) (by decide) (by decide) (by decide), z3 10 (by decide), q2 10 (by decide), up_same, gd_set_same (by omega)]
          have x11 : (B5 11).getD (32 + l) 0 = nI cd := by rw [z5 11 (by decide), k3 11 (by decide) (by decide) (by decide) (by decide), z11, gd_set_same (by omega)]
          have x12 : (B5 12).getD (32 + l) 0 = nI cd3 := by rw [z12, gd_set_same (by omega)]
          have r275 : (B5 0).getD 27 0 = nI cd3 := by rw [z5 0 (by decide)]; exact d2
          have r285 : (B5 0).getD 28 0 = nI 0 := by rw [z5 0 (by decide)]; exact q28
          have i16 := fun {β : Type} (K : Int32 → MM β) => w_isW (i := 16) hE w5 (by decide) K
          have x16 := w_wN (i := 16) hE w4 (by decide)
          have eA2 : ∀ self : Int32 → MM Int32, clB self (nI l) U = (if nI (ctk t3) = 316 then bd (lf rh16 2 gX7_next) fun r23 => bd (gX3_readCondition 0) fun r24 => (if r24 = 0 then rz 0 else clT self (nI l) (nI i) (nI cd) (nI cd3)) else clT self (nI l) (nI i) (nI cd) (nI cd3)) U3 := by
            intro self
            rw [eA, if_neg (by decide), bd_ld _ (by omega), d1, bd_ld _ (by omega), e23]
          have eB2 : ∀ self : Int32 → MM Int32, rlB self (nI l) B = (if b2i (t3.1 = 2 ∧ t3.2.1 = 16) = 0 then rlT self (nI l) (nI (32 + l)) else bd gX11_reads fun r22 => bd gX11_readAny fun r23 => (if r23 = ((-1)) then pr ((-1)) else rlT self (nI l) (nI (32 + l)))) B5 := by
            intro self
            rw [eB, if_neg (by decide)]
            unfold rlL
            have d2' : (B4 0).getD 27 0 = nI cd3 := d2
            rw [bd_ld _ (by omega), d2', bd_sa _ (by omega) (by omega), hB5, show (3 : Int32) = nI (rhoW 16) from rfl, i16]
          by_cases cW : t3.1 = 2 ∧ t3.2.1 = 16
          · obtain ⟨U6, B6, g6, f6, w6, y1, y2, y3⟩ := wt_next hE w5
            have nx3 := (TK_nx hx w5.1).2.1 (by omega)
            have hr6 : RC U6 B6 cd3 := fun k hk => by
              rw [y1 6 (by decide), y2 14 (by decide), y2 15 (by decide)]
              exact hr5 k hk
            obtain ⟨st6, hS6⟩ := WS_new w6 (by rw [y1 1 (by decide)]; exact d1) (by rw [y3 27 (by decide)]; exact r275) hr6 (by rw [y3 28 (by decide)]; exact r285)
            obtain ⟨r, U7, r', B7, g7, f7, hP⟩ := w_cond hE hS6 (by omega)
            have eA3 : ∀ self : Int32 → MM Int32, clB self (nI l) U = (if r = 0 then rz 0 else clT self (nI l) (nI i) (nI cd) (nI cd3)) U7 := by
              intro self
              rw [eA2, if_pos (show nI (ctk t3) = 316 from x16.mpr cW), g6, bd_some g7]
            have eB3 : ∀ self : Int32 → MM Int32, rlB self (nI l) B = (if r' = ((-1)) then pr ((-1)) else rlT self (nI l) (nI (32 + l))) B7 := by
              intro self
              rw [eB2, b2i_t cW, if_neg k10, f6, bd_some f7]
            rcases hP with ⟨rfl, rfl, fl⟩ | ⟨rfl, rfl, t7, cd7, W7, hp7, hlo7⟩
            · refine Or.inl ⟨U7, B7, fun self => ?_, fun self => ?_, fl⟩
              · rw [eA3, if_pos rfl]; rfl
              · rw [eB3, if_pos rfl]; rfl
            · obtain ⟨w7, ⟨j1, j2, j3, j4⟩, ⟨f1', f2', f3', f4', f5', f6'⟩, q287, -⟩ := W7
              obtain ⟨-, -, -, -, -, tn7, -⟩ := w_ck hE w7
              have hp : LPy U7 B7 cd7 l i cd cd3 := by
                refine ⟨⟨by rw [j2, y1 1 (by decide)]; exact p31, f1', f2', q287⟩, f3', fun k hk => ?_, ⟨?_, ?_, ?_⟩, d5, f5', ⟨y, hy1, ?_⟩, Or.inr f6'⟩
                · refine LN_c (hln5 k hk) f5' (fun q a2 a5 => by rw [j1 q (by omega) (by omega) (by omega), y1 q (by omega)]) (fun q a10 a13 => by rw [j3 q (by omega) (by omega) (by omega) (by omega), y2 q (by omega)]) (len6 w4) (len6 w7) (by omega) (fun k hk => by rw [j4 k hk, y1 6 (by decide)])
                · rw [j3 10 (by decide) (by decide) (by decide) (by decide), y2 10 (by decide)]; exact x10
                · rw [j3 11 (by decide) (by decide) (by decide) (by decide), y2 11 (by decide)]; exact x11
                · rw [j3 12 (by decide) (by decide) (by decide) (by decide), y2 12 (by decide)]; exact x12
                · rw [seg_take (m := U3 6) (by rw [len6 w7]; omega) (by rw [len6 w4]; omega) (fun k hk => by rw [j4 k hk, y1 6 (by decide)])]
                  exact d6
              rcases ln_tail hE w7 c16 (by omega) hp with ⟨U', B', a1, a2, a3⟩ | ⟨U', B', a1, a2, a3⟩
              · exact Or.inr (Or.inr ⟨c16, U', B', _, _, fun self => by rw [eA3, if_neg (by decide), a1], fun self => by rw [eB3, if_neg (by decide), a2], a3⟩)
              · exact Or.inl ⟨U', B', fun self => by rw [eA3, if_neg (by decide), a1], fun self => by rw [eB3, if_neg (by decide), a2], a3⟩
          · have hp : LPy U3 B5 cd3 l i cd cd3 := ⟨⟨p31, d1, r275, r285⟩, hr5, hln5, ⟨x10, x11, x12⟩, d5, Nat.le_refl _, ⟨y, hy1, d6⟩, Or.inl rfl⟩
            rcases ln_tail hE w5 c16 (by omega) hp with ⟨U', B', a1, a2, a3⟩ | ⟨U', B', a1, a2, a3⟩
            · exact Or.inr (Or.inr ⟨c16, U', B', _, _, fun self => by rw [eA2, if_neg (show ¬ nI (ctk t3) = 316 from fun z => cW (x16.mp z)), a1], fun self => by rw [eB2, b2i_f cW, if_pos k00, a2], a3⟩)
            · exact Or.inl ⟨U', B', fun self => by rw [eA2, if_neg (show ¬ nI (ctk t3) = 316 from fun z => cW (x16.mp z)), a1], fun self => by rw [eB2, b2i_f cW, if_pos k00, a2], a3⟩
      · obtain ⟨U2, B2, g2, f2, fl⟩ := wt_refuse hE hw 3
        have g2' : ∀ {β : Type} (K : Int32 → MM β), bd (lf rh16 2 (gX7_refuse 3)) K U = K 0 U2 := fun K => g2 K
        have f2' : ∀ {β : Type} (K : Int32 → MM β), bd (gX11_errs 3) K B = K (-1) B2 := fun K => f2 K
        refine Or.inl ⟨U2, B2, fun self => ?_, fun self => ?_, fl⟩
        · rw [eC, b2i_t (hrng.mpr ⟨cL.1, Nat.zero_le _, cL.2⟩), if_neg k10, bd_ld _ (by omega), p1, if_neg (show ¬ nI l < (16 : Int32) from fun z => c16 ((nI_ltI (b := 16) (by omega) (by omega)).mp z)), g2']; rfl
        · unfold rlB
          rw [isL, b2i_t cL, if_neg k10, if_pos (show nI l = (16 : Int32) by rw [show l = 16 by omega]; rfl), f2']; rfl
    · obtain ⟨U2, B2, g2, f2, fl⟩ := wt_refuse hE hw 1
      have g2' : ∀ {β : Type} (K : Int32 → MM β), bd (lf rh16 2 (gX7_refuse 1)) K U = K 0 U2 := fun K => g2 K
      have f2' : ∀ {β : Type} (K : Int32 → MM β), bd (gX11_errs 1) K B = K (-1) B2 := fun K => f2 K
      refine Or.inl ⟨U2, B2, fun self => ?_, fun self => ?_, fl⟩
      · rw [eC, b2i_f (fun z => cL ⟨(hrng.mp z).1, (hrng.mp z).2.2⟩), if_pos k00, g2']; rfl
      · unfold rlB
        rw [isL, b2i_f cL, if_pos k00, bd_ld _ (by omega), tr3, if_neg (fun z => c0 (x0.mp z)), f2']; rfl
def PLaw (ts : Nat → Nat) (n : Nat) (U0 B0 : Bk) (r : Int32) (U' : Bk) (r' : Int32) (B' : Bk) : Prop := (r = 0 ∧ r' = -1 ∧ WF U0 U' B0 B') ∨ (r = 1 ∧ ∃ (l cd : Nat) (t : Tok), r' = nI l ∧ l ≤ 16 ∧ LI ts n U0 B0 U' B' t cd l)
set_option maxHeartbeats 800000 in
theorem w_lines {ts : Nat → Nat} {n : Nat} {U0 B0 : Bk} (hE : WE ts n U0 B0) : ∀ d {U B : Bk} {t : Tok} {cd l N M : Nat}, LI ts n U0 B0 U B t cd l → l ≤ 16 → 16 - l ≤ d → d < N → d < M → J2 (loopC N clB (nI l) U) (loopC M rlB (nI l) B) (PLaw ts n U0 B0) := by
  intro d
  induction d with
  | zero =>
    intro U B t cd l N M h hl hd hN hM
    obtain ⟨N, rfl⟩ : ∃ q, N = q + 1 := ⟨N - 1, by omega⟩
    obtain ⟨M, rfl⟩ : ∃ q, M = q + 1 := ⟨M - 1, by omega⟩
    rw [loopC_s, loopC_s]
    rcases w_line hE h hl with ⟨U', B', a1, a2, a3⟩ | ⟨a1, a2⟩ | ⟨c16, U', B', t', cd', a1, a2, a3⟩
    · exact ⟨_, _, _, _, a1 _, a2 _, Or.inl ⟨rfl, rfl, a3⟩⟩
    · exact ⟨_, _, _, _, a1 _, a2 _, Or.inr ⟨rfl, l, cd, t, rfl, hl, h⟩⟩
    · omega
  | succ d ih =>
    intro U B t cd l N M h hl hd hN hM
    obtain ⟨N, rfl⟩ : ∃ q, N = q + 1 := ⟨N - 1, by omega⟩
    obtain ⟨M, rfl⟩ : ∃ q, M = q + 1 := ⟨M - 1, by omega⟩
    rw [loopC_s, loopC_s]
    rcases w_line hE h hl with ⟨U', B', a1, a2, a3⟩ | ⟨a1, a2⟩ | ⟨c16, U', B', t', cd', a1, a2, a3⟩
    · exact ⟨_, _, _, _, a1 _, a2 _, Or.inl ⟨rfl, rfl, a3⟩⟩
    · exact ⟨_, _, _, _, a1 _, a2 _, Or.inr ⟨rfl, l, cd, t, rfl, hl, h⟩⟩
    · rw [a1, a2]
      exact ih a3 (by omega) (by omega) (by omega) (by omega)
