/-! PURE: text: begin and end -/
def tcE (a3 : Int32) : MM Int32 :=
  bd (sv 113 0 0) fun _ =>
  pr a3
def tcL (x1 : Int32) : MM Int32 :=
  bd (lf rh0 0 (gX10_isWithin x1 1 3)) fun r6 =>
  (if r6 = 0 then
  tcE ((-1))
  else
  bd (lf rh26 21 (gX4_readLines x1)) fun r7 =>
  (if r7 = 0 then
  tcE ((-1))
  else
  bd (gX10_tellLines x1) fun r8 =>
  tcE r8))
theorem tc_eq (x1 : Int32) : gX10_text x1 = bd (lf rh25 2 gX7_rewind) fun r1 =>
  (if x1 = 0 then
  bd (lf rh27 10 gX3_readLaw) fun r9 =>
  (if r9 = 0 then
  tcL x1
  else
  bd (lf rh28 14 gX2_copy) fun r10 =>
  bd (ld 17 0) fun v11 =>
  tcE v11)
  else
  tcL x1) := rfl
def trE (x1 a3 : Int32) : MM Int32 :=
  bd (sv 0 13 0) fun _ =>
  (if a3 = ((-1)) then
  pr ((-1))
  else
  (if x1 = 0 then
  bd (gX11_takesLaw a3) fun r7 =>
  pr a3
  else
  bd (gX11_takesOther x1 a3) fun r6 =>
  pr a3))
def txM (x1 : Int32) : MM Int32 :=
  bd (gX11_isIn x1 0 3) fun r1 =>
  (if r1 = 0 then
  trE x1 ((-1))
  else
  bd (gX11_readsText x1) fun r8 =>
  (if r8 = ((-1)) then
  bd (ld 0 31) fun v9 =>
  bd (sv 0 33 v9) fun _ =>
  bd (ld 0 32) fun v10 =>
  bd (sv 0 34 v10) fun _ =>
  trE x1 r8
  else
  trE x1 r8))
theorem tr_eq (x1 : Int32) : gX11_text x1 = bd (sv 0 0 0) fun _ =>
  bd (sv 0 33 0) fun _ =>
  bd (sv 0 34 ((-1))) fun _ =>
  bd (sv 0 14 0) fun _ =>
  bd (sv 0 27 0) fun _ =>
  bd (sv 0 28 0) fun _ =>
  txM x1 := rfl
theorem rt_eq (x1 : Int32) : gX11_readsText x1 = bd (sv 0 26 0) fun _ =>
  bd gX11_reads fun r1 =>
  (if x1 = 1 then
  bd gX11_readDeeds fun r7 =>
  pr r7
  else
  (if x1 = 2 then
  bd gX11_readMinds fun r6 =>
  pr r6
  else
  (if x1 = 3 then
  bd gX11_readFriends fun r5 =>
  pr r5
  else
  bd gX11_readLaw fun r4 =>
  pr r4))) := rfl
def teJ (x1 : Int32) (a2 : Nat) : MM Int32 :=
  inL a2 [24, 29, 34] (
  bd (lf (rv1 a2) 10 gX5_copy) fun r4 =>
  (if x1 = 3 then
  bd (ld a2 0) fun v7 =>
  pr v7
  else
  bd (sv 0 5 0) fun _ =>
  bd (ld a2 0) fun v7 =>
  pr v7))
theorem te_eq (x1 : Int32) : gX10_tellLines x1 = (if x1 = 1 then
  teJ x1 24
  else
  (if x1 = 2 then
  teJ x1 29
  else
  teJ x1 34)) := rfl
theorem rh26_inj : ∀ i j, i < 21 → j < 21 → rh26 i = rh26 j → i = j := inj_d (by decide +kernel)
theorem rh27_inj : ∀ i j, i < 10 → j < 10 → rh27 i = rh27 j → i = j := inj_d (by decide +kernel)
theorem rh28_inj : ∀ i j, i < 14 → j < 14 → rh28 i = rh28 j → i = j := inj_d (by decide +kernel)
theorem rv24_inj : ∀ i j, i < 10 → j < 10 → rv1 24 i = rv1 24 j → i = j := inj_d (by decide +kernel)
theorem rv29_inj : ∀ i j, i < 10 → j < 10 → rv1 29 i = rv1 29 j → i = j := inj_d (by decide +kernel)
theorem rv34_inj : ∀ i j, i < 10 → j < 10 → rv1 34 i = rv1 34 j → i = j := inj_d (by decide +kernel)
set_option maxHeartbeats 800000 in
theorem p_rewind {T : Bk} (l0 : (T 0).length = 8) : gX7_rewind T = some (0, up T 0 ((((T 0).set 5 0).set 6 0).set 7 (-1))) := by
  unfold gX7_rewind
  rw [bd_sv _ (by omega), bd_sv _ (by rw [up_same, List.length_set]; omega), up_same, up_up, bd_sv _ (by rw [up_same, List.length_set, List.length_set]; omega), up_same, up_up]; rfl
set_option maxHeartbeats 800000 in
theorem c_rewind {A : Bk} (l1 : (A 113).length = 8) {β : Type} (K : Int32 → MM β) : bd (lf rh25 2 gX7_rewind) K A = K 0 (up A 113 ((((A 113).set 5 0).set 6 0).set 7 (-1))) := by
  have e := p_rewind (T := fun i => A (rh25 i)) l1
  rw [bd_lf _ e, pu1 rh25_inj (by decide)]; rfl
set_option maxHeartbeats 800000 in
theorem tx_start {A B : Bk} (h : R A B) : ∃ A1 B1, (∀ {β : Type} (K : Int32 → MM β), bd (lf rh25 2 gX7_rewind) K A = K 0 A1) ∧ (∀ x, gX11_text x B = txM x B1) ∧ R A1 B1 ∧ ((A1 113).getD 5 0 = 0 ∧ (A1 113).getD 6 0 = 0 ∧ (A1 113).getD 7 0 = -1) ∧ ((B1 0).getD 14 0 = 0 ∧ (B1 0).getD 27 0 = 0 ∧ (B1 0).getD 28 0 = 0 ∧ (B1 0).getD 33 0 = 0 ∧ (B1 0).getD 34 0 = -1) := by
  have hb0 := R_B0 h
  have hT := h.2.1
  obtain ⟨t1, t2, t3, t4, t5, n, hn, t6, t7, t8⟩ := id hT
  obtain ⟨z, hz⟩ : ∃ z, ((((((B 0).set 0 0).set 33 0).set 34 (-1)).set 14 0).set 27 0).set 28 0 = z := ⟨_, rfl⟩
  have zl : z.length = 68 := by rw [← hz]; simp only [List.length_set]; exact hb0
  have zk : ∀ k, k ≠ 0 → k ≠ 33 → k ≠ 34 → k ≠ 14 → k ≠ 27 → k ≠ 28 → z.getD k 0 = (B 0).getD k 0 := fun k a b c d e f => by
    rw [← hz, gd_set_ne (fun q => f q.symm), gd_set_ne (fun q => e q.symm), gd_set_ne (fun q => d q.symm), gd_set_ne (fun q => c q.symm), gd_set_ne (fun q => b q.symm), gd_set_ne (fun q => a q.symm)]
  have z28 : z.getD 28 0 = 0 := by rw [← hz, gd_set_same (by simp only [List.length_set]; omega)]
  have z27 : z.getD 27 0 = 0 := by rw [← hz, gd_set_ne (by decide), gd_set_same (by simp only [List.length_set]; omega)]
  have z14 : z.getD 14 0 = 0 := by rw [← hz, gd_set_ne (by decide), gd_set_ne (by decide), gd_set_same (by simp only [List.length_set]; omega)]
  have z34 : z.getD 34 0 = -1 := by rw [← hz, gd_set_ne (by decide), gd_set_ne (by decide), gd_set_ne (by decide), gd_set_same (by simp only [List.length_set]; omega)]
  have z33 : z.getD 33 0 = 0 := by rw [← hz, gd_set_ne (by decide), gd_set_ne (by decide), gd_set_ne (by decide), gd_set_ne (by decide), gd_set_same (by simp only [List.length_set]; omega)]
  obtain ⟨o, ho⟩ : ∃ o, (((A 113).set 5 0).set 6 0).set 7 (-1) = o := ⟨_, rfl⟩
  have ol : o.length = 8 := by rw [← ho]; simp only [List.length_set]; exact t1
  have o7 : o.getD 7 0 = -1 := by rw [← ho, gd_set_same (by simp only [List.length_set]; omega)]
  have o6 : o.getD 6 0 = 0 := by rw [← ho, gd_set_ne (by decide), gd_set_same (by simp only [List.length_set]; omega)]
  have o5 : o.getD 5 0 = 0 := by rw [← ho, gd_set_ne (by decide), gd_set_ne (by decide), gd_set_same (by omega)]
  have o0 : o.getD 0 0 = (A 113).getD 0 0 := by rw [← ho, gd_set_ne (by decide), gd_set_ne (by decide), gd_set_ne (by decide)]
  refine ⟨up A 113 o, up B 0 z, fun K => by rw [c_rewind t1, ho], fun x => ?_, ?_, by rw [up_same]; exact ⟨o5, o6, o7⟩, by rw [up_same]; exact ⟨z14, z27, z28, z33, z34⟩⟩
  · rw [tr_eq, bd_sv _ (by omega), bd_sv _ (by rw [up_same]; simp only [List.length_set]; omega), up_same, up_up, bd_sv _ (by rw [up_same]; simp only [List.length_set]; omega), up_same, up_up, bd_sv _ (by rw [up_same]; simp only [List.length_set]; omega), up_same, up_up, bd_sv _ (by rw [up_same]; simp only [List.length_set]; omega), up_same, up_up, bd_sv _ (by rw [up_same]; simp only [List.length_set]; omega), up_same, up_up, hz]
  · refine tx_keep h (fun j _ j2 _ => up_ne _ _ j2) (fun j _ => up_len (by rw [ol, t1]) j) (fun i _ i2 _ => up_ne _ _ i2) (fun i _ => up_len (by rw [zl, hb0]) i) (fun c i c1 c2 _ => by rw [up_ne _ _ (by omega)]) (fun k hk => ?_) ?_
    · rw [up_same]
      have := (by decide : ∀ k, k ∈ [3, 5, 6, 7, 8, 35, 37, 39, 43, 52, 54, 57, 61, 65] → k ≠ 0 ∧ k ≠ 33 ∧ k ≠ 34 ∧ k ≠ 14 ∧ k ≠ 27 ∧ k ≠ 28) k hk
      exact zk k this.1 this.2.1 this.2.2.1 this.2.2.2.1 this.2.2.2.2.1 this.2.2.2.2.2
    · unfold TP
      rw [up_same, up_same, up_ne _ _ (by decide), up_ne _ _ (by decide)]
      exact ⟨ol, t2, t3, by rw [o6, z33], by rw [o7, z34], n, hn, by rw [o0]; exact t6, by rw [zk 13 (by decide) (by decide) (by decide) (by decide) (by decide) (by decide)]; exact t7, t8⟩
set_option maxHeartbeats 800000 in
theorem tx_end {A B A2 B2 : Bk} {z : List Int32} (h : R A B) (xA : ∀ j, j < 211 → j ≠ 113 → ¬ (115 ≤ j ∧ j ≤ 128) → A2 j = A j) (lA : ∀ j, j < 211 → (A2 j).length = (A j).length) (hf : FRR B B2) (zl : z.length = 68) (z13 : z.getD 13 0 = 0) (z33 : z.getD 33 0 = (A2 113).getD 6 0) (z34 : z.getD 34 0 = (A2 113).getD 7 0) (zk : ∀ k, k ≠ 13 → k ≠ 33 → k ≠ 34 → z.getD k 0 = (B2 0).getD k 0) : R (up A2 113 ((A2 113).set 0 0)) (up B2 0 z) := by
  obtain ⟨t1, t2, t3, -⟩ := h.2.1
  have hb0 := R_B0 h
  obtain ⟨f1, f2, f3, f4⟩ := hf
  refine tx_keep h (fun j j1 j2 j3 => by rw [up_ne _ _ j2]; exact xA j j1 j2 j3) (fun j j1 => by rw [up_len List.length_set j]; exact lA j j1) (fun i i1 i2 i3 => by rw [up_ne _ _ i2]; exact f2 i i2 i3) (fun i i1 => by rw [up_len (by rw [zl, f1 0, hb0]) i]; exact f1 i) (fun c i c1 c2 hi => by rw [up_ne _ _ (by omega)]; exact f4 c i c1 c2 hi) (fun k hk => ?_) ?_
  · rw [up_same]
    have := (by decide : ∀ k, k ∈ [3, 5, 6, 7, 8, 35, 37, 39, 43, 52, 54, 57, 61, 65] → k ≠ 13 ∧ k ≠ 33 ∧ k ≠ 34 ∧ k ∉ wrS) k hk
    rw [zk k this.1 this.2.1 this.2.2.1]
    exact f3 k this.2.2.2
  · have l113 := lA 113 (by decide)
    have l114 := lA 114 (by decide)
    have l7 := f1 7
    unfold TP
    rw [up_same, up_same, up_ne _ _ (by decide), up_ne _ _ (by decide)]
    exact ⟨by rw [List.length_set]; omega, by omega, by omega, by rw [gd_set_ne (by decide)]; exact z33.symm, by rw [gd_set_ne (by decide)]; exact z34.symm, 0, by omega, by rw [gd_set_same (by omega)]; rfl, z13, fun i hi => absurd hi (Nat.not_lt_zero i)⟩
set_option maxHeartbeats 800000 in
theorem tx_fault {A B A2 B2 : Bk} {f st : Nat} (h : R A B) (xA : ∀ j, j < 211 → j ≠ 113 → ¬ (115 ≤ j ∧ j ≤ 128) → A2 j = A j) (lA : ∀ j, j < 211 → (A2 j).length = (A j).length) (hf : FRR B B2) (hc : CF8 (A2 113) f st) (b31 : (B2 0).getD 31 0 = nI f) (b32 : (B2 0).getD 32 0 = nI st) (x : Int32) : ∃ B', tcE (-1) A2 = some (-1, up A2 113 ((A2 113).set 0 0)) ∧ (bd (ld 0 31) fun v9 => bd (sv 0 33 v9) fun _ => bd (ld 0 32) fun v10 => bd (sv 0 34 v10) fun _ => trE x (-1)) B2 = some (-1, B') ∧ R (up A2 113 ((A2 113).set 0 0)) B' := by
  have hb0 := R_B0 h
  have l0 : (B2 0).length = 68 := by rw [hf.1 0]; exact hb0
  obtain ⟨c1, c2, c3⟩ := hc
  obtain ⟨z, hz⟩ : ∃ z, (((B2 0).set 33 (nI f)).set 34 (nI st)).set 13 0 = z := ⟨_, rfl⟩
  refine ⟨up B2 0 z, ?_, ?_, tx_end h xA lA hf (by rw [← hz]; simp only [List.length_set]; exact l0) (by rw [← hz, gd_set_same (by simp only [List.length_set]; omega)]) (by rw [← hz, gd_set_ne (by decide), gd_set_ne (by decide), gd_set_same (by omega)]; exact c2.symm) (by rw [← hz, gd_set_ne (by decide), gd_set_same (by simp only [List.length_set]; omega)]; exact c3.symm) (fun k k1 k2 k3 => by rw [← hz, gd_set_ne (fun q => k1 q.symm), gd_set_ne (fun q => k3 q.symm), gd_set_ne (fun q => k2 q.symm)])⟩
  · unfold tcE
    rw [bd_sv _ (by omega)]; rfl
  · rw [bd_ld _ (by omega), b31, bd_sv _ (by omega), bd_ld _ (by rw [up_same, List.length_set]; omega), up_same, gd_set_ne (by decide), b32, bd_sv _ (by rw [up_same, List.length_set]; omega), up_same, up_up]
    unfold trE
    rw [bd_sv _ (by rw [up_same]; simp only [List.length_set]; omega), up_same, up_up, hz, if_pos rfl]; rfl
set_option maxHeartbeats 800000 in
theorem lines_read {ts : Nat → Nat} {n np nc nt : Nat} {U B : Bk} (hE : ENV ts n U B np nc nt) (l6 : (U 6).length = 8) (o0 : (U 6).getD 0 0 = nI n) (o5 : (U 6).getD 5 0 = 0) (o6 : (U 6).getD 6 0 = 0) (o7 : (U 6).getD 7 0 = -1) (b14 : (B 0).getD 14 0 = 0) : ∃ U1 B1, (∀ c, (U1 c).length = (U c).length) ∧ (∀ c, c ≠ 1 → U1 c = U c) ∧ gX11_reads B = some (0, B1) ∧ J2 (gX4_readLines 1 U) (gX11_readDeeds B1) (PLs ts n U1 B (Dd np nc nt)) ∧ J2 (gX4_readLines 2 U) (gX11_readMinds B1) (PLs ts n U1 B (Dm np)) ∧ J2 (gX4_readLines 3 U) (gX11_readFriends B1) (PLs ts n U1 B (Df np)) := by
  obtain ⟨hx, ⟨u0, u1, u2, u3, u4, u5⟩, ⟨y7, y8, y4, y5, y6⟩, hb, hs, hl, hn⟩ := hE
  obtain ⟨U1, hU1⟩ : ∃ U1, up U 1 ((U 1).set 0 0) = U1 := ⟨_, rfl⟩
  have v1 : U1 1 = (U 1).set 0 0 := by rw [← hU1, up_same]
  have vn : ∀ c, c ≠ 1 → U1 c = U c := fun c hc => by rw [← hU1, up_ne _ _ hc]
  have vl : ∀ c, (U1 c).length = (U c).length := fun c => by
    by_cases z : c = 1
    · subst z
      rw [v1, List.length_set]
    · rw [vn c z]
  have e6 := vn 6 (by decide)
  have hE1 : ENV ts n U1 B np nc nt := ⟨hx, ⟨(vl 0).trans u0, (vl 1).trans u1, (vl 2).trans u2, (vl 3).trans u3, (vl 4).trans u4, (vl 5).trans u5⟩, ⟨by rw [vn 7 (by decide)]; exact y7, (vl 8).trans y8, by rw [vn 8 (by decide)]; exact y4, by rw [vn 8 (by decide)]; exact y5, by rw [vn 8 (by decide)]; exact y6⟩, hb, hs, hl, hn⟩
  obtain ⟨U2, B1, g2, f2, w2, q1, q2⟩ := lk_start (U := U1) (B := B) hx (by rw [e6]; exact l6) (by rw [e6]; exact o0) (by rw [e6]; exact o5) (by rw [e6]; exact o6) (by rw [e6]; exact o7) hE1.2.2.1.1 hb b14
  have hk : (U2 1).getD 0 0 = nI 0 := by rw [q1 1 (by decide), v1, gd_set_same (by omega)]; rfl
  refine ⟨U1, B1, vl, vn, f2, ?_, ?_, ?_⟩
  · rw [rl_eq, bd_sv _ (by omega), hU1, g2]
    exact lines_deeds hE1 w2 hk
  · rw [rl_eq, bd_sv _ (by omega), hU1, g2]
    exact lines_minds hE1 w2 hk
  · rw [rl_eq, bd_sv _ (by omega), hU1, g2]
    exact lines_friends hE1 w2 hk
set_option maxHeartbeats 800000 in
theorem c_c5 {A : Bk} {o : Nat} (ho : o = 24 ∨ o = 29 ∨ o = 34) (lo : (A o).length = 5) (l1 : (A (o + 1)).length = 16) (l2 : (A (o + 2)).length = 16) (l3 : (A (o + 3)).length = 16) (l4 : (A (o + 4)).length = 16) (m0 : (A 124).length = 5) (m1 : (A 125).length = 16) (m2 : (A 126).length = 16) (m3 : (A 127).length = 16) (m4 : (A 128).length = 16) {β : Type} (K : Int32 → MM β) : bd (lf (rv1 o) 10 gX5_copy) K A = K 0 (up (up (up (up (up A o ((A o).set 0 ((A 124).getD 0 0))) (o + 1) (A 125)) (o + 2) (A 126)) (o + 3) (A 127)) (o + 4) (A 128)) := by
  have inj : ∀ i j, i < 10 → j < 10 → rv1 o i = rv1 o j → i = j := by
    rcases ho with rfl | rfl | rfl
    · exact rv24_inj
    · exact rv29_inj
    · exact rv34_inj
  have e := p_c5 (U := fun i => A (rv1 o i)) lo m0 l1 l2 l3 l4 m1 m2 m3 m4
  rw [bd_lf _ e, pu_up inj (by decide), pu_up inj (by decide), pu_up inj (by decide), pu_up inj (by decide), pu1 inj (by decide)]
  rfl
set_option maxHeartbeats 800000 in
theorem c_tell {A : Bk} {x : Int32} {o k : Nat} (ho : (x = 1 ∧ o = 24) ∨ (x = 2 ∧ o = 29) ∨ (x = 3 ∧ o = 34)) (l0 : (A 0).length = 10) (lo : (A o).length = 5) (l1 : (A (o + 1)).length = 16) (l2 : (A (o + 2)).length = 16) (l3 : (A (o + 3)).length = 16) (l4 : (A (o + 4)).length = 16) (m0 : (A 124).length = 5) (m1 : (A 125).length = 16) (m2 : (A 126).length = 16) (m3 : (A 127).length = 16) (m4 : (A 128).length = 16) (hk : (A 124).getD 0 0 = nI k) (l113 : (A 113).length = 8) : ∃ A', (bd (gX10_tellLines x) fun r8 => tcE r8) A = some (nI k, A') ∧ (∀ j, j ≠ 0 → j ≠ 113 → ¬ (o ≤ j ∧ j ≤ o + 4) → A' j = A j) ∧ A' 0 = (if x = 3 then A 0 else (A 0).set 5 0) ∧ A' 113 = (A 113).set 0 0 ∧ A' o = (A o).set 0 (nI k) ∧ A' (o + 1) = A 125 ∧ A' (o + 2) = A 126 ∧ A' (o + 3) = A 127 ∧ A' (o + 4) = A 128 := by
  have ho' : o = 24 ∨ o = 29 ∨ o = 34 := by omega
  have hx : gX10_tellLines x = teJ x o := by
    rw [te_eq]
    rcases ho with ⟨rfl, rfl⟩ | ⟨rfl, rfl⟩ | ⟨rfl, rfl⟩
    · rw [if_pos rfl]
    · rw [if_neg (by decide), if_pos rfl]
    · rw [if_neg (by decide), if_neg (by decide)]
  have hm : o ∈ [24, 29, 34] := by rcases ho' with rfl | rfl | rfl <;> decide
  have cc := fun {β : Type} (K : Int32 → MM β) => c_c5 ho' lo l1 l2 l3 l4 m0 m1 m2 m3 m4 K
  rw [hk] at cc
  obtain ⟨C, hC⟩ : ∃ C, up (up (up (up (up A o ((A o).set 0 (nI k))) (o + 1) (A 125)) (o + 2) (A 126)) (o + 3) (A 127)) (o + 4) (A 128) = C := ⟨_, rfl⟩
  rw [hC] at cc
  have co : C o = (A o).set 0 (nI k) := by rw [← hC, up_ne _ _ (by omega), up_ne _ _ (by omega), up_ne _ _ (by omega), up_ne _ _ (by omega), up_same]
  have c1 : C (o + 1) = A 125 := by rw [← hC, up_ne _ _ (by omega), up_ne _ _ (by omega), up_ne _ _ (by omega), up_same]
  have c2 : C (o + 2) = A 126 := by rw [← hC, up_ne _ _ (by omega), up_ne _ _ (by omega), up_same]
  have c3 : C (o + 3) = A 127 := by rw [← hC, up_ne _ _ (by omega), up_same]
  have c4 : C (o + 4) = A 128 := by rw [← hC, up_same]
  have cn : ∀ j, ¬ (o ≤ j ∧ j ≤ o + 4) → C j = A j := fun j hj => by rw [← hC, up_ne _ _ (by omega), up_ne _ _ (by omega), up_ne _ _ (by omega), up_ne _ _ (by omega), up_ne _ _ (by omega)]
  have lC : (C o).length = 5 := by rw [co, List.length_set]; exact lo
  have kC : (C o).getD 0 0 = nI k := by rw [co, gd_set_same (by omega)]
  have c0 := cn 0 (by omega)
  have c113 := cn 113 (by omega)
  have e1 : ∀ K : Int32 → MM Int32, bd (teJ x o) K A = bd (if x = 3 then bd (ld o 0) fun v7 => pr v7 else bd (sv 0 5 0) fun _ => bd (ld o 0) fun v7 => pr v7) K C := by
    intro K
    have : teJ x o A = (if x = 3 then bd (ld o 0) fun v7 => pr v7 else bd (sv 0 5 0) fun _ => bd (ld o 0) fun v7 => pr v7) C := by
      unfold teJ inL
      rw [if_pos hm, cc]
    unfold bd at this ⊢
    rw [this]
  rw [hx, e1]
  by_cases c : x = 3
  · rw [if_pos c, if_pos c]
    refine ⟨up C 113 ((A 113).set 0 0), ?_, fun j j0 j1 j2 => by rw [up_ne _ _ j1]; exact cn j j2, by rw [up_ne _ _ (by decide)]; exact c0, up_same _ _ _, by rw [up_ne _ _ (by omega)]; exact co, by rw [up_ne _ _ (by omega)]; exact c1, by rw [up_ne _ _ (by omega)]; exact c2, by rw [up_ne _ _ (by omega)]; exact c3, by rw [up_ne _ _ (by omega)]; exact c4⟩
    have : (bd (ld o 0) fun v7 => pr v7) C = some (nI k, C) := by
      rw [bd_ld _ (by omega), kC]; rfl
    rw [bd_some this]
    unfold tcE
    rw [bd_sv _ (by rw [c113]; omega), c113]; rfl
  · rw [if_neg c, if_neg c]
    refine ⟨up (up C 0 ((A 0).set 5 0)) 113 ((A 113).set 0 0), ?_, fun j j0 j1 j2 => by rw [up_ne _ _ j1, up_ne _ _ j0]; exact cn j j2, by rw [up_ne _ _ (by decide), up_same], up_same _ _ _, by rw [up_ne _ _ (by omega), up_ne _ _ (by omega)]; exact co, by rw [up_ne _ _ (by omega), up_ne _ _ (by omega)]; exact c1, by rw [up_ne _ _ (by omega), up_ne _ _ (by omega)]; exact c2, by rw [up_ne _ _ (by omega), up_ne _ _ (by omega)]; exact c3, by rw [up_ne _ _ (by omega), up_ne _ _ (by omega)]; exact c4⟩
    have : (bd (sv 0 5 0) fun _ => bd (ld o 0) fun v7 => pr v7) C = some (nI k, up C 0 ((A 0).set 5 0)) := by
      rw [bd_sv _ (by rw [c0]; omega), c0, bd_ld _ (by rw [up_ne _ _ (by omega)]; omega), up_ne _ _ (by omega), kC]; rfl
    rw [bd_some this]
    unfold tcE
    rw [bd_sv _ (by rw [up_ne _ _ (by decide), c113]; omega), up_ne _ _ (by decide), c113]; rfl
