/-! PURE: image, the class copies a house -/
def c81B : (Int32 → MM Int32) → Int32 → MM Int32 := fun (self4 : Int32 → MM Int32) (s5 : Int32) =>
  bd (ld 0 0) fun v6 =>
  jn (fun (a8 : Unit) =>
  pr 0) (fun j7 =>
  (if v6 ≤ s5 then
  j7 ()
  else
  bd (ln 3) fun v9 =>
  (if v9 ≤ s5 then
  j7 ()
  else
  bd (la 3 s5) fun v10 =>
  bd (sa 1 s5 v10) fun _ =>
  lt (s5 + 1) fun y11 =>
  self4 y11)))
def c81 : MM Int32 := loopC 100000 (c81B) 0
theorem c8_eq : gX8_copy =
  bd (ld 2 0) fun v1 =>
  bd (ln 1) fun v2 =>
  bd (lf rh0 0 (gJ9_min_7cf53 v1 v2)) fun r3 =>
  bd (sv 0 0 r3) fun _ =>
  (c81) := rfl
set_option maxHeartbeats 1000000 in
theorem p_min2 {a b : Nat} (h : a ≤ b) (hb : b < 2 ^ 31) (A : Bk) : gJ9_min_7cf53 (nI a) (nI b) A = some (nI a, A) := by
  unfold gJ9_min_7cf53
  by_cases c : nI b < nI a
  · exact absurd ((nI_ltI hb (by omega)).mp c) (by omega)
  · have c2 : nI a ≤ nI b := Int32.not_lt.mp c
    simp only [jn_eq]
    rw [if_neg c]; rfl
def rsL (c : List Int32) (l : List Int32) : Nat → List Int32 := fo (fun i m => m.set i (c.getD i 0)) l
theorem rsL_ok {c l : List Int32} : ∀ k, k ≤ l.length → (rsL c l k).length = l.length ∧ ∀ i, i < k → (rsL c l k).getD i 0 = c.getD i 0
  | 0, _ => ⟨rfl, fun i hi => absurd hi (Nat.not_lt_zero i)⟩
  | k + 1, hk => by
    obtain ⟨h1, h2⟩ := rsL_ok (c := c) (l := l) k (by omega)
    refine ⟨by show ((rsL c l k).set _ _).length = _; rw [List.length_set, h1], fun i hi => ?_⟩
    show ((rsL c l k).set k (c.getD k 0)).getD i 0 = _
    by_cases e : i = k
    · subst e; rw [gd_set_same (by omega)]
    · rw [gd_set_ne (fun q => e q.symm)]; exact h2 i (by omega)
set_option maxHeartbeats 1000000 in
theorem p_c0 {U : Bk} (h1 : (U 1).length = 600) (h3 : (U 3).length = 600) : gX0_copy U = some (0, up U 1 (U 3)) := by
  unfold gX0_copy
  rw [bd_ln, h1]
  refine (bd_cpy (n := 600) _ ?_ ?_ (by decide)).trans ?_
  · exact h3
  · exact h1
  rfl
set_option maxHeartbeats 1000000 in
theorem p_c2 {U : Bk} (h0 : (U 0).length = 8) (h7 : (U 7).length = 8) (a1 : (U 1).length = 16) (a2 : (U 2).length = 16) (a3 : (U 3).length = 16) (a4 : (U 4).length = 16) (a5 : (U 5).length = 400) (b1 : (U 8).length = 16) (b2 : (U 9).length = 16) (b3 : (U 10).length = 16) (b4 : (U 11).length = 16) (b5 : (U 12).length = 400) :
    gX2_copy U = some (0, up (up (up (up (up (up U 0 (((U 0).set 0 ((U 7).getD 0 0)).set 1 ((U 7).getD 1 0))) 1 (U 8)) 2 (U 9)) 3 (U 10)) 4 (U 11)) 5 (U 12)) := by
  unfold gX2_copy
  rw [bd_ld _ (by omega), bd_sv _ (by omega), bd_ld _ (by show 1 < (U 7).length; omega), bd_sv _ (by rw [up_same, List.length_set]; omega), up_same, up_up]
  refine (bd_cpy (n := 16) _ ?_ ?_ (by decide)).trans ?_
  · exact b1
  · exact a1
  refine (bd_cpy (n := 16) _ ?_ ?_ (by decide)).trans ?_
  · exact b2
  · exact a2
  refine (bd_cpy (n := 16) _ ?_ ?_ (by decide)).trans ?_
  · exact b3
  · exact a3
  refine (bd_cpy (n := 16) _ ?_ ?_ (by decide)).trans ?_
  · exact b4
  · exact a4
  refine (bd_cpy (n := 400) _ ?_ ?_ (by decide)).trans ?_
  · exact b5
  · exact a5
  rfl
set_option maxHeartbeats 1000000 in
theorem p_c5 {U : Bk} (h0 : (U 0).length = 5) (h7 : (U 5).length = 5) (a1 : (U 1).length = 16) (a2 : (U 2).length = 16) (a3 : (U 3).length = 16) (a4 : (U 4).length = 16) (b1 : (U 6).length = 16) (b2 : (U 7).length = 16) (b3 : (U 8).length = 16) (b4 : (U 9).length = 16) :
    gX5_copy U = some (0, up (up (up (up (up U 0 ((U 0).set 0 ((U 5).getD 0 0))) 1 (U 6)) 2 (U 7)) 3 (U 8)) 4 (U 9)) := by
  unfold gX5_copy
  rw [bd_ld _ (by omega), bd_sv _ (by omega)]
  refine (bd_cpy (n := 16) _ ?_ ?_ (by decide)).trans ?_
  · exact b1
  · exact a1
  refine (bd_cpy (n := 16) _ ?_ ?_ (by decide)).trans ?_
  · exact b2
  · exact a2
  refine (bd_cpy (n := 16) _ ?_ ?_ (by decide)).trans ?_
  · exact b3
  · exact a3
  refine (bd_cpy (n := 16) _ ?_ ?_ (by decide)).trans ?_
  · exact b4
  · exact a4
  rfl
set_option maxHeartbeats 1000000 in
theorem p_c8 {U : Bk} {k : Nat} (h0 : (U 0).length = 2) (h2 : (U 2).length = 2) (hk : (U 2).getD 0 0 = nI k) (hl : (U 1).length = (U 3).length) (hc : k ≤ (U 3).length) (hb : (U 3).length < 1000) :
    gX8_copy U = some (0, up (up U 0 ((U 0).set 0 (nI k))) 1 (rsL (U 3) (U 1) k)) := by
  have k0 : ∀ m, ((up (up U 0 ((U 0).set 0 (nI k))) 1 m) 0).getD 0 0 = nI k := fun m => by rw [up_ne _ _ (by decide), up_same, gd_set_same (by omega)]
  have l0 : ∀ m, 0 < ((up (up U 0 ((U 0).set 0 (nI k))) 1 m) 0).length := fun m => by rw [up_ne _ _ (by decide), up_same, List.length_set]; omega
  rw [c8_eq, bd_ld _ (by omega), hk, bd_ln, hl, bd_lf0 _ (p_min2 hc (by omega) _), bd_sv _ (by omega)]
  have e1 : up U 0 ((U 0).set 0 (nI k)) = up (up U 0 ((U 0).set 0 (nI k))) 1 (U 1) := (up_self (up U 0 ((U 0).set 0 (nI k))) 1).symm
  unfold c81
  refine loopF k nI (fun j => up (up U 0 ((U 0).set 0 (nI k))) 1 (rsL (U 3) (U 1) j)) rfl e1.symm (fun j hj self => ?_) (fun self => ?_) (by omega)
  · obtain ⟨r1, r2⟩ := rsL_ok (c := U 3) (l := U 1) j (by omega)
    have hs : rsL (U 3) (U 1) (j + 1) = (rsL (U 3) (U 1) j).set j ((U 3).getD j 0) := rfl
    rw [hs]
    obtain ⟨m, hm⟩ : ∃ m, rsL (U 3) (U 1) j = m := ⟨_, rfl⟩
    rw [hm] at r1 ⊢
    have s3 : (up (up U 0 ((U 0).set 0 (nI k))) 1 m) 3 = U 3 := rfl
    have s1 : (up (up U 0 ((U 0).set 0 (nI k))) 1 m) 1 = m := up_same _ _ _
    unfold c81B
    simp only [jn_eq]
    rw [bd_ld _ (l0 m), k0, if_neg (nI_ge hj (by omega)), bd_ln, s3, if_neg (nI_ge (by omega) (by omega)), bd_la _ (by rw [s3]; omega) (by rw [s3]; omega), s3, bd_sa _ (by rw [s1]; omega) (by rw [s1]; omega), s1, up_up, lt_eq, nI_1]
  · unfold c81B
    simp only [jn_eq]
    rw [bd_ld _ (l0 _), k0, if_pos (Int32.le_refl _)]; rfl
theorem rh1_inj : ∀ i j, i < 26 → j < 26 → rh1 i = rh1 j → i = j := inj_d (by decide +kernel)
theorem rh1_v : ∀ i, i < 13 → rh1 i = 1 + i ∧ rh1 (13 + i) = 50 + i := by decide +kernel
theorem rhc2_inj : ∀ i j, i < 4 → j < 4 → rh2 i = rh2 j → i = j := inj_d (by decide +kernel)
theorem rhc3_inj : ∀ i j, i < 14 → j < 14 → rh3 i = rh3 j → i = j := inj_d (by decide +kernel)
theorem rhc4_inj : ∀ i j, i < 10 → j < 10 → rh4 i = rh4 j → i = j := inj_d (by decide +kernel)
theorem rhc5_inj : ∀ i j, i < 10 → j < 10 → rh5 i = rh5 j → i = j := inj_d (by decide +kernel)
theorem rhc6_inj : ∀ i j, i < 10 → j < 10 → rh6 i = rh6 j → i = j := inj_d (by decide +kernel)
theorem rhc7_inj : ∀ i j, i < 4 → j < 4 → rh7 i = rh7 j → i = j := inj_d (by decide +kernel)
theorem rhc8_inj : ∀ i j, i < 4 → j < 4 → rh8 i = rh8 j → i = j := inj_d (by decide +kernel)
theorem rhc9_inj : ∀ i j, i < 4 → j < 4 → rh9 i = rh9 j → i = j := inj_d (by decide +kernel)
theorem rhc10_inj : ∀ i j, i < 4 → j < 4 → rh10 i = rh10 j → i = j := inj_d (by decide +kernel)
theorem rhc11_inj : ∀ i j, i < 4 → j < 4 → rh11 i = rh11 j → i = j := inj_d (by decide +kernel)
/-- a house's cells, counted from its first -/
def tin (i : Nat) : Nat := if i = 0 then 0 else if i < 36 then 13 + i else i - 35
/-- one house has been copied into another -/
def HC (H' H : Bk) : Prop :=
  ((∀ i, 1 ≤ i → i < 13 → H' (36 + i) = H (36 + i)) ∧ (H' 36).length = 19 ∧ (∀ k, 1 ≤ k → k < 7 → (H' 36).getD k 0 = (H 36).getD k 0) ∧ (H' 36).getD 0 0 = 0) ∧
  H' 2 = H 2 ∧
  ((H' 3).length = 8 ∧ (H' 3).getD 0 0 = (H 3).getD 0 0 ∧ (∀ i, 4 ≤ i → i < 9 → H' i = H i) ∧ (H' 9).length = 400) ∧
  (∀ a, a ∈ [10, 15, 20] → (H' a).length = 5 ∧ (H' a).getD 0 0 = (H a).getD 0 0 ∧ ∀ i, 1 ≤ i → i < 5 → H' (a + i) = H (a + i)) ∧
  (∀ a, a ∈ [25, 27, 29, 31, 33] → (H' a).length = 2 ∧ (H' a).getD 0 0 = (H a).getD 0 0 ∧ (H' (a + 1)).length = (H (a + 1)).length ∧ ∀ k, (H a).getD 0 0 = nI k → k ≤ (H (a + 1)).length → ∀ i, i < k → (H' (a + 1)).getD i 0 = (H (a + 1)).getD i 0) ∧
  (H' 35).length = 9
/-- how many numbers were told -/
def TC (H : Bk) : Prop := ∀ a, a ∈ [25, 27, 29, 31, 33] → ∃ k : Nat, (H a).getD 0 0 = nI k ∧ k ≤ (H (a + 1)).length
set_option maxHeartbeats 1000000 in
theorem p_copyH {T : Bk} (hA : HL (fun i => T (tin i))) (hO : HL (fun i => T (49 + tin i))) (hk : TC (fun i => T (49 + tin i))) :
    ∃ T', gX1_copy T = some (0, T') ∧ HC (fun i => T' (tin i)) (fun i => T (49 + tin i)) ∧ (∀ j, 49 ≤ j → T' j = T j) := by
  obtain ⟨aw, ab, ⟨al0, al1, al2, al3, al4, al5, al6⟩, ⟨ad0, ad1, ad2, ad3, ad4⟩, ⟨am0, am1, am2, am3, am4⟩, ⟨af0, af1, af2, af3, af4⟩, ⟨at0, at1, at2, at3, at4, at5, at6, at7, at8, at9⟩, as, ath⟩ := hA
  obtain ⟨bw, bb, ⟨bl0, bl1, bl2, bl3, bl4, bl5, bl6⟩, ⟨bd0, bd1, bd2, bd3, bd4⟩, ⟨bm0, bm1, bm2, bm3, bm4⟩, ⟨bf0, bf1, bf2, bf3, bf4⟩, ⟨bt0, bt1, bt2, bt3, bt4, bt5, bt6, bt7, bt8, bt9⟩, bs, bth⟩ := hO
  have wA : WL (fun i => T (1 + i)) := aw
  have wO : WL (fun i => T (50 + i)) := bw
  have ab : (T 15).length = 600 := ab
  have bb : (T 64).length = 600 := bb
  have al0 : (T 16).length = 8 := al0
  have al1 : (T 17).length = 16 := al1
  have al2 : (T 18).length = 16 := al2
  have al3 : (T 19).length = 16 := al3
  have al4 : (T 20).length = 16 := al4
  have al5 : (T 21).length = 400 := al5
  have al6 : (T 22).length = 400 := al6
  have ad0 : (T 23).length = 5 := ad0
  have ad1 : (T 24).length = 16 := ad1
  have ad2 : (T 25).length = 16 := ad2
  have ad3 : (T 26).length = 16 := ad3
  have ad4 : (T 27).length = 16 := ad4
  have am0 : (T 28).length = 5 := am0
  have am1 : (T 29).length = 16 := am1
  have am2 : (T 30).length = 16 := am2
  have am3 : (T 31).length = 16 := am3
  have am4 : (T 32).length = 16 := am4
  have af0 : (T 33).length = 5 := af0
  have af1 : (T 34).length = 16 := af1
  have af2 : (T 35).length = 16 := af2
  have af3 : (T 36).length = 16 := af3
  have af4 : (T 37).length = 16 := af4
  have at0 : (T 38).length = 2 := at0
  have at1 : (T 39).length = 12 := at1
  have at2 : (T 40).length = 2 := at2
  have at3 : (T 41).length = 16 := at3
  have at4 : (T 42).length = 2 := at4
  have at5 : (T 43).length = 12 := at5
  have at6 : (T 44).length = 2 := at6
  have at7 : (T 45).length = 16 := at7
  have at8 : (T 46).length = 2 := at8
  have at9 : (T 47).length = 10 := at9
  have as : (T 48).length = 9 := as
  have bl0 : (T 65).length = 8 := bl0
  have bl1 : (T 66).length = 16 := bl1
  have bl2 : (T 67).length = 16 := bl2
  have bl3 : (T 68).length = 16 := bl3
  have bl4 : (T 69).length = 16 := bl4
  have bl5 : (T 70).length = 400 := bl5
  have bl6 : (T 71).length = 400 := bl6
  have bd0 : (T 72).length = 5 := bd0
  have bd1 : (T 73).length = 16 := bd1
  have bd2 : (T 74).length = 16 := bd2
  have bd3 : (T 75).length = 16 := bd3
  have bd4 : (T 76).length = 16 := bd4
  have bm0 : (T 77).length = 5 := bm0
  have bm1 : (T 78).length = 16 := bm1
  have bm2 : (T 79).length = 16 := bm2
  have bm3 : (T 80).length = 16 := bm3
  have bm4 : (T 81).length = 16 := bm4
  have bf0 : (T 82).length = 5 := bf0
  have bf1 : (T 83).length = 16 := bf1
  have bf2 : (T 84).length = 16 := bf2
  have bf3 : (T 85).length = 16 := bf3
  have bf4 : (T 86).length = 16 := bf4
  have bt0 : (T 87).length = 2 := bt0
  have bt1 : (T 88).length = 12 := bt1
  have bt2 : (T 89).length = 2 := bt2
  have bt3 : (T 90).length = 16 := bt3
  have bt4 : (T 91).length = 2 := bt4
  have bt5 : (T 92).length = 12 := bt5
  have bt6 : (T 93).length = 2 := bt6
  have bt7 : (T 94).length = 16 := bt7
  have bt8 : (T 95).length = 2 := bt8
  have bt9 : (T 96).length = 10 := bt9
  have bs : (T 97).length = 9 := bs
  have ath : (T 1).getD 0 0 = 0 := ath
  obtain ⟨k0, kv0, kl0⟩ := hk 25 (by decide)
  have kv0 : (T 87).getD 0 0 = nI k0 := kv0
  have kl0 : k0 ≤ (T 88).length := kl0
  obtain ⟨k1, kv1, kl1⟩ := hk 27 (by decide)
  have kv1 : (T 89).getD 0 0 = nI k1 := kv1
  have kl1 : k1 ≤ (T 90).length := kl1
  obtain ⟨k2, kv2, kl2⟩ := hk 29 (by decide)
  have kv2 : (T 91).getD 0 0 = nI k2 := kv2
  have kl2 : k2 ≤ (T 92).length := kl2
  obtain ⟨k3, kv3, kl3⟩ := hk 31 (by decide)
  have kv3 : (T 93).getD 0 0 = nI k3 := kv3
  have kl3 : k3 ≤ (T 94).length := kl3
  obtain ⟨k4, kv4, kl4⟩ := hk 33 (by decide)
  have kv4 : (T 95).getD 0 0 = nI k4 := kv4
  have kl4 : k4 ≤ (T 96).length := kl4
  obtain ⟨T1, g1, w1, w2, w3, w4, fr1⟩ := cp_all rh1_inj rh1_v wA wO
  have s1 : ∀ j, 14 ≤ j → T1 j = T j := fun j hj => fr1 j (by omega)
  have g2 : lf rh2 4 gX0_copy T1 = some (0, up T1 15 (T 64)) := by
    have := p_c0 (U := fun i => T1 (rh2 i)) (by show (T1 15).length = 600; rw [s1 15 (by decide)]; exact ab) (by show (T1 64).length = 600; rw [s1 64 (by decide)]; exact bb)
    rw [lf_run this, pu1 rhc2_inj (by decide)]
    show some ((0 : Int32), up T1 15 (T1 64)) = _
    rw [s1 64 (by decide)]
  obtain ⟨T2, hT2⟩ : ∃ T2, up T1 15 (T 64) = T2 := ⟨_, rfl⟩
  rw [hT2] at g2
  have c15 : T2 15 = T 64 := by rw [← hT2, up_same]
  have fr2 : ∀ j, j ≠ 15 → T2 j = T1 j := fun j hj => by rw [← hT2, up_ne _ _ hj]
  have s2 : ∀ j, 16 ≤ j → T2 j = T j := fun j hj => (fr2 j (by omega)).trans (s1 j (by omega))
  have g3 : lf rh3 14 gX2_copy T2 = some (0, up (up (up (up (up (up T2 16 (((T 16).set 0 ((T 65).getD 0 0)).set 1 ((T 65).getD 1 0))) 17 (T 66)) 18 (T 67)) 19 (T 68)) 20 (T 69)) 21 (T 70)) := by
    have := p_c2 (U := fun i => T2 (rh3 i)) (by show (T2 16).length = _; rw [s2 16 (by decide)]; exact al0) (by show (T2 65).length = _; rw [s2 65 (by decide)]; exact bl0) (by show (T2 17).length = _; rw [s2 17 (by decide)]; exact al1) (by show (T2 18).length = _; rw [s2 18 (by decide)]; exact al2) (by show (T2 19).length = _; rw [s2 19 (by decide)]; exact al3) (by show (T2 20).length = _; rw [s2 20 (by decide)]; exact al4) (by show (T2 21).length = _; rw [s2 21 (by decide)]; exact al5) (by show (T2 66).length = _; rw [s2 66 (by decide)]; exact bl1) (by show (T2 67).length = _; rw [s2 67 (by decide)]; exact bl2) (by show (T2 68).length = _; rw [s2 68 (by decide)]; exact bl3) (by show (T2 69).length = _; rw [s2 69 (by decide)]; exact bl4) (by show (T2 70).length = _; rw [s2 70 (by decide)]; exact bl5)
    rw [lf_run this, pu_up rhc3_inj (by decide), pu_up rhc3_inj (by decide), pu_up rhc3_inj (by decide), pu_up rhc3_inj (by decide), pu_up rhc3_inj (by decide), pu1 rhc3_inj (by decide)]
    show some ((0 : Int32), up (up (up (up (up (up T2 16 (((T2 16).set 0 ((T2 65).getD 0 0)).set 1 ((T2 65).getD 1 0))) 17 (T2 66)) 18 (T2 67)) 19 (T2 68)) 20 (T2 69)) 21 (T2 70)) = _
    rw [s2 16 (by decide), s2 65 (by decide), s2 66 (by decide), s2 67 (by decide), s2 68 (by decide), s2 69 (by decide), s2 70 (by decide)]
  obtain ⟨T3, hT3⟩ : ∃ z, up (up (up (up (up (up T2 16 (((T 16).set 0 ((T 65).getD 0 0)).set 1 ((T 65).getD 1 0))) 17 (T 66)) 18 (T 67)) 19 (T 68)) 20 (T 69)) 21 (T 70) = z := ⟨_, rfl⟩
  rw [hT3] at g3
  have c16 : T3 16 = (((T 16).set 0 ((T 65).getD 0 0)).set 1 ((T 65).getD 1 0)) := by rw [← hT3]; rfl
  have c17 : T3 17 = T 66 := by rw [← hT3]; rfl
  have c18 : T3 18 = T 67 := by rw [← hT3]; rfl
  have c19 : T3 19 = T 68 := by rw [← hT3]; rfl
  have c20 : T3 20 = T 69 := by rw [← hT3]; rfl
  have c21 : T3 21 = T 70 := by rw [← hT3]; rfl
  have fr3 : ∀ j, ¬ (16 ≤ j ∧ j < 22) → T3 j = T2 j := fun j hj => by rw [← hT3, up_ne _ _ (by omega), up_ne _ _ (by omega), up_ne _ _ (by omega), up_ne _ _ (by omega), up_ne _ _ (by omega), up_ne _ _ (by omega)]
  have s3 : ∀ j, 23 ≤ j → T3 j = T j := fun j hj => (fr3 j (by omega)).trans (s2 j (by omega))
  have g4 : lf rh4 10 gX5_copy T3 = some (0, up (up (up (up (up T3 23 ((T 23).set 0 ((T 72).getD 0 0))) 24 (T 73)) 25 (T 74)) 26 (T 75)) 27 (T 76)) := by
    have := p_c5 (U := fun i => T3 (rh4 i)) (by show (T3 23).length = _; rw [s3 23 (by decide)]; exact ad0) (by show (T3 72).length = _; rw [s3 72 (by decide)]; exact bd0) (by show (T3 24).length = _; rw [s3 24 (by decide)]; exact ad1) (by show (T3 25).length = _; rw [s3 25 (by decide)]; exact ad2) (by show (T3 26).length = _; rw [s3 26 (by decide)]; exact ad3) (by show (T3 27).length = _; rw [s3 27 (by decide)]; exact ad4) (by show (T3 73).length = _; rw [s3 73 (by decide)]; exact bd1) (by show (T3 74).length = _; rw [s3 74 (by decide)]; exact bd2) (by show (T3 75).length = _; rw [s3 75 (by decide)]; exact bd3) (by show (T3 76).length = _; rw [s3 76 (by decide)]; exact bd4)
    rw [lf_run this, pu_up rhc4_inj (by decide), pu_up rhc4_inj (by decide), pu_up rhc4_inj (by decide), pu_up rhc4_inj (by decide), pu1 rhc4_inj (by decide)]
    show some ((0 : Int32), up (up (up (up (up T3 23 ((T3 23).set 0 ((T3 72).getD 0 0))) 24 (T3 73)) 25 (T3 74)) 26 (T3 75)) 27 (T3 76)) = _
    rw [s3 23 (by decide), s3 72 (by decide), s3 73 (by decide), s3 74 (by decide), s3 75 (by decide), s3 76 (by decide)]
  obtain ⟨T4, hT4⟩ : ∃ z, up (up (up (up (up T3 23 ((T 23).set 0 ((T 72).getD 0 0))) 24 (T 73)) 25 (T 74)) 26 (T 75)) 27 (T 76) = z := ⟨_, rfl⟩
  rw [hT4] at g4
  have c23 : T4 23 = ((T 23).set 0 ((T 72).getD 0 0)) := by rw [← hT4]; rfl
  have c24 : T4 24 = T 73 := by rw [← hT4]; rfl
  have c25 : T4 25 = T 74 := by rw [← hT4]; rfl
  have c26 : T4 26 = T 75 := by rw [← hT4]; rfl
  have c27 : T4 27 = T 76 := by rw [← hT4]; rfl
  have fr4 : ∀ j, ¬ (23 ≤ j ∧ j < 28) → T4 j = T3 j := fun j hj => by rw [← hT4, up_ne _ _ (by omega), up_ne _ _ (by omega), up_ne _ _ (by omega), up_ne _ _ (by omega), up_ne _ _ (by omega)]
  have s4 : ∀ j, 28 ≤ j → T4 j = T j := fun j hj => (fr4 j (by omega)).trans (s3 j (by omega))
  have g5 : lf rh5 10 gX5_copy T4 = some (0, up (up (up (up (up T4 28 ((T 28).set 0 ((T 77).getD 0 0))) 29 (T 78)) 30 (T 79)) 31 (T 80)) 32 (T 81)) := by
    have := p_c5 (U := fun i => T4 (rh5 i)) (by show (T4 28).length = _; rw [s4 28 (by decide)]; exact am0) (by show (T4 77).length = _; rw [s4 77 (by decide)]; exact bm0) (by show (T4 29).length = _; rw [s4 29 (by decide)]; exact am1) (by show (T4 30).length = _; rw [s4 30 (by decide)]; exact am2) (by show (T4 31).length = _; rw [s4 31 (by decide)]; exact am3) (by show (T4 32).length = _; rw [s4 32 (by decide)]; exact am4) (by show (T4 78).length = _; rw [s4 78 (by decide)]; exact bm1) (by show (T4 79).length = _; rw [s4 79 (by decide)]; exact bm2) (by show (T4 80).length = _; rw [s4 80 (by decide)]; exact bm3) (by show (T4 81).length = _; rw [s4 81 (by decide)]; exact bm4)
    rw [lf_run this, pu_up rhc5_inj (by decide), pu_up rhc5_inj (by decide), pu_up rhc5_inj (by decide), pu_up rhc5_inj (by decide), pu1 rhc5_inj (by decide)]
    show some ((0 : Int32), up (up (up (up (up T4 28 ((T4 28).set 0 ((T4 77).getD 0 0))) 29 (T4 78)) 30 (T4 79)) 31 (T4 80)) 32 (T4 81)) = _
    rw [s4 28 (by decide), s4 77 (by decide), s4 78 (by decide), s4 79 (by decide), s4 80 (by decide), s4 81 (by decide)]
  obtain ⟨T5, hT5⟩ : ∃ z, up (up (up (up (up T4 28 ((T 28).set 0 ((T 77).getD 0 0))) 29 (T 78)) 30 (T 79)) 31 (T 80)) 32 (T 81) = z := ⟨_, rfl⟩
  rw [hT5] at g5
  have c28 : T5 28 = ((T 28).set 0 ((T 77).getD 0 0)) := by rw [← hT5]; rfl
  have c29 : T5 29 = T 78 := by rw [← hT5]; rfl
  have c30 : T5 30 = T 79 := by rw [← hT5]; rfl
  have c31 : T5 31 = T 80 := by rw [← hT5]; rfl
  have c32 : T5 32 = T 81 := by rw [← hT5]; rfl
  have fr5 : ∀ j, ¬ (28 ≤ j ∧ j < 33) → T5 j = T4 j := fun j hj => by rw [← hT5, up_ne _ _ (by omega), up_ne _ _ (by omega), up_ne _ _ (by omega), up_ne _ _ (by omega), up_ne _ _ (by omega)]
  have s5 : ∀ j, 33 ≤ j → T5 j = T j := fun j hj => (fr5 j (by omega)).trans (s4 j (by omega))
  have g6 : lf rh6 10 gX5_copy T5 = some (0, up (up (up (up (up T5 33 ((T 33).set 0 ((T 82).getD 0 0))) 34 (T 83)) 35 (T 84)) 36 (T 85)) 37 (T 86)) := by
    have := p_c5 (U := fun i => T5 (rh6 i)) (by show (T5 33).length = _; rw [s5 33 (by decide)]; exact af0) (by show (T5 82).length = _; rw [s5 82 (by decide)]; exact bf0) (by show (T5 34).length = _; rw [s5 34 (by decide)]; exact af1) (by show (T5 35).length = _; rw [s5 35 (by decide)]; exact af2) (by show (T5 36).length = _; rw [s5 36 (by decide)]; exact af3) (by show (T5 37).length = _; rw [s5 37 (by decide)]; exact af4) (by show (T5 83).length = _; rw [s5 83 (by decide)]; exact bf1) (by show (T5 84).length = _; rw [s5 84 (by decide)]; exact bf2) (by show (T5 85).length = _; rw [s5 85 (by decide)]; exact bf3) (by show (T5 86).length = _; rw [s5 86 (by decide)]; exact bf4)
    rw [lf_run this, pu_up rhc6_inj (by decide), pu_up rhc6_inj (by decide), pu_up rhc6_inj (by decide), pu_up rhc6_inj (by decide), pu1 rhc6_inj (by decide)]
    show some ((0 : Int32), up (up (up (up (up T5 33 ((T5 33).set 0 ((T5 82).getD 0 0))) 34 (T5 83)) 35 (T5 84)) 36 (T5 85)) 37 (T5 86)) = _
    rw [s5 33 (by decide), s5 82 (by decide), s5 83 (by decide), s5 84 (by decide), s5 85 (by decide), s5 86 (by decide)]
  obtain ⟨T6, hT6⟩ : ∃ z, up (up (up (up (up T5 33 ((T 33).set 0 ((T 82).getD 0 0))) 34 (T 83)) 35 (T 84)) 36 (T 85)) 37 (T 86) = z := ⟨_, rfl⟩
  rw [hT6] at g6
  have c33 : T6 33 = ((T 33).set 0 ((T 82).getD 0 0)) := by rw [← hT6]; rfl
  have c34 : T6 34 = T 83 := by rw [← hT6]; rfl
  have c35 : T6 35 = T 84 := by rw [← hT6]; rfl
  have c36 : T6 36 = T 85 := by rw [← hT6]; rfl
  have c37 : T6 37 = T 86 := by rw [← hT6]; rfl
  have fr6 : ∀ j, ¬ (33 ≤ j ∧ j < 38) → T6 j = T5 j := fun j hj => by rw [← hT6, up_ne _ _ (by omega), up_ne _ _ (by omega), up_ne _ _ (by omega), up_ne _ _ (by omega), up_ne _ _ (by omega)]
  have s6 : ∀ j, 38 ≤ j → T6 j = T j := fun j hj => (fr6 j (by omega)).trans (s5 j (by omega))
  have g7 : lf rh7 4 gX8_copy T6 = some (0, up (up T6 38 ((T 38).set 0 (nI k0))) 39 (rsL (T 88) (T 39) k0)) := by
    have := p_c8 (U := fun i => T6 (rh7 i)) (k := k0) (by show (T6 38).length = _; rw [s6 38 (by decide)]; exact at0) (by show (T6 87).length = _; rw [s6 87 (by decide)]; exact bt0) (by show (T6 87).getD 0 0 = _; rw [s6 87 (by decide)]; exact kv0) (by show (T6 39).length = (T6 88).length; rw [s6 39 (by decide), s6 88 (by decide), at1, bt1]) (by show k0 ≤ (T6 88).length; rw [s6 88 (by decide)]; exact kl0) (by show (T6 88).length < 1000; rw [s6 88 (by decide), bt1]; decide)
    rw [lf_run this, pu_up rhc7_inj (by decide), pu1 rhc7_inj (by decide)]
    show some ((0 : Int32), up (up T6 38 ((T6 38).set 0 (nI k0))) 39 (rsL (T6 88) (T6 39) k0)) = _
    rw [s6 38 (by decide), s6 88 (by decide), s6 39 (by decide)]
  obtain ⟨T7, hT7⟩ : ∃ z, up (up T6 38 ((T 38).set 0 (nI k0))) 39 (rsL (T 88) (T 39) k0) = z := ⟨_, rfl⟩
  rw [hT7] at g7
  have c38 : T7 38 = (T 38).set 0 (nI k0) := by rw [← hT7]; rfl
  have c39 : T7 39 = rsL (T 88) (T 39) k0 := by rw [← hT7]; rfl
  have fr7 : ∀ j, ¬ (38 ≤ j ∧ j < 40) → T7 j = T6 j := fun j hj => by rw [← hT7, up_ne _ _ (by omega), up_ne _ _ (by omega)]
  have s7 : ∀ j, 40 ≤ j → T7 j = T j := fun j hj => (fr7 j (by omega)).trans (s6 j (by omega))
  have g8 : lf rh8 4 gX8_copy T7 = some (0, up (up T7 40 ((T 40).set 0 (nI k1))) 41 (rsL (T 90) (T 41) k1)) := by
    have := p_c8 (U := fun i => T7 (rh8 i)) (k := k1) (by show (T7 40).length = _; rw [s7 40 (by decide)]; exact at2) (by show (T7 89).length = _; rw [s7 89 (by decide)]; exact bt2) (by show (T7 89).getD 0 0 = _; rw [s7 89 (by decide)]; exact kv1) (by show (T7 41).length = (T7 90).length; rw [s7 41 (by decide), s7 90 (by decide), at3, bt3]) (by show k1 ≤ (T7 90).length; rw [s7 90 (by decide)]; exact kl1) (by show (T7 90).length < 1000; rw [s7 90 (by decide), bt3]; decide)
    rw [lf_run this, pu_up rhc8_inj (by decide), pu1 rhc8_inj (by decide)]
    show some ((0 : Int32), up (up T7 40 ((T7 40).set 0 (nI k1))) 41 (rsL (T7 90) (T7 41) k1)) = _
    rw [s7 40 (by decide), s7 90 (by decide), s7 41 (by decide)]
  obtain ⟨T8, hT8⟩ : ∃ z, up (up T7 40 ((T 40).set 0 (nI k1))) 41 (rsL (T 90) (T 41) k1) = z := ⟨_, rfl⟩
  rw [hT8] at g8
  have c40 : T8 40 = (T 40).set 0 (nI k1) := by rw [← hT8]; rfl
  have c41 : T8 41 = rsL (T 90) (T 41) k1 := by rw [← hT8]; rfl
  have fr8 : ∀ j, ¬ (40 ≤ j ∧ j < 42) → T8 j = T7 j := fun j hj => by rw [← hT8, up_ne _ _ (by omega), up_ne _ _ (by omega)]
  have s8 : ∀ j, 42 ≤ j → T8 j = T j := fun j hj => (fr8 j (by omega)).trans (s7 j (by omega))
  have g9 : lf rh9 4 gX8_copy T8 = some (0, up (up T8 42 ((T 42).set 0 (nI k2))) 43 (rsL (T 92) (T 43) k2)) := by
    have := p_c8 (U := fun i => T8 (rh9 i)) (k := k2) (by show (T8 42).length = _; rw [s8 42 (by decide)]; exact at4) (by show (T8 91).length = _; rw [s8 91 (by decide)]; exact bt4) (by show (T8 91).getD 0 0 = _; rw [s8 91 (by decide)]; exact kv2) (by show (T8 43).length = (T8 92).length; rw [s8 43 (by decide), s8 92 (by decide), at5, bt5]) (by show k2 ≤ (T8 92).length; rw [s8 92 (by decide)]; exact kl2) (by show (T8 92).length < 1000; rw [s8 92 (by decide), bt5]; decide)
    rw [lf_run this, pu_up rhc9_inj (by decide), pu1 rhc9_inj (by decide)]
    show some ((0 : Int32), up (up T8 42 ((T8 42).set 0 (nI k2))) 43 (rsL (T8 92) (T8 43) k2)) = _
    rw [s8 42 (by decide), s8 92 (by decide), s8 43 (by decide)]
  obtain ⟨T9, hT9⟩ : ∃ z, up (up T8 42 ((T 42).set 0 (nI k2))) 43 (rsL (T 92) (T 43) k2) = z := ⟨_, rfl⟩
  rw [hT9] at g9
  have c42 : T9 42 = (T 42).set 0 (nI k2) := by rw [← hT9]; rfl
  have c43 : T9 43 = rsL (T 92) (T 43) k2 := by rw [← hT9]; rfl
  have fr9 : ∀ j, ¬ (42 ≤ j ∧ j < 44) → T9 j = T8 j := fun j hj => by rw [← hT9, up_ne _ _ (by omega), up_ne _ _ (by omega)]
  have s9 : ∀ j, 44 ≤ j → T9 j = T j := fun j hj => (fr9 j (by omega)).trans (s8 j (by omega))
  have g10 : lf rh10 4 gX8_copy T9 = some (0, up (up T9 44 ((T 44).set 0 (nI k3))) 45 (rsL (T 94) (T 45) k3)) := by
    have := p_c8 (U := fun i => T9 (rh10 i)) (k := k3) (by show (T9 44).length = _; rw [s9 44 (by decide)]; exact at6) (by show (T9 93).length = _; rw [s9 93 (by decide)]; exact bt6) (by show (T9 93).getD 0 0 = _; rw [s9 93 (by decide)]; exact kv3) (by show (T9 45).length = (T9 94).length; rw [s9 45 (by decide), s9 94 (by decide), at7, bt7]) (by show k3 ≤ (T9 94).length; rw [s9 94 (by decide)]; exact kl3) (by show (T9 94).length < 1000; rw [s9 94 (by decide), bt7]; decide)
    rw [lf_run this, pu_up rhc10_inj (by decide), pu1 rhc10_inj (by decide)]
    show some ((0 : Int32), up (up T9 44 ((T9 44).set 0 (nI k3))) 45 (rsL (T9 94) (T9 45) k3)) = _
    rw [s9 44 (by decide), s9 94 (by decide), s9 45 (by decide)]
  obtain ⟨T10, hT10⟩ : ∃ z, up (up T9 44 ((T 44).set 0 (nI k3))) 45 (rsL (T 94) (T 45) k3) = z := ⟨_, rfl⟩
  rw [hT10] at g10
  have c44 : T10 44 = (T 44).set 0 (nI k3) := by rw [← hT10]; rfl
  have c45 : T10 45 = rsL (T 94) (T 45) k3 := by rw [← hT10]; rfl
  have fr10 : ∀ j, ¬ (44 ≤ j ∧ j < 46) → T10 j = T9 j := fun j hj => by rw [← hT10, up_ne _ _ (by omega), up_ne _ _ (by omega)]
  have s10 : ∀ j, 46 ≤ j → T10 j = T j := fun j hj => (fr10 j (by omega)).trans (s9 j (by omega))
  have g11 : lf rh11 4 gX8_copy T10 = some (0, up (up T10 46 ((T 46).set 0 (nI k4))) 47 (rsL (T 96) (T 47) k4)) := by
    have := p_c8 (U := fun i => T10 (rh11 i)) (k := k4) (by show (T10 46).length = _; rw [s10 46 (by decide)]; exact at8) (by show (T10 95).length = _; rw [s10 95 (by decide)]; exact bt8) (by show (T10 95).getD 0 0 = _; rw [s10 95 (by decide)]; exact kv4) (by show (T10 47).length = (T10 96).length; rw [s10 47 (by decide), s10 96 (by decide), at9, bt9]) (by show k4 ≤ (T10 96).length; rw [s10 96 (by decide)]; exact kl4) (by show (T10 96).length < 1000; rw [s10 96 (by decide), bt9]; decide)
    rw [lf_run this, pu_up rhc11_inj (by decide), pu1 rhc11_inj (by decide)]
    show some ((0 : Int32), up (up T10 46 ((T10 46).set 0 (nI k4))) 47 (rsL (T10 96) (T10 47) k4)) = _
    rw [s10 46 (by decide), s10 96 (by decide), s10 47 (by decide)]
  obtain ⟨T11, hT11⟩ : ∃ z, up (up T10 46 ((T 46).set 0 (nI k4))) 47 (rsL (T 96) (T 47) k4) = z := ⟨_, rfl⟩
  rw [hT11] at g11
  have c46 : T11 46 = (T 46).set 0 (nI k4) := by rw [← hT11]; rfl
  have c47 : T11 47 = rsL (T 96) (T 47) k4 := by rw [← hT11]; rfl
  have fr11 : ∀ j, ¬ (46 ≤ j ∧ j < 48) → T11 j = T10 j := fun j hj => by rw [← hT11, up_ne _ _ (by omega), up_ne _ _ (by omega)]
  have s11 : ∀ j, 48 ≤ j → T11 j = T j := fun j hj => (fr11 j (by omega)).trans (s10 j (by omega))
  have e11 : ∀ j, T11 j = T11 j := fun _ => rfl
  have e10 : ∀ j, j < 46 → T11 j = T10 j := fun j hj => (e11 j).trans (fr11 j (by omega))
  have e9 : ∀ j, j < 44 → T11 j = T9 j := fun j hj => (e10 j (by omega)).trans (fr10 j (by omega))
  have e8 : ∀ j, j < 42 → T11 j = T8 j := fun j hj => (e9 j (by omega)).trans (fr9 j (by omega))
  have e7 : ∀ j, j < 40 → T11 j = T7 j := fun j hj => (e8 j (by omega)).trans (fr8 j (by omega))
  have e6 : ∀ j, j < 38 → T11 j = T6 j := fun j hj => (e7 j (by omega)).trans (fr7 j (by omega))
  have e5 : ∀ j, j < 33 → T11 j = T5 j := fun j hj => (e6 j (by omega)).trans (fr6 j (by omega))
  have e4 : ∀ j, j < 28 → T11 j = T4 j := fun j hj => (e5 j (by omega)).trans (fr5 j (by omega))
  have e3 : ∀ j, j < 23 → T11 j = T3 j := fun j hj => (e4 j (by omega)).trans (fr4 j (by omega))
  have e2 : ∀ j, j < 16 → T11 j = T2 j := fun j hj => (e3 j (by omega)).trans (fr3 j (by omega))
  have e1 : ∀ j, j < 14 → T11 j = T1 j := fun j hj => (e2 j (by omega)).trans (fr2 j (by omega))
  refine ⟨T11, ?_, ⟨⟨fun i h1 h2 => ?_, ?_, fun k h1 h2 => ?_, ?_⟩, ?_, ⟨?_, ?_, fun i h1 h2 => ?_, ?_⟩, fun a ha => ?_, fun a ha => ?_, ?_⟩, fun j hj => s11 j (by omega)⟩
  · unfold gX1_copy
    rw [bd_some g1, bd_some g2, bd_some g3, bd_some g4, bd_some g5, bd_some g6, bd_some g7, bd_some g8, bd_some g9, bd_some g10, bd_some g11]; rfl
  · have q1 : tin (36 + i) = 1 + i := by unfold tin; rw [if_neg (by omega), if_neg (by omega)]; omega
    show T11 (tin (36 + i)) = T (49 + tin (36 + i))
    rw [q1, e1 _ (by omega), w1 i h1 h2]; congr 1; omega
  · show (T11 1).length = 19
    rw [e1 1 (by decide)]; exact w2
  · show (T11 1).getD k 0 = (T 50).getD k 0
    rw [e1 1 (by decide)]; exact w3 k h1 h2
  · show (T11 1).getD 0 0 = 0
    rw [e1 1 (by decide), w4]; exact ath
  · show T11 15 = T 64
    rw [e2 15 (by decide)]; exact c15
  · show (T11 16).length = 8
    rw [e3 16 (by decide), c16, List.length_set, List.length_set]; exact al0
  · show (T11 16).getD 0 0 = (T 65).getD 0 0
    rw [e3 16 (by decide), c16, gd_set_ne (by decide), gd_set_same (by omega)]
  · rcases (show i = 4 ∨ i = 5 ∨ i = 6 ∨ i = 7 ∨ i = 8 by omega) with q | q | q | q | q <;> subst q
    · show T11 17 = T 66
      rw [e3 17 (by decide)]; exact c17
    · show T11 18 = T 67
      rw [e3 18 (by decide)]; exact c18
    · show T11 19 = T 68
      rw [e3 19 (by decide)]; exact c19
    · show T11 20 = T 69
      rw [e3 20 (by decide)]; exact c20
    · show T11 21 = T 70
      rw [e3 21 (by decide)]; exact c21
  · show (T11 22).length = 400
    rw [e3 22 (by decide), fr3 22 (by decide), s2 22 (by decide)]; exact al6
  · simp only [List.mem_cons, List.not_mem_nil, or_false] at ha
    rcases ha with q | q | q <;> subst q
    · refine ⟨?_, ?_, fun i h1 h2 => ?_⟩
      · show (T11 23).length = 5
        rw [e4 23 (by decide), c23, List.length_set]; exact ad0
      · show (T11 23).getD 0 0 = (T 72).getD 0 0
        rw [e4 23 (by decide), c23, gd_set_same (by omega)]
      · rcases (show i = 1 ∨ i = 2 ∨ i = 3 ∨ i = 4 by omega) with q | q | q | q <;> subst q
        · show T11 24 = T 73
          rw [e4 24 (by decide)]; exact c24
        · show T11 25 = T 74
          rw [e4 25 (by decide)]; exact c25
        · show T11 26 = T 75
          rw [e4 26 (by decide)]; exact c26
        · show T11 27 = T 76
          rw [e4 27 (by decide)]; exact c27
    · refine ⟨?_, ?_, fun i h1 h2 => ?_⟩
      · show (T11 28).length = 5
        rw [e5 28 (by decide), c28, List.length_set]; exact am0
      · show (T11 28).getD 0 0 = (T 77).getD 0 0
        rw [e5 28 (by decide), c28, gd_set_same (by omega)]
      · rcases (show i = 1 ∨ i = 2 ∨ i = 3 ∨ i = 4 by omega) with q | q | q | q <;> subst q
        · show T11 29 = T 78
          rw [e5 29 (by decide)]; exact c29
        · show T11 30 = T 79
          rw [e5 30 (by decide)]; exact c30
        · show T11 31 = T 80
          rw [e5 31 (by decide)]; exact c31
        · show T11 32 = T 81
          rw [e5 32 (by decide)]; exact c32
    · refine ⟨?_, ?_, fun i h1 h2 => ?_⟩
      · show (T11 33).length = 5
        rw [e6 33 (by decide), c33, List.length_set]; exact af0
      · show (T11 33).getD 0 0 = (T 82).getD 0 0
        rw [e6 33 (by decide), c33, gd_set_same (by omega)]
      · rcases (show i = 1 ∨ i = 2 ∨ i = 3 ∨ i = 4 by omega) with q | q | q | q <;> subst q
        · show T11 34 = T 83
          rw [e6 34 (by decide)]; exact c34
        · show T11 35 = T 84
          rw [e6 35 (by decide)]; exact c35
        · show T11 36 = T 85
          rw [e6 36 (by decide)]; exact c36
        · show T11 37 = T 86
          rw [e6 37 (by decide)]; exact c37
  · simp only [List.mem_cons, List.not_mem_nil, or_false] at ha
    rcases ha with q | q | q | q | q <;> subst q
    · obtain ⟨r1, r2⟩ := rsL_ok (c := T 88) (l := T 39) k0 (by rw [at1]; rw [bt1] at kl0; exact kl0)
      refine ⟨?_, ?_, ?_, fun k h1 h2 i hi => ?_⟩
      · show (T11 38).length = 2
        rw [e7 38 (by decide), c38, List.length_set]; exact at0
      · show (T11 38).getD 0 0 = (T 87).getD 0 0
        rw [e7 38 (by decide), c38, gd_set_same (by omega), kv0]
      · show (T11 39).length = (T 88).length
        rw [e7 39 (by decide), c39, r1, at1, bt1]
      · have h1 : (T 87).getD 0 0 = nI k := h1
        have h2 : k ≤ (T 88).length := h2
        rw [bt1] at h2 kl0
        have hkk : k0 = k := (nI_eq (by omega) (by omega)).mp (kv0.symm.trans h1)
        show (T11 39).getD i 0 = (T 88).getD i 0
        rw [e7 39 (by decide), c39]; exact r2 i (by omega)
    · obtain ⟨r1, r2⟩ := rsL_ok (c := T 90) (l := T 41) k1 (by rw [at3]; rw [bt3] at kl1; exact kl1)
      refine ⟨?_, ?_, ?_, fun k h1 h2 i hi => ?_⟩
      · show (T11 40).length = 2
        rw [e8 40 (by decide), c40, List.length_set]; exact at2
      · show (T11 40).getD 0 0 = (T 89).getD 0 0
        rw [e8 40 (by decide), c40, gd_set_same (by omega), kv1]
      · show (T11 41).length = (T 90).length
        rw [e8 41 (by decide), c41, r1, at3, bt3]
      · have h1 : (T 89).getD 0 0 = nI k := h1
        have h2 : k ≤ (T 90).length := h2
        rw [bt3] at h2 kl1
        have hkk : k1 = k := (nI_eq (by omega) (by omega)).mp (kv1.symm.trans h1)
        show (T11 41).getD i 0 = (T 90).getD i 0
        rw [e8 41 (by decide), c41]; exact r2 i (by omega)
    · obtain ⟨r1, r2⟩ := rsL_ok (c := T 92) (l := T 43) k2 (by rw [at5]; rw [bt5] at kl2; exact kl2)
      refine ⟨?_, ?_, ?_, fun k h1 h2 i hi => ?_⟩
      · show (T11 42).length = 2
        rw [e9 42 (by decide), c42, List.length_set]; exact at4
      · show (T11 42).getD 0 0 = (T 91).getD 0 0
        rw [e9 42 (by decide), c42, gd_set_same (by omega), kv2]
      · show (T11 43).length = (T 92).length
        rw [e9 43 (by decide), c43, r1, at5, bt5]
      · have h1 : (T 91).getD 0 0 = nI k := h1
        have h2 : k ≤ (T 92).length := h2
        rw [bt5] at h2 kl2
        have hkk : k2 = k := (nI_eq (by omega) (by omega)).mp (kv2.symm.trans h1)
        show (T11 43).getD i 0 = (T 92).getD i 0
        rw [e9 43 (by decide), c43]; exact r2 i (by omega)
    · obtain ⟨r1, r2⟩ := rsL_ok (c := T 94) (l := T 45) k3 (by rw [at7]; rw [bt7] at kl3; exact kl3)
      refine ⟨?_, ?_, ?_, fun k h1 h2 i hi => ?_⟩
      · show (T11 44).length = 2
        rw [e10 44 (by decide), c44, List.length_set]; exact at6
      · show (T11 44).getD 0 0 = (T 93).getD 0 0
        rw [e10 44 (by decide), c44, gd_set_same (by omega), kv3]
      · show (T11 45).length = (T 94).length
        rw [e10 45 (by decide), c45, r1, at7, bt7]
      · have h1 : (T 93).getD 0 0 = nI k := h1
        have h2 : k ≤ (T 94).length := h2
        rw [bt7] at h2 kl3
        have hkk : k3 = k := (nI_eq (by omega) (by omega)).mp (kv3.symm.trans h1)
        show (T11 45).getD i 0 = (T 94).getD i 0
        rw [e10 45 (by decide), c45]; exact r2 i (by omega)
    · obtain ⟨r1, r2⟩ := rsL_ok (c := T 96) (l := T 47) k4 (by rw [at9]; rw [bt9] at kl4; exact kl4)
      refine ⟨?_, ?_, ?_, fun k h1 h2 i hi => ?_⟩
      · show (T11 46).length = 2
        rw [c46, List.length_set]; exact at8
      · show (T11 46).getD 0 0 = (T 95).getD 0 0
        rw [c46, gd_set_same (by omega), kv4]
      · show (T11 47).length = (T 96).length
        rw [c47, r1, at9, bt9]
      · have h1 : (T 95).getD 0 0 = nI k := h1
        have h2 : k ≤ (T 96).length := h2
        rw [bt9] at h2 kl4
        have hkk : k4 = k := (nI_eq (by omega) (by omega)).mp (kv4.symm.trans h1)
        show (T11 47).getD i 0 = (T 96).getD i 0
        rw [c47]; exact r2 i (by omega)
  · show (T11 48).length = 9
    rw [s11 48 (by decide)]; exact as
