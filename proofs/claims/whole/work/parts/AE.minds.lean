/-! PURE: text, a line of minds -/
def DLm (np : Nat) (U : Bk) (ds : List Int32) (k : Nat) : Prop := ∀ i, i < k → (U 2).getD i 0 = ds.getD (48 + 3 * i) 0 ∧ (U 4).getD i 0 = ds.getD (48 + 3 * i + 1) 0 ∧ (U 5).getD i 0 = ds.getD (48 + 3 * i + 2) 0 ∧ ∃ a : Nat, a < np ∧ ds.getD (48 + 3 * i + 1) 0 = nI a
set_option maxHeartbeats 400000 in
theorem DLm_put {np k a : Nat} {U U' : Bk} {ds ds' : List Int32} {d b : Int32} (h : DLm np U ds k) (hk : k < 16) (hl : ds.length = 96) (l2 : (U 2).length = 16) (l4 : (U 4).length = 16) (l5 : (U 5).length = 16)
    (e2 : U' 2 = (U 2).set k d) (e4 : U' 4 = (U 4).set k (nI a)) (e5 : U' 5 = (U 5).set k b) (e : ds' = ((ds.set (48 + 3 * k) d).set (48 + 3 * k + 1) (nI a)).set (48 + 3 * k + 2) b) (ha : a < np) : DLm np U' ds' (k + 1) := by
  intro i hi
  rw [e2, e4, e5, e]
  by_cases c : i = k
  · subst c
    have s0 : (((ds.set (48 + 3 * i) d).set (48 + 3 * i + 1) (nI a)).set (48 + 3 * i + 2) b).getD (48 + 3 * i) 0 = d := by rw [gd_set_ne (by omega), gd_set_ne (by omega), gd_set_same (by omega)]
    have s1 : (((ds.set (48 + 3 * i) d).set (48 + 3 * i + 1) (nI a)).set (48 + 3 * i + 2) b).getD (48 + 3 * i + 1) 0 = nI a := by rw [gd_set_ne (by omega), gd_set_same (by rw [List.length_set]; omega)]
    have s2 : (((ds.set (48 + 3 * i) d).set (48 + 3 * i + 1) (nI a)).set (48 + 3 * i + 2) b).getD (48 + 3 * i + 2) 0 = b := by rw [gd_set_same (by rw [List.length_set, List.length_set]; omega)]
    rw [s0, s1, s2, gd_set_same (by omega), gd_set_same (by omega), gd_set_same (by omega)]
    exact ⟨rfl, rfl, rfl, a, ha, rfl⟩
  · have hs : ∀ j, j < 3 → (((ds.set (48 + 3 * k) d).set (48 + 3 * k + 1) (nI a)).set (48 + 3 * k + 2) b).getD (48 + 3 * i + j) 0 = ds.getD (48 + 3 * i + j) 0 := fun j hj => by rw [gd_set_ne (by omega), gd_set_ne (by omega), gd_set_ne (by omega)]
    have hs0 : (((ds.set (48 + 3 * k) d).set (48 + 3 * k + 1) (nI a)).set (48 + 3 * k + 2) b).getD (48 + 3 * i) 0 = ds.getD (48 + 3 * i) 0 := by rw [gd_set_ne (by omega), gd_set_ne (by omega), gd_set_ne (by omega)]
    rw [hs0, hs 1 (by omega), hs 2 (by omega), gd_set_ne (fun q => c q.symm), gd_set_ne (fun q => c q.symm), gd_set_ne (fun q => c q.symm)]
    exact h i (by omega)
def PMl (ts : Nat → Nat) (n np : Nat) (U0 B0 : Bk) (k : Nat) (r : Int32) (U' : Bk) (r' : Int32) (B' : Bk) : Prop := (r = 0 ∧ r' = -1 ∧ FLL U0 U' B0 B') ∨ (r = 1 ∧ r' = 0 ∧ ∃ t', MLi ts n U0 U' B0 B' t' ∧ (U' 1).getD 0 0 = nI (k + 1) ∧ DLm np U' (B' 18) (k + 1))
set_option maxHeartbeats 400000 in
theorem mind_tail {ts : Nat → Nat} {n np nc nt k a b : Nat} {U0 B0 U B : Bk} {t : Tok} {ds : List Int32} {Ub : Bk} {d : Int32} (hE : ENV ts n U0 B0 np nc nt) (h : MLi ts n U0 U B0 B t) (hk : (U 1).getD 0 0 = nI k) (hk16 : k < 16)
    (hD : DLm np Ub ds k) (eU : ∀ c, c ≠ 0 → c ≠ 6 → U c = Ub c) (eB : B 18 = (ds.set (48 + 3 * k) d).set (48 + 3 * k + 1) (nI a)) (hds : ds.length = 96)
    (hb9 : b < 10000) (ha : a < np) :
    J2 ((bd (lf rh19 5 (gX5_add d 0 (nI a) (nI b))) fun _ => bd (lf rh18 2 (gX7_take 59)) fun r13 => (if r13 = 0 then rz 0 else rz 1)) U) ((bd (sa 18 (nI (48 + 3 * k + 2)) (nI b)) fun _ => bd (la 18 (nI (48 + 3 * k + 2))) fun v18 => (if v18 = -1 then pr (-1) else bd (gX11_readMark 59) fun r21 => pr r21)) B) (PMl ts n np U0 B0 k) := by
  have hE' := hE
  obtain ⟨hx, ⟨u0, u1, u2, u3, u4, u5⟩, hy, hb, -, ⟨-, b18, -⟩, hr⟩ := hE
  have hu := h.2.1
  have l1 : (U 1).length = 5 := by rw [hu.1 1 (by decide)]; exact u1
  have l2 : (U 2).length = 16 := by rw [hu.1 2 (by decide)]; exact u2
  have l3 : (U 3).length = 16 := by rw [hu.1 3 (by decide)]; exact u3
  have l4 : (U 4).length = 16 := by rw [hu.1 4 (by decide)]; exact u4
  have l5 : (U 5).length = 16 := by rw [hu.1 5 (by decide)]; exact u5
  have lb : (B 18).length = 96 := by rw [h.2.2.2.1.1 18]; exact b18
  have m2 := ML_c (c := 18) (i := 48 + 3 * k + 2) (v := nI b) h (by omega) (by show 48 ≤ _; omega)
  rw [c_add l1 l2 l3 l4 l5 hk hk16, dr_put (by omega) (by omega)]
  obtain ⟨V, hV⟩ : ∃ V, up (up (up (up (up U 2 ((U 2).set k d)) 3 ((U 3).set k 0)) 4 ((U 4).set k (nI a))) 5 ((U 5).set k (nI b))) 1 ((U 1).set 0 (nI (k + 1))) = V := ⟨_, rfl⟩
  obtain ⟨C, hC⟩ : ∃ C, up B 18 ((B 18).set (48 + 3 * k + 2) (nI b)) = C := ⟨_, rfl⟩
  rw [hC] at m2
  rw [hV, hC]
  have vF : FU U0 V := by
    rw [← hV]
    refine ⟨fun c hc => ?_, fun c hc => ?_⟩
    · rw [up_len (by rw [List.length_set]; rfl), up_len (by rw [List.length_set]; rfl), up_len (by rw [List.length_set]; rfl), up_len (by rw [List.length_set]; rfl), up_len List.length_set]
      exact hu.1 c hc
    · rw [up_ne _ _ (by omega), up_ne _ _ (by omega), up_ne _ _ (by omega), up_ne _ _ (by omega), up_ne _ _ (by omega)]
      exact hu.2 c hc
  have v6 : V 6 = U 6 := by rw [← hV]; rfl
  have mV : MLi ts n U0 V B0 C t := ⟨m2.1, vF, by rw [v6]; exact m2.2.2.1, m2.2.2.2.1, m2.2.2.2.2⟩
  have hD2 : DLm np V (C 18) (k + 1) := DLm_put (d := d) hD hk16 hds (by rw [← eU 2 (by decide) (by decide)]; exact l2) (by rw [← eU 4 (by decide) (by decide)]; exact l4) (by rw [← eU 5 (by decide) (by decide)]; exact l5)
    (by rw [← hV, ← eU 2 (by decide) (by decide)]; rfl) (by rw [← hV, ← eU 4 (by decide) (by decide)]; rfl) (by rw [← hV, ← eU 5 (by decide) (by decide)]; rfl) (by rw [← hC, up_same, eB]) ha
  rw [if_neg (n_m1 (a := b) (by omega))]
  rcases lk_mark hE' mV with ⟨V', C', t', g1, g2, g3, g4, g5⟩ | ⟨V', C', g1, g2, g3⟩
  · rw [g1, g2, if_neg (by decide)]
    refine ⟨_, _, _, _, rfl, rfl, Or.inr ⟨rfl, rfl, t', g3, ?_, ?_⟩⟩
    · rw [g4 1 (by decide), ← hV, up_same, gd_set_same (by omega)]
    · intro i hi
      rw [g4 2 (by decide), g4 4 (by decide), g4 5 (by decide), g5 18 (by decide)]
      exact hD2 i hi
  · rw [g1, g2, if_pos rfl]
    exact ⟨_, _, _, _, rfl, rfl, Or.inl ⟨rfl, rfl, g3⟩⟩
set_option maxHeartbeats 400000 in
theorem mind_line {ts : Nat → Nat} {n np nc nt k : Nat} {U0 B0 U B : Bk} {t : Tok} (hE : ENV ts n U0 B0 np nc nt) (h : MLi ts n U0 U B0 B t) (hw : t.1 = 2 ∧ t.2.1 = 20) (hk : (U 1).getD 0 0 = nI k) (hk16 : k < 16) (hD : DLm np U (B 18) k) : J2 (gX4_readLine 2 U) (gX11_readMind (nI (48 + 3 * k)) B) (PMl ts n np U0 B0 k) := by
  have hE' := hE
  obtain ⟨hx, ⟨u0, u1, u2, u3, u4, u5⟩, ⟨hy, y8, y4, y5, y6⟩, hb, ⟨r6, r7, r8⟩, ⟨-, b18, -⟩, ⟨hnp, hnc, hnt⟩⟩ := hE
  obtain ⟨U1, B1, g1, f1, m1, e1, kb1⟩ := lk_next hE' h
  have ht : ∀ {β : Type} (K : Int32 → MM β), bd (gX11_readTold 16 0 (nI 1000 - 1)) K B = bd (gX11_readNumber 0 (nI 1000 - 1)) K B1 := fun K => lk_told hE' h (i := 20) (by decide) hw f1 0 (nI 1000 - 1) K
  rw [head_2 hE' h hw hk hk16 g1]
  unfold gX11_readMind
  rw [show (999 : Int32) = nI 1000 - 1 by decide, ht]
  have lds : (B 18).length = 96 := by rw [h.2.2.2.1.1 18]; exact b18
  have h10 : ¬ (1 : Int32) = 0 := by decide
  rcases lk_num hE' m1 (c := 1000) (by decide) with ⟨U2, B2, hd, g2, f2, m2, e2, ku2, kb2⟩ | ⟨U2, B2, g2, f2, fl⟩
  · obtain ⟨d, hd2⟩ : ∃ d, (nxT ts n t).2.1 = d := ⟨_, rfl⟩
    rw [hd2] at hd f2 e2
    have l20 : (U2 0).length = 2 := by rw [m2.2.1.1 0 (by decide)]; exact u0
    have b218 : B2 18 = B 18 := by rw [kb2 18 (by decide), kb1 18 (by decide)]
    rw [g2, f2, if_neg h10, bd_ld _ (by omega), e2, dr_put (by rw [b218]; omega) (by rw [b218]; omega), if_neg (n_m1 (by omega)), b218]
    obtain ⟨B3, hB3⟩ : ∃ B3, up B2 18 ((B 18).set (48 + 3 * k) (nI d)) = B3 := ⟨_, rfl⟩
    have m3 : MLi ts n U0 U2 B0 B3 (nxT ts n (nxT ts n t)) := by
      rw [← hB3, ← b218]
      exact ML_c m2 (by decide) (by show 48 ≤ _; omega)
    rw [hB3]
    obtain ⟨t2, ht2⟩ : ∃ t2, nxT ts n (nxT ts n t) = t2 := ⟨_, rfl⟩
    rw [ht2] at m3
    have bl3 := FRR_len hb m3.2.2.2.1
    have eb : (B3 0).getD 6 0 = nI np := by rw [m3.2.2.2.1.2.2.1 6 (by decide)]; exact r6
    unfold gX4_readMind
    simp only [jn_eq]
    rw [bd_as, bd_ld (i := 0) (k := 6) _ (by omega), eb]
    by_cases c21 : t2.1 = 2 ∧ t2.2.1 = 21
    · obtain ⟨U3, B4, g3, f3, m4, e3, kb3⟩ := lk_take hE' m3 (i := 21) (by decide) c21
      have g3' : ∀ {β : Type} (K : Int32 → MM β), bd (lf rh18 2 (gX7_take 321)) K U2 = K 1 U3 := fun K => g3 K
      have ht3 : ∀ {β : Type} (K : Int32 → MM β), bd (gX11_readTold 21 0 (nI np - 1)) K B3 = bd (gX11_readNumber 0 (nI np - 1)) K B4 := fun K => lk_told hE' m3 (i := 21) (by decide) c21 f3 0 (nI np - 1) K
      have e8 : (U3 8).getD 4 0 = nI np := by rw [m4.2.1.2 8 (by decide)]; exact y4
      have l8 : (U3 8).length = 19 := by rw [m4.2.1.2 8 (by decide)]; exact y8
      rw [g3', if_neg h10, bd_as, bd_ld _ (by omega), e8, bd_as, ht3]
      have b4 : B4 18 = (B 18).set (48 + 3 * k) (nI d) := by rw [kb3 18 (by decide), ← hB3, up_same]
      rcases lk_num hE' m4 (c := np) (by omega) with ⟨U4, B5, ha, g4, f4, m5, e4, ku4, kb4⟩ | ⟨U4, B5, g4, f4, fl⟩
      · obtain ⟨a, hav⟩ : ∃ a, (nxT ts n t2).2.1 = a := ⟨_, rfl⟩
        rw [hav] at ha f4 e4
        have l40 : (U4 0).length = 2 := by rw [m5.2.1.1 0 (by decide)]; exact u0
        have b5 : B5 18 = B4 18 := kb4 18 (by decide)
        have lb5 : (B5 18).length = 96 := by rw [b5, b4, List.length_set]; exact lds
        rw [g4, if_neg h10, bd_as, bd_ld _ (by omega), e4, f4, nI_1, dr_put (by omega) (by omega), if_neg (n_m1 (by omega))]
        obtain ⟨B6, hB6⟩ : ∃ B6, up B5 18 ((B5 18).set (48 + 3 * k + 1) (nI a)) = B6 := ⟨_, rfl⟩
        rw [hB6]
        obtain ⟨t4, ht4⟩ : ∃ t4, nxT ts n (nxT ts n t2) = t4 := ⟨_, rfl⟩
        rw [ht4] at m5
        have m6 : MLi ts n U0 U4 B0 B6 t4 := by
          rw [← hB6]
          exact ML_c m5 (by decide) (by show 48 ≤ _; omega)
        have b6 : B6 18 = ((B 18).set (48 + 3 * k) (nI d)).set (48 + 3 * k + 1) (nI a) := by rw [← hB6, up_same, b5, b4]
        rw [bd_as]
        by_cases c3 : t4.1 = 2 ∧ t4.2.1 = 3
        · obtain ⟨U5, B7, g5, f5, m7, e5, kb5⟩ := lk_take hE' m6 (i := 3) (by decide) c3
          have g5' : ∀ {β : Type} (K : Int32 → MM β), bd (lf rh18 2 (gX7_take 303)) K U4 = K 1 U5 := fun K => g5 K
          have ht5 : ∀ {β : Type} (K : Int32 → MM β), bd (gX11_readTold 7 0 9) K B6 = bd (gX11_readNumber 0 (nI 10 - 1)) K B7 := fun K => lk_told hE' m6 (i := 3) (by decide) c3 f5 0 (nI 10 - 1) K
          rw [g5', if_neg h10, bd_as, ht5, show (9 : Int32) = nI 10 - 1 by decide]
          rcases lk_num hE' m7 (c := 10) (by omega) with ⟨U6, B8, hb5, g6, f6, m8, e6, ku6, kb6⟩ | ⟨U6, B8, g6, f6, fl⟩
          · obtain ⟨b, hbv⟩ : ∃ b, (nxT ts n t4).2.1 = b := ⟨_, rfl⟩
            rw [hbv] at hb5 f6 e6
            have l60 : (U6 0).length = 2 := by rw [m8.2.1.1 0 (by decide)]; exact u0
            rw [g6, if_neg h10, bd_as, bd_ld _ (by omega), e6, f6, bd_as, show (nI (48 + 3 * k) + 2 : Int32) = nI (48 + 3 * k + 2) from nI_add _ 2]
            simp only [bd_rzf1, if_neg h10]
            have eU6 : ∀ c, c ≠ 0 → c ≠ 6 → U6 c = U c := fun c c0 c6 => by
              rw [ku6 c c0 c6, e5 c c6, ku4 c c0 c6, e3 c c6, ku2 c c0 c6, e1 c c6]
            exact mind_tail hE' m8 (by rw [eU6 1 (by decide) (by decide)]; exact hk) hk16 hD eU6 (by rw [kb6 18 (by decide), kb5 18 (by decide)]; exact b6) lds (by omega) ha
          · rw [g6, if_pos rfl, bd_rzf0, if_pos rfl, f6, show (nI (48 + 3 * k) + 2 : Int32) = nI (48 + 3 * k + 2) from nI_add _ 2, dr_put (by rw [fl.2.1.1 18, b18]; omega) (by rw [fl.2.1.1 18, b18]; omega), if_pos rfl]
            exact ⟨_, _, _, _, rfl, rfl, Or.inl ⟨rfl, rfl, FLL_c fl (by decide) (by show 48 ≤ _; omega)⟩⟩
        · obtain ⟨U5, B7, g5, f5, fl⟩ := lk_take' hE' m6 (i := 3) (by decide) c3
          have g5' : ∀ {β : Type} (K : Int32 → MM β), bd (lf rh18 2 (gX7_take 303)) K U4 = K 0 U5 := fun K => g5 K
          have ht5 : ∀ {β : Type} (K : Int32 → MM β), bd (gX11_readTold 7 0 9) K B6 = K (-1) B7 := fun K => lk_told' hE' m6 (i := 3) (by decide) c3 f5 0 9 K
          rw [g5', if_pos rfl, bd_rzf0, if_pos rfl, ht5, show (nI (48 + 3 * k) + 2 : Int32) = nI (48 + 3 * k + 2) from nI_add _ 2, dr_put (by rw [fl.2.1.1 18, b18]; omega) (by rw [fl.2.1.1 18, b18]; omega), if_pos rfl]
          exact ⟨_, _, _, _, rfl, rfl, Or.inl ⟨rfl, rfl, FLL_c fl (by decide) (by show 48 ≤ _; omega)⟩⟩
      · rw [g4, if_pos rfl, bd_rzf0, if_pos rfl, f4, nI_1, dr_put (by rw [fl.2.1.1 18, b18]; omega) (by rw [fl.2.1.1 18, b18]; omega), if_pos rfl]
        exact ⟨_, _, _, _, rfl, rfl, Or.inl ⟨rfl, rfl, FLL_c fl (by decide) (by show 48 ≤ _; omega)⟩⟩
    · obtain ⟨U3, B4, g3, f3, fl⟩ := lk_take' hE' m3 (i := 21) (by decide) c21
      have g3' : ∀ {β : Type} (K : Int32 → MM β), bd (lf rh18 2 (gX7_take 321)) K U2 = K 0 U3 := fun K => g3 K
      have ht3 : ∀ {β : Type} (K : Int32 → MM β), bd (gX11_readTold 21 0 (nI np - 1)) K B3 = K (-1) B4 := fun K => lk_told' hE' m3 (i := 21) (by decide) c21 f3 0 (nI np - 1) K
      rw [g3', if_pos rfl, bd_rzf0, if_pos rfl, ht3, nI_1, dr_put (by rw [fl.2.1.1 18, b18]; omega) (by rw [fl.2.1.1 18, b18]; omega), if_pos rfl]
      exact ⟨_, _, _, _, rfl, rfl, Or.inl ⟨rfl, rfl, FLL_c fl (by decide) (by show 48 ≤ _; omega)⟩⟩
  · rw [g2, f2, if_pos rfl, dr_put (by rw [fl.2.1.1 18, b18]; omega) (by rw [fl.2.1.1 18, b18]; omega), if_pos rfl]
    exact ⟨_, _, _, _, rfl, rfl, Or.inl ⟨rfl, rfl, FLL_c fl (by decide) (by show 48 ≤ _; omega)⟩⟩
