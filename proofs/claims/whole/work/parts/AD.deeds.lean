/-! PURE: text, a line of deeds -/
theorem bd_pr' {f : MM Int32} (S : Bk) : bd f (fun r => pr r) S = f S := by
  unfold bd
  cases h : f S with
  | none => rfl
  | some q => rfl
theorem bd_eq {β : Type} {f g : MM Int32} {S S' : Bk} (h : f S = g S') (K : Int32 → MM β) : bd f K S = bd g K S' := by
  unfold bd
  rw [h]
theorem bd_as {α β γ : Type} (f : MM α) (k : α → MM β) (K : β → MM γ) (S : Bk) : bd (bd f k) K S = bd f (fun a => bd (k a) K) S := by
  unfold bd
  cases h : f S with
  | none => rfl
  | some q => rfl
set_option maxHeartbeats 400000 in
theorem lk_told {ts : Nat → Nat} {n np nc nt i : Nat} {U0 B0 U B B1 : Bk} {t : Tok} (hE : ENV ts n U0 B0 np nc nt) (h : MLi ts n U0 U B0 B t) (hi : i < 22) (hw : t.1 = 2 ∧ t.2.1 = i) (f1 : ∀ {β : Type} (K : Int32 → MM β), bd gX11_reads K B = K 0 B1) (lo hi' : Int32) {β : Type} (K : Int32 → MM β) : bd (gX11_readTold (nI (rhoW i)) lo hi') K B = bd (gX11_readNumber lo hi') K B1 := by
  obtain ⟨hx, hu, ⟨hy, -⟩, hb, -⟩ := hE
  obtain ⟨h1, h2, h3, h4, h5⟩ := h
  refine bd_eq ?_ K
  unfold gX11_readTold
  rw [bd_some (p_isWord hb hx h1 h4 h5 hi), b2i_t hw, if_neg (by decide), f1, bd_pr']
set_option maxHeartbeats 400000 in
theorem lk_told' {ts : Nat → Nat} {n np nc nt i : Nat} {U0 B0 U B B1 : Bk} {t : Tok} (hE : ENV ts n U0 B0 np nc nt) (h : MLi ts n U0 U B0 B t) (hi : i < 22) (hw : ¬ (t.1 = 2 ∧ t.2.1 = i)) (f1 : ∀ {β : Type} (K : Int32 → MM β), bd (gX11_errs 1) K B = K (-1) B1) (lo hi' : Int32) {β : Type} (K : Int32 → MM β) : bd (gX11_readTold (nI (rhoW i)) lo hi') K B = K (-1) B1 := by
  obtain ⟨hx, hu, ⟨hy, -⟩, hb, -⟩ := hE
  obtain ⟨h1, h2, h3, h4, h5⟩ := h
  refine bd_some ?_
  unfold gX11_readTold
  rw [bd_some (p_isWord hb hx h1 h4 h5 hi), b2i_f hw, if_pos (by decide), f1]; rfl
theorem ctk_rng {ts : Nat → Nat} {n a b : Nat} {t : Tok} (hx : TXT ts n) (h : TK ts n t) (hab : a ≤ b) (hb : b < 22) : ((nI (300 + a) : Int32) ≤ nI (ctk t) ∧ nI (ctk t) ≤ nI (300 + b)) ↔ (t.1 = 2 ∧ a ≤ t.2.1 ∧ t.2.1 ≤ b) := by
  have hl := ctk_lt hx h
  rw [nI_leI (by omega) (by omega), nI_leI (by omega) (by omega)]
  constructor
  · rintro ⟨h1, h2⟩
    obtain ⟨q1, q2⟩ := (ctk_word (i := ctk t - 300) hx h (by omega)).mp (by omega)
    exact ⟨q1, by omega, by omega⟩
  · rintro ⟨h1, h2, h3⟩
    have := (ctk_word (i := t.2.1) hx h (by omega)).mpr ⟨h1, rfl⟩
    omega
/-- a place of the draft written by the reference -/
theorem ML_c {ts : Nat → Nat} {n : Nat} {U0 B0 U B : Bk} {t : Tok} (h : MLi ts n U0 U B0 B t) {c i : Nat} {v : Int32} (hc : 10 ≤ c ∧ c ≤ 19) (hi : mnN c ≤ i) : MLi ts n U0 U B0 (up B c ((B c).set i v)) t := by
  obtain ⟨h1, h2, h3, h4, h5⟩ := h
  exact ⟨h1, h2, h3, FRR_c h4 hc hi, TR_congr h5 (fun k _ => by rw [up_ne _ _ (by omega)])⟩
theorem FLL_c {U0 B0 U B : Bk} (h : FLL U0 U B0 B) {c i : Nat} {v : Int32} (hc : 10 ≤ c ∧ c ≤ 19) (hi : mnN c ≤ i) : FLL U0 U B0 (up B c ((B c).set i v)) := by
  obtain ⟨h1, h2, f, st, h3, h4, h5⟩ := h
  exact ⟨h1, FRR_c h2 hc hi, f, st, h3, by rw [up_ne _ _ (by omega)]; exact h4, by rw [up_ne _ _ (by omega)]; exact h5⟩
/-- write into the draft, and read it again -/
theorem dr_put {B : Bk} {c i : Nat} {v : Int32} (hl : i < (B c).length) (h31 : (B c).length < 2 ^ 31) {β : Type} (K : Int32 → MM β) : bd (sa c (nI i) v) (fun _ => bd (la c (nI i)) K) B = K v (up B c ((B c).set i v)) := by
  rw [bd_sa _ hl h31, bd_la _ (by rw [up_same, List.length_set]; exact hl) (by rw [up_same, List.length_set]; exact h31), up_same, gd_set_same hl]
def DLr (np nc nt : Nat) (U : Bk) (ds : List Int32) (off k : Nat) : Prop := ∀ i, i < k → (U 2).getD i 0 = ds.getD (off + 4 * i) 0 ∧ (U 3).getD i 0 = ds.getD (off + 4 * i + 1) 0 ∧ (U 4).getD i 0 = ds.getD (off + 4 * i + 2) 0 ∧ (U 5).getD i 0 = ds.getD (off + 4 * i + 3) 0 ∧ (∃ w a b : Nat, w < 4 ∧ ds.getD (off + 4 * i + 1) 0 = nI w ∧ ds.getD (off + 4 * i + 2) 0 = nI a ∧ ds.getD (off + 4 * i + 3) 0 = nI b ∧ (w = 0 → a < nt ∧ b < nc) ∧ (w = 1 → a < nc ∧ b < np) ∧ (2 ≤ w → a < nc))
set_option maxHeartbeats 400000 in
theorem DLr_put {np nc nt k w a b : Nat} {U U' : Bk} {ds ds' : List Int32} {d : Int32} (h : DLr np nc nt U ds 64 k) (hk : k < 16) (hl : ds.length = 128) (l2 : (U 2).length = 16) (l3 : (U 3).length = 16) (l4 : (U 4).length = 16) (l5 : (U 5).length = 16)
    (e2 : U' 2 = (U 2).set k d) (e3 : U' 3 = (U 3).set k (nI w)) (e4 : U' 4 = (U 4).set k (nI a)) (e5 : U' 5 = (U 5).set k (nI b)) (e : ds' = (((ds.set (64 + 4 * k) d).set (64 + 4 * k + 1) (nI w)).set (64 + 4 * k + 2) (nI a)).set (64 + 4 * k + 3) (nI b))
    (hw : w < 4) (h0 : w = 0 → a < nt ∧ b < nc) (h1 : w = 1 → a < nc ∧ b < np) (h2 : 2 ≤ w → a < nc) : DLr np nc nt U' ds' 64 (k + 1) := by
  intro i hi
  rw [e2, e3, e4, e5, e]
  by_cases c : i = k
  · subst c
    have s0 : ((((ds.set (64 + 4 * i) d).set (64 + 4 * i + 1) (nI w)).set (64 + 4 * i + 2) (nI a)).set (64 + 4 * i + 3) (nI b)).getD (64 + 4 * i) 0 = d := by rw [gd_set_ne (by omega), gd_set_ne (by omega), gd_set_ne (by omega), gd_set_same (by omega)]
    have s1 : ((((ds.set (64 + 4 * i) d).set (64 + 4 * i + 1) (nI w)).set (64 + 4 * i + 2) (nI a)).set (64 + 4 * i + 3) (nI b)).getD (64 + 4 * i + 1) 0 = nI w := by rw [gd_set_ne (by omega), gd_set_ne (by omega), gd_set_same (by rw [List.length_set]; omega)]
    have s2 : ((((ds.set (64 + 4 * i) d).set (64 + 4 * i + 1) (nI w)).set (64 + 4 * i + 2) (nI a)).set (64 + 4 * i + 3) (nI b)).getD (64 + 4 * i + 2) 0 = nI a := by rw [gd_set_ne (by omega), gd_set_same (by rw [List.length_set, List.length_set]; omega)]
    have s3 : ((((ds.set (64 + 4 * i) d).set (64 + 4 * i + 1) (nI w)).set (64 + 4 * i + 2) (nI a)).set (64 + 4 * i + 3) (nI b)).getD (64 + 4 * i + 3) 0 = nI b := by rw [gd_set_same (by rw [List.length_set, List.length_set, List.length_set]; omega)]
    rw [s0, s1, s2, s3, gd_set_same (by omega), gd_set_same (by omega), gd_set_same (by omega), gd_set_same (by omega)]
    exact ⟨rfl, rfl, rfl, rfl, w, a, b, hw, rfl, rfl, rfl, h0, h1, h2⟩
  · have hs : ∀ j, j < 4 → ((((ds.set (64 + 4 * k) d).set (64 + 4 * k + 1) (nI w)).set (64 + 4 * k + 2) (nI a)).set (64 + 4 * k + 3) (nI b)).getD (64 + 4 * i + j) 0 = ds.getD (64 + 4 * i + j) 0 := fun j hj => by rw [gd_set_ne (by omega), gd_set_ne (by omega), gd_set_ne (by omega), gd_set_ne (by omega)]
    have hs0 : ((((ds.set (64 + 4 * k) d).set (64 + 4 * k + 1) (nI w)).set (64 + 4 * k + 2) (nI a)).set (64 + 4 * k + 3) (nI b)).getD (64 + 4 * i) 0 = ds.getD (64 + 4 * i) 0 := by rw [gd_set_ne (by omega), gd_set_ne (by omega), gd_set_ne (by omega), gd_set_ne (by omega)]
    rw [hs0, hs 1 (by omega), hs 2 (by omega), hs 3 (by omega), gd_set_ne (fun q => c q.symm), gd_set_ne (fun q => c q.symm), gd_set_ne (fun q => c q.symm), gd_set_ne (fun q => c q.symm)]
    exact h i (by omega)
def PDl (ts : Nat → Nat) (n np nc nt : Nat) (U0 B0 : Bk) (k : Nat) (r : Int32) (U' : Bk) (r' : Int32) (B' : Bk) : Prop := (r = 0 ∧ r' = -1 ∧ FLL U0 U' B0 B') ∨ (r = 1 ∧ r' = 0 ∧ ∃ t', MLi ts n U0 U' B0 B' t' ∧ (U' 1).getD 0 0 = nI (k + 1) ∧ DLr np nc nt U' (B' 17) 64 (k + 1))
set_option maxHeartbeats 400000 in
theorem deed_w : ∀ v, v < 22 → ((12 ≤ v ∧ v ≤ 15) ↔ (17 ≤ rhoW v ∧ rhoW v ≤ 20)) ∧ (12 ≤ v ∧ v ≤ 15 → rhoW v = v + 5) := by decide
set_option maxHeartbeats 400000 in
theorem deed_tail {ts : Nat → Nat} {n np nc nt k w a b : Nat} {U0 B0 U B : Bk} {t : Tok} {ds : List Int32} {Ub : Bk} {d : Int32} (hE : ENV ts n U0 B0 np nc nt) (h : MLi ts n U0 U B0 B t) (hk : (U 1).getD 0 0 = nI k) (hk16 : k < 16)
    (hD : DLr np nc nt Ub ds 64 k) (eU : ∀ c, c ≠ 0 → c ≠ 6 → U c = Ub c) (eB : B 17 = ((ds.set (64 + 4 * k) d).set (64 + 4 * k + 1) (nI w)).set (64 + 4 * k + 2) (nI a)) (hds : ds.length = 128)
    (hw : w < 4) (hb9 : b < 10000) (h0 : w = 0 → a < nt ∧ b < nc) (h1 : w = 1 → a < nc ∧ b < np) (h2 : 2 ≤ w → a < nc) :
    J2 ((bd (lf rh19 5 (gX5_add d (nI w) (nI a) (nI b))) fun _ => bd (lf rh18 2 (gX7_take 59)) fun r13 => (if r13 = 0 then rz 0 else rz 1)) U) ((bd (sa 17 (nI (64 + 4 * k + 3)) (nI b)) fun _ => bd (la 17 (nI (64 + 4 * k + 3))) fun v18 => (if v18 = -1 then pr (-1) else bd (gX11_readMark 59) fun r21 => pr r21)) B) (PDl ts n np nc nt U0 B0 k) := by
  have hE' := hE
  obtain ⟨hx, ⟨u0, u1, u2, u3, u4, u5⟩, hy, hb, -, ⟨b17, -⟩, hr⟩ := hE
  have hu := h.2.1
  have l1 : (U 1).length = 5 := by rw [hu.1 1 (by decide)]; exact u1
  have l2 : (U 2).length = 16 := by rw [hu.1 2 (by decide)]; exact u2
  have l3 : (U 3).length = 16 := by rw [hu.1 3 (by decide)]; exact u3
  have l4 : (U 4).length = 16 := by rw [hu.1 4 (by decide)]; exact u4
  have l5 : (U 5).length = 16 := by rw [hu.1 5 (by decide)]; exact u5
  have lb : (B 17).length = 128 := by rw [h.2.2.2.1.1 17]; exact b17
  have m2 := ML_c (c := 17) (i := 64 + 4 * k + 3) (v := nI b) h (by omega) (by show 64 ≤ _; omega)
  rw [c_add l1 l2 l3 l4 l5 hk hk16, dr_put (by omega) (by omega)]
  obtain ⟨V, hV⟩ : ∃ V, up (up (up (up (up U 2 ((U 2).set k d)) 3 ((U 3).set k (nI w))) 4 ((U 4).set k (nI a))) 5 ((U 5).set k (nI b))) 1 ((U 1).set 0 (nI (k + 1))) = V := ⟨_, rfl⟩
  obtain ⟨C, hC⟩ : ∃ C, up B 17 ((B 17).set (64 + 4 * k + 3) (nI b)) = C := ⟨_, rfl⟩
  rw [hC] at m2
  rw [hV, hC]
  have vF : FU U0 V := by
    rw [← hV]
    refine ⟨fun c hc => ?_, fun c hc => ?_⟩
    · rw [up_len (by rw [List.length_set]; rfl), up_len (by rw [List.length_set]; rfl), up_len (by rw [List.length_set]; rfl), up_len (by rw [List.length_set]; rfl), up_len List.length_set]
      exact hu.1 c hc
    · rw [up_ne _ _ (by omega), up_ne _ _ (by omega), up_ne _ _ (by omega), up_ne _ _ (by omega), up_ne _ _ (by omega)]
      exact hu.2 c hc
  have v6 : V 6 = U 6 := by rw [← hV]; rfl
  have mV : MLi ts n U0 V B0 C t := ⟨m2.1, vF, by rw [v6]; exact m2.2.2.1, m2.2.2.2.1, m2.2.2.2.2⟩
  have hD2 : DLr np nc nt V (C 17) 64 (k + 1) := DLr_put (d := d) hD hk16 hds (by rw [← eU 2 (by decide) (by decide)]; exact l2) (by rw [← eU 3 (by decide) (by decide)]; exact l3) (by rw [← eU 4 (by decide) (by decide)]; exact l4) (by rw [← eU 5 (by decide) (by decide)]; exact l5)
    (by rw [← hV, ← eU 2 (by decide) (by decide)]; rfl) (by rw [← hV, ← eU 3 (by decide) (by decide)]; rfl) (by rw [← hV, ← eU 4 (by decide) (by decide)]; rfl) (by rw [← hV, ← eU 5 (by decide) (by decide)]; rfl) (by rw [← hC, up_same, eB]) hw h0 h1 h2
  have bn : ¬ nI b = (-1 : Int32) := fun q => (e_nm1 (j := b) (by omega)).mp q
  rw [if_neg bn]
  rcases lk_mark hE' mV with ⟨V', C', t', g1, g2, g3, g4, g5⟩ | ⟨V', C', g1, g2, g3⟩
  · rw [g1, g2, if_neg (by decide)]
    refine ⟨_, _, _, _, rfl, rfl, Or.inr ⟨rfl, rfl, t', g3, ?_, ?_⟩⟩
    · rw [g4 1 (by decide), ← hV, up_same, gd_set_same (by omega)]
    · intro i hi
      rw [g4 2 (by decide), g4 3 (by decide), g4 4 (by decide), g4 5 (by decide), g5 17 (by decide)]
      exact hD2 i hi
  · rw [g1, g2, if_pos rfl]
    exact ⟨_, _, _, _, rfl, rfl, Or.inl ⟨rfl, rfl, g3⟩⟩
theorem bd_rzf1 {β : Type} (K : Int32 → MM β) : bd (rz 1) K = K 1 := by funext S; rfl
theorem bd_rzf0 {β : Type} (K : Int32 → MM β) : bd (rz 0) K = K 0 := by funext S; rfl
theorem n_m1 {a : Nat} (h : a < 2 ^ 31) : ¬ nI a = (-1 : Int32) := fun q => (e_nm1 (j := a) h).mp q
set_option maxHeartbeats 400000 in
theorem head_1 {ts : Nat → Nat} {n np nc nt k : Nat} {U0 B0 U B U1 : Bk} {t : Tok} (hE : ENV ts n U0 B0 np nc nt) (h : MLi ts n U0 U B0 B t) (hw : t.1 = 2 ∧ t.2.1 = 20) (hk : (U 1).getD 0 0 = nI k) (hk16 : k < 16) (g1 : ∀ {β : Type} (K : Int32 → MM β), bd (lf rh18 2 gX7_next) K U = K 0 U1) :
    gX4_readLine 1 U = (bd (gX4_takeNumber (nI 1000 - 1)) fun r6 => (if r6 = 0 then rz 0 else bd (ld 0 1) fun v16 => bd (gX4_readDeed v16) fun r17 => (if r17 = 0 then rz 0 else bd (lf rh18 2 (gX7_take 59)) fun r13 => (if r13 = 0 then rz 0 else rz 1)))) U1 := by
  obtain ⟨hx, ⟨u0, u1, -⟩, -⟩ := hE
  have l6 : (U 6).length = 8 := h.2.2.1.1
  have l1 : (U 1).length = 5 := by rw [h.2.1.1 1 (by decide)]; exact u1
  have e2 : (U 6).getD 2 0 = nI 320 := by rw [h.2.2.1.2.2.2.1, (ctk_word (i := 20) hx h.1 (by decide)).mpr hw]
  unfold gX4_readLine
  rw [bd_ld _ (by omega), e2, jn_eq, if_neg (by decide)]
  dsimp only
  rw [if_pos (show nI 320 = (320 : Int32) from rfl), bd_ld _ (by omega), hk, if_pos (show nI k < 16 from nI_lt (b := 16) hk16 (by omega)), g1, if_neg (by decide)]
  rfl
set_option maxHeartbeats 400000 in
theorem head_2 {ts : Nat → Nat} {n np nc nt k : Nat} {U0 B0 U B U1 : Bk} {t : Tok} (hE : ENV ts n U0 B0 np nc nt) (h : MLi ts n U0 U B0 B t) (hw : t.1 = 2 ∧ t.2.1 = 20) (hk : (U 1).getD 0 0 = nI k) (hk16 : k < 16) (g1 : ∀ {β : Type} (K : Int32 → MM β), bd (lf rh18 2 gX7_next) K U = K 0 U1) :
    gX4_readLine 2 U = (bd (gX4_takeNumber (nI 1000 - 1)) fun r6 => (if r6 = 0 then rz 0 else bd (ld 0 1) fun v16 => bd (gX4_readMind v16) fun r17 => (if r17 = 0 then rz 0 else bd (lf rh18 2 (gX7_take 59)) fun r13 => (if r13 = 0 then rz 0 else rz 1)))) U1 := by
  obtain ⟨hx, ⟨u0, u1, -⟩, -⟩ := hE
  have l6 : (U 6).length = 8 := h.2.2.1.1
  have l1 : (U 1).length = 5 := by rw [h.2.1.1 1 (by decide)]; exact u1
  have e2 : (U 6).getD 2 0 = nI 320 := by rw [h.2.2.1.2.2.2.1, (ctk_word (i := 20) hx h.1 (by decide)).mpr hw]
  unfold gX4_readLine
  rw [bd_ld _ (by omega), e2, jn_eq, if_neg (by decide)]
  dsimp only
  rw [if_pos (show nI 320 = (320 : Int32) from rfl), bd_ld _ (by omega), hk, if_pos (show nI k < 16 from nI_lt (b := 16) hk16 (by omega)), g1, if_neg (by decide)]
  rfl
set_option maxHeartbeats 400000 in
theorem head_3 {ts : Nat → Nat} {n np nc nt k : Nat} {U0 B0 U B U1 : Bk} {t : Tok} (hE : ENV ts n U0 B0 np nc nt) (h : MLi ts n U0 U B0 B t) (hw : t.1 = 2 ∧ t.2.1 = 21) (hk : (U 1).getD 0 0 = nI k) (hk16 : k < 16) (g1 : ∀ {β : Type} (K : Int32 → MM β), bd (lf rh18 2 gX7_next) K U = K 0 U1) :
    gX4_readLine 3 U = (bd gX4_readFriends fun r18 => (if r18 = 0 then rz 0 else bd (lf rh18 2 (gX7_take 59)) fun r23 => (if r23 = 0 then rz 0 else rz 1))) U1 := by
  obtain ⟨hx, ⟨u0, u1, -⟩, -⟩ := hE
  have l6 : (U 6).length = 8 := h.2.2.1.1
  have l1 : (U 1).length = 5 := by rw [h.2.1.1 1 (by decide)]; exact u1
  have e2 : (U 6).getD 2 0 = nI 321 := by rw [h.2.2.1.2.2.2.1, (ctk_word (i := 21) hx h.1 (by decide)).mpr hw]
  unfold gX4_readLine
  rw [bd_ld _ (by omega), e2, jn_eq, if_pos rfl]
  dsimp only
  rw [if_pos (show nI 321 = (321 : Int32) from rfl), bd_ld _ (by omega), hk, if_pos (show nI k < 16 from nI_lt (b := 16) hk16 (by omega)), g1, if_pos rfl]
  rfl
set_option maxHeartbeats 400000 in
theorem deed_line {ts : Nat → Nat} {n np nc nt k : Nat} {U0 B0 U B : Bk} {t : Tok} (hE : ENV ts n U0 B0 np nc nt) (h : MLi ts n U0 U B0 B t) (hw : t.1 = 2 ∧ t.2.1 = 20) (hk : (U 1).getD 0 0 = nI k) (hk16 : k < 16) (hD : DLr np nc nt U (B 17) 64 k) : J2 (gX4_readLine 1 U) (gX11_readDeed (nI (64 + 4 * k)) B) (PDl ts n np nc nt U0 B0 k) := by
  have hE' := hE
  obtain ⟨hx, ⟨u0, u1, u2, u3, u4, u5⟩, ⟨hy, y8, y4, y5, y6⟩, hb, ⟨r6, r7, r8⟩, ⟨b17, -⟩, ⟨hnp, hnc, hnt⟩⟩ := hE
  obtain ⟨U1, B1, g1, f1, m1, e1, kb1⟩ := lk_next hE' h
  have ht : ∀ {β : Type} (K : Int32 → MM β), bd (gX11_readTold 16 0 (nI 1000 - 1)) K B = bd (gX11_readNumber 0 (nI 1000 - 1)) K B1 := fun K => lk_told hE' h (i := 20) (by decide) hw f1 0 (nI 1000 - 1) K
  rw [head_1 hE' h hw hk hk16 g1]
  unfold gX11_readDeed
  rw [show (999 : Int32) = nI 1000 - 1 by decide, ht]
  have lds : (B 17).length = 128 := by rw [h.2.2.2.1.1 17]; exact b17
  have nine : ∀ {t' : Tok}, TK ts n t' → t'.1 = 3 → t'.2.1 ≤ 9999 := fun hh => (TK_ok hx hh).2.2.2.2.2.2.1
  rcases lk_num hE' m1 (c := 1000) (by decide) with ⟨U2, B2, hd, g2, f2, m2, e2, ku2, kb2⟩ | ⟨U2, B2, g2, f2, fl⟩
  · obtain ⟨d, hd2⟩ : ∃ d, (nxT ts n t).2.1 = d := ⟨_, rfl⟩
    rw [hd2] at hd f2 e2
    have l20 : (U2 0).length = 2 := by rw [m2.2.1.1 0 (by decide)]; exact u0
    have b217 : B2 17 = B 17 := by rw [kb2 17 (by decide), kb1 17 (by decide)]
    rw [g2, f2, if_neg (by decide), bd_ld _ (by omega), e2, dr_put (by rw [b217]; omega) (by rw [b217]; omega), if_neg (n_m1 (by omega)), b217]
    obtain ⟨B3, hB3⟩ : ∃ B3, up B2 17 ((B 17).set (64 + 4 * k) (nI d)) = B3 := ⟨_, rfl⟩
    have m3 : MLi ts n U0 U2 B0 B3 (nxT ts n (nxT ts n t)) := by
      rw [← hB3, ← b217]
      exact ML_c m2 (by decide) (by show 64 ≤ _; omega)
    rw [hB3]
    obtain ⟨t2, ht2⟩ : ∃ t2, nxT ts n (nxT ts n t) = t2 := ⟨_, rfl⟩
    rw [ht2] at m3
    have k2 := TK_ok hx m3.1
    have bl3 := FRR_len hb m3.2.2.2.1
    have tr3 := m3.2.2.2.2
    have l26 : (U2 6).length = 8 := m3.2.2.1.1
    have e26 : (U2 6).getD 2 0 = nI (ctk t2) := m3.2.2.1.2.2.2.1
    have hrng : ((312 : Int32) ≤ nI (ctk t2) ∧ nI (ctk t2) ≤ 315) ↔ (t2.1 = 2 ∧ 12 ≤ t2.2.1 ∧ t2.2.1 ≤ 15) := ctk_rng (a := 12) (b := 15) hx m3.1 (by decide) (by decide)
    unfold gX4_readDeed
    rw [bd_as, bd_ld _ (by omega), e26, bd_as, bd_iw, bd_ld _ (by omega), tr3.2.2.1]
    simp only [jn_eq]
    by_cases cD : t2.1 = 2 ∧ 12 ≤ t2.2.1 ∧ t2.2.1 ≤ 15
    · obtain ⟨w, hwv⟩ : ∃ w, t2.2.1 = w + 12 := ⟨t2.2.1 - 12, by omega⟩
      have hw4 : w < 4 := by omega
      have hv22 : t2.2.1 < 22 := k2.2.2.2.2.2.1 cD.1
      have hrho : rhoW t2.2.1 = w + 12 + 5 := by rw [(deed_w _ hv22).2 ⟨cD.2.1, cD.2.2⟩, hwv]
      have ectk : ctk t2 = 300 + (w + 12) := by rw [← hwv]; exact (ctk_word hx m3.1 hv22).mpr ⟨cD.1, rfl⟩
      obtain ⟨U3, B4, g3, f3, m4, e3, kb3⟩ := lk_next hE' m3
      have y1 : (0 + nI (ctk t2) - 312 : Int32) = nI w := by
        rw [ectk, Int32.zero_add]
        show nI (300 + (w + 12)) - nI 312 = nI w
        rw [pk_sub (by omega), show 300 + (w + 12) - 312 = w by omega]
      have y2 : (nI (rhoW t2.2.1) - 17 : Int32) = nI w := by
        rw [hrho]
        show nI (w + 12 + 5) - nI 17 = nI w
        rw [pk_sub (by omega), show w + 12 + 5 - 17 = w by omega]
      have i17 : (17 : Int32) ≤ nI (rhoW t2.2.1) ∧ nI (rhoW t2.2.1) ≤ 20 := by
        rw [hrho]
        exact ⟨(nI_leI (a := 17) (by omega) (by omega)).mpr (by omega), (nI_leI (b := 20) (by omega) (by omega)).mpr (by omega)⟩
      rw [b2i_t (hrng.mpr cD), if_neg (by decide), if_pos (show nI t2.1 = 2 by rw [cD.1]; rfl), bd_ld _ (by omega), tr3.2.2.2.1 cD.1, bd_in, b2i_t i17, if_neg (by decide), bd_ld _ (by omega), tr3.2.2.2.1 cD.1, lt_eq, y2, f3, bd_as, bd_ld _ (by omega), e26, lt_eq, y1, bd_as, g3, nI_1]
      have b4 : B4 17 = (B 17).set (64 + 4 * k) (nI d) := by rw [kb3 17 (by decide), ← hB3, up_same]
      rw [bd_sa _ (by rw [b4, List.length_set]; omega) (by rw [b4, List.length_set]; omega)]
      obtain ⟨B5, hB5⟩ : ∃ B5, up B4 17 ((B4 17).set (64 + 4 * k + 1) (nI w)) = B5 := ⟨_, rfl⟩
      have m5 : MLi ts n U0 U3 B0 B5 (nxT ts n t2) := by
        rw [← hB5]
        exact ML_c m4 (by decide) (by show 64 ≤ _; omega)
      have b5 : B5 17 = ((B 17).set (64 + 4 * k) (nI d)).set (64 + 4 * k + 1) (nI w) := by rw [← hB5, up_same, b4]
      have bl5 := FRR_len hb m5.2.2.2.1
      have lb5 : (B5 17).length = 128 := by rw [b5, List.length_set, List.length_set]; exact lds
      have h10 : ¬ (1 : Int32) = 0 := by decide
      rw [hB5]
      obtain ⟨t3, ht3⟩ : ∃ t3, nxT ts n t2 = t3 := ⟨_, rfl⟩
      rw [ht3] at m5
      rcases (show w = 0 ∨ w = 1 ∨ w = 2 ∨ w = 3 by omega) with hq | hq | hq | hq
      · subst hq
        have e8 : (U3 8).getD 6 0 = nI nt := by rw [m4.2.1.2 8 (by decide)]; exact y6
        have l8 : (U3 8).length = 19 := by rw [m4.2.1.2 8 (by decide)]; exact y8
        have eb : (B5 0).getD 8 0 = nI nt := by rw [m5.2.2.2.1.2.2.1 8 (by decide)]; exact r8
        rw [if_pos (show nI 0 = (0 : Int32) from rfl), bd_as, bd_ld _ (by omega), e8, if_pos (show nI 0 = (0 : Int32) from rfl), bd_ld _ (by omega), eb]
        rcases lk_num hE' m5 (c := nt) (by omega) with ⟨U4, B6, ha, g4, f4, m6, e4, ku4, kb4⟩ | ⟨U4, B6, g4, f4, fl⟩
        · obtain ⟨a, hav⟩ : ∃ a, t3.2.1 = a := ⟨_, rfl⟩
          rw [hav] at ha f4 e4
          have l40 : (U4 0).length = 2 := by rw [m6.2.1.1 0 (by decide)]; exact u0
          have b6 : B6 17 = B5 17 := kb4 17 (by decide)
          rw [bd_as, g4, if_neg (by decide), f4, bd_as, bd_ld _ (by omega), e4, show (nI (64 + 4 * k) + 2 : Int32) = nI (64 + 4 * k + 2) from nI_add _ 2, dr_put (by rw [b6]; omega) (by rw [b6]; omega), if_neg (n_m1 (by omega))]
          obtain ⟨B7, hB7⟩ : ∃ B7, up B6 17 ((B6 17).set (64 + 4 * k + 2) (nI a)) = B7 := ⟨_, rfl⟩
          rw [hB7]
          have m7 : MLi ts n U0 U4 B0 B7 (nxT ts n t3) := by
            rw [← hB7]
            exact ML_c m6 (by decide) (by show 64 ≤ _; omega)
          have b7 : B7 17 = (((B 17).set (64 + 4 * k) (nI d)).set (64 + 4 * k + 1) (nI 0)).set (64 + 4 * k + 2) (nI a) := by
            rw [← hB7, up_same, b6, b5]
          have eU4 : ∀ c, c ≠ 0 → c ≠ 6 → U4 c = U c := fun c c0 c6 => by
            rw [ku4 c c0 c6, e3 c c6, ku2 c c0 c6, e1 c c6]
          have hk4 : (U4 1).getD 0 0 = nI k := by rw [eU4 1 (by decide) (by decide)]; exact hk
          have e8' : (U4 8).getD 5 0 = nI nc := by rw [m7.2.1.2 8 (by decide)]; exact y5
          have l8' : (U4 8).length = 19 := by rw [m7.2.1.2 8 (by decide)]; exact y8
          have eb' : (B7 0).getD 7 0 = nI nc := by rw [m7.2.2.2.1.2.2.1 7 (by decide)]; exact r7
          have bl7 := FRR_len hb m7.2.2.2.1
          rw [if_pos (show nI 0 = (0 : Int32) from rfl), if_neg h10, if_pos (show nI 0 = (0 : Int32) from rfl), bd_as, bd_ld _ (by omega), e8', if_pos (show nI 0 = (0 : Int32) from rfl), bd_ld _ (by omega), eb']
          rcases lk_num hE' m7 (c := nc) (by omega) with ⟨U5, B8, hb5, g5, f5, m8, e5, ku5, kb5⟩ | ⟨U5, B8, g5, f5, fl⟩
          · obtain ⟨b, hbv⟩ : ∃ b, (nxT ts n t3).2.1 = b := ⟨_, rfl⟩
            rw [hbv] at hb5 f5 e5
            have l50 : (U5 0).length = 2 := by rw [m8.2.1.1 0 (by decide)]; exact u0
            rw [bd_as, g5, if_neg h10, f5, if_neg h10, bd_as, bd_ld _ (by omega), e5, bd_as, show (nI (64 + 4 * k) + 3 : Int32) = nI (64 + 4 * k + 3) from nI_add _ 3]
            simp only [bd_rzf1, if_neg h10]
            exact deed_tail hE' m8 (by rw [ku5 1 (by decide) (by decide)]; exact hk4) hk16 hD (fun c c0 c6 => by rw [ku5 c c0 c6]; exact eU4 c c0 c6) (by rw [kb5 17 (by decide)]; exact b7) lds (by decide) (by omega) (fun q => ⟨ha, hb5⟩) (fun q => absurd q (by decide)) (fun q => absurd q (by decide))
          · rw [bd_as, g5, if_pos rfl, bd_rzf0, if_pos rfl, f5, show (nI (64 + 4 * k) + 3 : Int32) = nI (64 + 4 * k + 3) from nI_add _ 3, dr_put (by rw [fl.2.1.1 17, b17]; omega) (by rw [fl.2.1.1 17, b17]; omega), if_pos rfl]
            exact ⟨_, _, _, _, rfl, rfl, Or.inl ⟨rfl, rfl, FLL_c fl (by decide) (by show 64 ≤ _; omega)⟩⟩
        · rw [bd_as, g4, if_pos rfl, bd_rzf0, if_pos rfl, f4, show (nI (64 + 4 * k) + 2 : Int32) = nI (64 + 4 * k + 2) from nI_add _ 2, dr_put (by rw [fl.2.1.1 17, b17]; omega) (by rw [fl.2.1.1 17, b17]; omega), if_pos rfl]
          exact ⟨_, _, _, _, rfl, rfl, Or.inl ⟨rfl, rfl, FLL_c fl (by decide) (by show 64 ≤ _; omega)⟩⟩
      · subst hq
        have e8 : (U3 8).getD 5 0 = nI nc := by rw [m4.2.1.2 8 (by decide)]; exact y5
        have l8 : (U3 8).length = 19 := by rw [m4.2.1.2 8 (by decide)]; exact y8
        have eb : (B5 0).getD 7 0 = nI nc := by rw [m5.2.2.2.1.2.2.1 7 (by decide)]; exact r7
        rw [if_neg (show ¬ nI 1 = (0 : Int32) by decide), bd_as, bd_ld _ (by omega), e8, if_neg (show ¬ nI 1 = (0 : Int32) by decide), bd_ld _ (by omega), eb]
        rcases lk_num hE' m5 (c := nc) (by omega) with ⟨U4, B6, ha, g4, f4, m6, e4, ku4, kb4⟩ | ⟨U4, B6, g4, f4, fl⟩
        · obtain ⟨a, hav⟩ : ∃ a, t3.2.1 = a := ⟨_, rfl⟩
          rw [hav] at ha f4 e4
          have l40 : (U4 0).length = 2 := by rw [m6.2.1.1 0 (by decide)]; exact u0
          have b6 : B6 17 = B5 17 := kb4 17 (by decide)
          rw [bd_as, g4, if_neg (by decide), f4, bd_as, bd_ld _ (by omega), e4, show (nI (64 + 4 * k) + 2 : Int32) = nI (64 + 4 * k + 2) from nI_add _ 2, dr_put (by rw [b6]; omega) (by rw [b6]; omega), if_neg (n_m1 (by omega))]
          obtain ⟨B7, hB7⟩ : ∃ B7, up B6 17 ((B6 17).set (64 + 4 * k + 2) (nI a)) = B7 := ⟨_, rfl⟩
          rw [hB7]
          have m7 : MLi ts n U0 U4 B0 B7 (nxT ts n t3) := by
            rw [← hB7]
            exact ML_c m6 (by decide) (by show 64 ≤ _; omega)
          have b7 : B7 17 = (((B 17).set (64 + 4 * k) (nI d)).set (64 + 4 * k + 1) (nI 1)).set (64 + 4 * k + 2) (nI a) := by
            rw [← hB7, up_same, b6, b5]
          have eU4 : ∀ c, c ≠ 0 → c ≠ 6 → U4 c = U c := fun c c0 c6 => by
            rw [ku4 c c0 c6, e3 c c6, ku2 c c0 c6, e1 c c6]
          have hk4 : (U4 1).getD 0 0 = nI k := by rw [eU4 1 (by decide) (by decide)]; exact hk
          have e8' : (U4 8).getD 4 0 = nI np := by rw [m7.2.1.2 8 (by decide)]; exact y4
          have l8' : (U4 8).length = 19 := by rw [m7.2.1.2 8 (by decide)]; exact y8
          have eb' : (B7 0).getD 6 0 = nI np := by rw [m7.2.2.2.1.2.2.1 6 (by decide)]; exact r6
          have bl7 := FRR_len hb m7.2.2.2.1
          rw [if_neg (show ¬ nI 1 = (0 : Int32) by decide), if_pos (show nI 1 = (1 : Int32) from rfl), if_neg h10, if_neg (show ¬ nI 1 = (0 : Int32) by decide), bd_as, bd_ld _ (by omega), e8', if_neg (show ¬ nI 1 = (0 : Int32) by decide), if_pos (show nI 1 = (1 : Int32) from rfl), bd_ld _ (by omega), eb']
          rcases lk_num hE' m7 (c := np) (by omega) with ⟨U5, B8, hb5, g5, f5, m8, e5, ku5, kb5⟩ | ⟨U5, B8, g5, f5, fl⟩
          · obtain ⟨b, hbv⟩ : ∃ b, (nxT ts n t3).2.1 = b := ⟨_, rfl⟩
            rw [hbv] at hb5 f5 e5
            have l50 : (U5 0).length = 2 := by rw [m8.2.1.1 0 (by decide)]; exact u0
            rw [bd_as, g5, if_neg h10, f5, if_neg h10, bd_as, bd_ld _ (by omega), e5, bd_as, show (nI (64 + 4 * k) + 3 : Int32) = nI (64 + 4 * k + 3) from nI_add _ 3]
            simp only [bd_rzf1, if_neg h10]
            exact deed_tail hE' m8 (by rw [ku5 1 (by decide) (by decide)]; exact hk4) hk16 hD (fun c c0 c6 => by rw [ku5 c c0 c6]; exact eU4 c c0 c6) (by rw [kb5 17 (by decide)]; exact b7) lds (by decide) (by omega) (fun q => absurd q (by decide)) (fun q => ⟨ha, hb5⟩) (fun q => absurd q (by decide))
          · rw [bd_as, g5, if_pos rfl, bd_rzf0, if_pos rfl, f5, show (nI (64 + 4 * k) + 3 : Int32) = nI (64 + 4 * k + 3) from nI_add _ 3, dr_put (by rw [fl.2.1.1 17, b17]; omega) (by rw [fl.2.1.1 17, b17]; omega), if_pos rfl]
            exact ⟨_, _, _, _, rfl, rfl, Or.inl ⟨rfl, rfl, FLL_c fl (by decide) (by show 64 ≤ _; omega)⟩⟩
        · rw [bd_as, g4, if_pos rfl, bd_rzf0, if_pos rfl, f4, show (nI (64 + 4 * k) + 2 : Int32) = nI (64 + 4 * k + 2) from nI_add _ 2, dr_put (by rw [fl.2.1.1 17, b17]; omega) (by rw [fl.2.1.1 17, b17]; omega), if_pos rfl]
          exact ⟨_, _, _, _, rfl, rfl, Or.inl ⟨rfl, rfl, FLL_c fl (by decide) (by show 64 ≤ _; omega)⟩⟩
      · subst hq
        have e8 : (U3 8).getD 5 0 = nI nc := by rw [m4.2.1.2 8 (by decide)]; exact y5
        have l8 : (U3 8).length = 19 := by rw [m4.2.1.2 8 (by decide)]; exact y8
        have eb : (B5 0).getD 7 0 = nI nc := by rw [m5.2.2.2.1.2.2.1 7 (by decide)]; exact r7
        rw [if_neg (show ¬ nI 2 = (0 : Int32) by decide), bd_as, bd_ld _ (by omega), e8, if_neg (show ¬ nI 2 = (0 : Int32) by decide), bd_ld _ (by omega), eb]
        rcases lk_num hE' m5 (c := nc) (by omega) with ⟨U4, B6, ha, g4, f4, m6, e4, ku4, kb4⟩ | ⟨U4, B6, g4, f4, fl⟩
        · obtain ⟨a, hav⟩ : ∃ a, t3.2.1 = a := ⟨_, rfl⟩
          rw [hav] at ha f4 e4
          have l40 : (U4 0).length = 2 := by rw [m6.2.1.1 0 (by decide)]; exact u0
          have b6 : B6 17 = B5 17 := kb4 17 (by decide)
          rw [bd_as, g4, if_neg (by decide), f4, bd_as, bd_ld _ (by omega), e4, show (nI (64 + 4 * k) + 2 : Int32) = nI (64 + 4 * k + 2) from nI_add _ 2, dr_put (by rw [b6]; omega) (by rw [b6]; omega), if_neg (n_m1 (by omega))]
          obtain ⟨B7, hB7⟩ : ∃ B7, up B6 17 ((B6 17).set (64 + 4 * k + 2) (nI a)) = B7 := ⟨_, rfl⟩
          rw [hB7]
          have m7 : MLi ts n U0 U4 B0 B7 (nxT ts n t3) := by
            rw [← hB7]
            exact ML_c m6 (by decide) (by show 64 ≤ _; omega)
          have b7 : B7 17 = (((B 17).set (64 + 4 * k) (nI d)).set (64 + 4 * k + 1) (nI 2)).set (64 + 4 * k + 2) (nI a) := by
            rw [← hB7, up_same, b6, b5]
          have eU4 : ∀ c, c ≠ 0 → c ≠ 6 → U4 c = U c := fun c c0 c6 => by
            rw [ku4 c c0 c6, e3 c c6, ku2 c c0 c6, e1 c c6]
          have hk4 : (U4 1).getD 0 0 = nI k := by rw [eU4 1 (by decide) (by decide)]; exact hk
          rw [if_neg (show ¬ nI 2 = (0 : Int32) by decide), if_neg (show ¬ nI 2 = (1 : Int32) by decide), if_pos trivial, if_pos trivial, bd_as, if_neg (show ¬ nI 2 = (0 : Int32) by decide), if_neg (show ¬ nI 2 = (1 : Int32) by decide), show (nI (64 + 4 * k) + 3 : Int32) = nI (64 + 4 * k + 3) from nI_add _ 3]
          simp only [bd_rzf1, if_neg h10]
          exact deed_tail (b := 0) hE' m7 hk4 hk16 hD eU4 b7 lds (by decide) (by omega) (fun q => absurd q (by decide)) (fun q => absurd q (by decide)) (fun _ => ha)
        · rw [bd_as, g4, if_pos rfl, bd_rzf0, if_pos rfl, f4, show (nI (64 + 4 * k) + 2 : Int32) = nI (64 + 4 * k + 2) from nI_add _ 2, dr_put (by rw [fl.2.1.1 17, b17]; omega) (by rw [fl.2.1.1 17, b17]; omega), if_pos rfl]
          exact ⟨_, _, _, _, rfl, rfl, Or.inl ⟨rfl, rfl, FLL_c fl (by decide) (by show 64 ≤ _; omega)⟩⟩
      · subst hq
        have e8 : (U3 8).getD 5 0 = nI nc := by rw [m4.2.1.2 8 (by decide)]; exact y5
        have l8 : (U3 8).length = 19 := by rw [m4.2.1.2 8 (by decide)]; exact y8
        have eb : (B5 0).getD 7 0 = nI nc := by rw [m5.2.2.2.1.2.2.1 7 (by decide)]; exact r7
        rw [if_neg (show ¬ nI 3 = (0 : Int32) by decide), bd_as, bd_ld _ (by omega), e8, if_neg (show ¬ nI 3 = (0 : Int32) by decide), bd_ld _ (by omega), eb]
        rcases lk_num hE' m5 (c := nc) (by omega) with ⟨U4, B6, ha, g4, f4, m6, e4, ku4, kb4⟩ | ⟨U4, B6, g4, f4, fl⟩
        · obtain ⟨a, hav⟩ : ∃ a, t3.2.1 = a := ⟨_, rfl⟩
          rw [hav] at ha f4 e4
          have l40 : (U4 0).length = 2 := by rw [m6.2.1.1 0 (by decide)]; exact u0
          have b6 : B6 17 = B5 17 := kb4 17 (by decide)
          rw [bd_as, g4, if_neg (by decide), f4, bd_as, bd_ld _ (by omega), e4, show (nI (64 + 4 * k) + 2 : Int32) = nI (64 + 4 * k + 2) from nI_add _ 2, dr_put (by rw [b6]; omega) (by rw [b6]; omega), if_neg (n_m1 (by omega))]
          obtain ⟨B7, hB7⟩ : ∃ B7, up B6 17 ((B6 17).set (64 + 4 * k + 2) (nI a)) = B7 := ⟨_, rfl⟩
          rw [hB7]
          have m7 : MLi ts n U0 U4 B0 B7 (nxT ts n t3) := by
            rw [← hB7]
            exact ML_c m6 (by decide) (by show 64 ≤ _; omega)
          have b7 : B7 17 = (((B 17).set (64 + 4 * k) (nI d)).set (64 + 4 * k + 1) (nI 3)).set (64 + 4 * k + 2) (nI a) := by
            rw [← hB7, up_same, b6, b5]
          have eU4 : ∀ c, c ≠ 0 → c ≠ 6 → U4 c = U c := fun c c0 c6 => by
            rw [ku4 c c0 c6, e3 c c6, ku2 c c0 c6, e1 c c6]
          have hk4 : (U4 1).getD 0 0 = nI k := by rw [eU4 1 (by decide) (by decide)]; exact hk
          rw [if_neg (show ¬ nI 3 = (0 : Int32) by decide), if_neg (show ¬ nI 3 = (1 : Int32) by decide), if_pos trivial, if_pos trivial, bd_as, if_neg (show ¬ nI 3 = (0 : Int32) by decide), if_neg (show ¬ nI 3 = (1 : Int32) by decide), show (nI (64 + 4 * k) + 3 : Int32) = nI (64 + 4 * k + 3) from nI_add _ 3]
          simp only [bd_rzf1, if_neg h10]
          exact deed_tail (b := 0) hE' m7 hk4 hk16 hD eU4 b7 lds (by decide) (by omega) (fun q => absurd q (by decide)) (fun q => absurd q (by decide)) (fun _ => ha)
        · rw [bd_as, g4, if_pos rfl, bd_rzf0, if_pos rfl, f4, show (nI (64 + 4 * k) + 2 : Int32) = nI (64 + 4 * k + 2) from nI_add _ 2, dr_put (by rw [fl.2.1.1 17, b17]; omega) (by rw [fl.2.1.1 17, b17]; omega), if_pos rfl]
          exact ⟨_, _, _, _, rfl, rfl, Or.inl ⟨rfl, rfl, FLL_c fl (by decide) (by show 64 ≤ _; omega)⟩⟩
    · have hno : ¬ (t2.1 = 2 ∧ (17 : Int32) ≤ nI (rhoW t2.2.1) ∧ nI (rhoW t2.2.1) ≤ 20) := fun z => by
        have hv22 := k2.2.2.2.2.2.1 z.1
        have hr := (rho_t _ hv22).1
        exact cD ⟨z.1, ((deed_w _ hv22).1).mpr ⟨(nI_leI (a := 17) (by omega) (by omega)).mp z.2.1, (nI_leI (b := 20) (by omega) (by omega)).mp z.2.2⟩⟩
      obtain ⟨U3, B4, g3, f3, fl⟩ := lk_refuse hE' m3 1
      have g3' : ∀ {β : Type} (K : Int32 → MM β), bd (lf rh18 2 (gX7_refuse 1)) K U2 = K 0 U3 := fun K => g3 K
      have f3' : ∀ {β : Type} (K : Int32 → MM β), bd (gX11_errs 1) K B3 = K (-1) B4 := fun K => f3 K
      rw [b2i_f (fun q => cD (hrng.mp q)), if_pos (by decide), bd_as, g3', bd_rzf0, if_pos rfl]
      by_cases c2 : t2.1 = 2
      · rw [if_pos (show nI t2.1 = 2 by rw [c2]; rfl), bd_ld _ (by omega), tr3.2.2.2.1 c2, bd_in, b2i_f (fun z => hno ⟨c2, z⟩), if_pos (by decide), f3']
        exact ⟨_, _, _, _, rfl, rfl, Or.inl ⟨rfl, rfl, fl⟩⟩
      · rw [if_neg (show ¬ nI t2.1 = 2 from fun q => c2 ((nI_eq (b := 2) (by omega) (by omega)).mp q)), f3']
        exact ⟨_, _, _, _, rfl, rfl, Or.inl ⟨rfl, rfl, fl⟩⟩
  · rw [g2, f2, if_pos rfl, dr_put (by rw [fl.2.1.1 17, b17]; omega) (by rw [fl.2.1.1 17, b17]; omega), if_pos rfl]
    exact ⟨_, _, _, _, rfl, rfl, Or.inl ⟨rfl, rfl, FLL_c fl (by decide) (by show 64 ≤ _; omega)⟩⟩
