/-! PURE: text, what both do with a token -/
abbrev Tok : Type := Nat × Nat × Nat × Nat
/-- a token of the text; the one behind it -/
def TK (ts : Nat → Nat) (n : Nat) (t : Tok) : Prop := ∃ p, p ≤ n ∧ t = tkN ts n p
def nxT (ts : Nat → Nat) (n : Nat) (t : Tok) : Tok := tkN ts n t.2.2.2
def TXT (ts : Nat → Nat) (n : Nat) : Prop := n ≤ 400 ∧ ∀ i, i < n → ts i < 256
theorem TK_ok {ts : Nat → Nat} {n : Nat} {t : Tok} (hx : TXT ts n) (h : TK ts n t) : t.2.2.1 ≤ n ∧ t.2.2.2 ≤ n ∧ t.1 ≤ 4 ∧ (t.1 = 0 → t.2.2.1 = n ∧ t.2.2.2 = n) ∧ (t.1 ≠ 0 → t.2.2.1 < t.2.2.2) ∧ (t.1 = 2 → t.2.1 < 22) ∧ (t.1 = 3 → t.2.1 ≤ 9999) ∧ (t.1 = 4 → mkN t.2.1 = true) ∧ (t.1 = 1 → t.2.1 < 259 ∧ t.2.1 ≠ 256 ∧ t.2.1 ≠ 257 ∧ mkN t.2.1 = false) := by
  obtain ⟨p, hp, rfl⟩ := h
  exact (tk_ok hx.1 hp hx.2).2
theorem TK_nx {ts : Nat → Nat} {n : Nat} {t : Tok} (hx : TXT ts n) (h : TK ts n t) : TK ts n (nxT ts n t) ∧ (t.1 ≠ 0 → t.2.2.1 < (nxT ts n t).2.2.1 ∧ t.2.2.1 < n) ∧ t.2.2.1 ≤ (nxT ts n t).2.2.1 := by
  obtain ⟨h1, h2, h3, h4, h5, -⟩ := TK_ok hx h
  have g := tk_ok (p := t.2.2.2) hx.1 h2 hx.2
  have g1 : t.2.2.2 ≤ (nxT ts n t).2.2.1 := g.1
  refine ⟨⟨_, h2, rfl⟩, fun hk => ?_, ?_⟩
  · have := h5 hk; omega
  · by_cases c : t.1 = 0
    · have := h4 c; omega
    · have := h5 c; omega
theorem mk_no {c v : Nat} (hc : mkN c = true) (hv : mkN v = false) : v ≠ c := fun q => by rw [q, hc] at hv; cases hv
theorem mk_lt {c : Nat} (hc : mkN c = true) : c < 256 ∧ c ≠ 256 ∧ c ≠ 257 := by
  have := mk_t c hc; omega
theorem ctk_lt {ts : Nat → Nat} {n : Nat} {t : Tok} (hx : TXT ts n) (h : TK ts n t) : ctk t < 400 := by
  obtain ⟨h1, h2, h3, h4, h5, h6, h7, h8, h9⟩ := TK_ok hx h
  unfold ctk
  by_cases c0 : t.1 = 0
  · rw [if_pos c0]; omega
  · rw [if_neg c0]
    by_cases c2 : t.1 = 2
    · have := h6 c2; rw [if_pos c2]; omega
    · rw [if_neg c2]
      by_cases c3 : t.1 = 3
      · rw [if_pos c3]; omega
      · rw [if_neg c3]
        by_cases c4 : t.1 = 4
        · have := mk_lt (h8 c4); omega
        · have := h9 (by omega); omega
theorem ctk_end {ts : Nat → Nat} {n : Nat} {t : Tok} (hx : TXT ts n) (h : TK ts n t) : (ctk t = 256) ↔ t.1 = 0 := by
  obtain ⟨h1, h2, h3, h4, h5, h6, h7, h8, h9⟩ := TK_ok hx h
  unfold ctk
  by_cases c0 : t.1 = 0
  · rw [if_pos c0]; omega
  · rw [if_neg c0]
    by_cases c2 : t.1 = 2
    · have := h6 c2; rw [if_pos c2]; omega
    · rw [if_neg c2]
      by_cases c3 : t.1 = 3
      · rw [if_pos c3]; omega
      · rw [if_neg c3]
        by_cases c4 : t.1 = 4
        · have := mk_lt (h8 c4); omega
        · have := h9 (by omega); omega
theorem ctk_num {ts : Nat → Nat} {n : Nat} {t : Tok} (hx : TXT ts n) (h : TK ts n t) : (ctk t = 257) ↔ t.1 = 3 := by
  obtain ⟨h1, h2, h3, h4, h5, h6, h7, h8, h9⟩ := TK_ok hx h
  unfold ctk
  by_cases c0 : t.1 = 0
  · rw [if_pos c0]; omega
  · rw [if_neg c0]
    by_cases c2 : t.1 = 2
    · have := h6 c2; rw [if_pos c2]; omega
    · rw [if_neg c2]
      by_cases c3 : t.1 = 3
      · rw [if_pos c3]; omega
      · rw [if_neg c3]
        by_cases c4 : t.1 = 4
        · have := mk_lt (h8 c4); omega
        · have := h9 (by omega); omega
theorem ctk_word {ts : Nat → Nat} {n i : Nat} {t : Tok} (hx : TXT ts n) (h : TK ts n t) (hi : i < 22) : (ctk t = 300 + i) ↔ (t.1 = 2 ∧ t.2.1 = i) := by
  obtain ⟨h1, h2, h3, h4, h5, h6, h7, h8, h9⟩ := TK_ok hx h
  unfold ctk
  by_cases c0 : t.1 = 0
  · rw [if_pos c0]; omega
  · rw [if_neg c0]
    by_cases c2 : t.1 = 2
    · have := h6 c2; rw [if_pos c2]; omega
    · rw [if_neg c2]
      by_cases c3 : t.1 = 3
      · rw [if_pos c3]; omega
      · rw [if_neg c3]
        by_cases c4 : t.1 = 4
        · have := mk_lt (h8 c4); omega
        · have := h9 (by omega); omega
theorem ctk_sign {ts : Nat → Nat} {n c : Nat} {t : Tok} (hx : TXT ts n) (h : TK ts n t) (hc : mkN c = true) : (ctk t = c) ↔ (t.1 = 4 ∧ t.2.1 = c) := by
  obtain ⟨h1, h2, h3, h4, h5, h6, h7, h8, h9⟩ := TK_ok hx h
  have hcl := mk_lt hc
  unfold ctk
  by_cases c0 : t.1 = 0
  · rw [if_pos c0]; omega
  · rw [if_neg c0]
    by_cases c2 : t.1 = 2
    · have := h6 c2; rw [if_pos c2]; omega
    · rw [if_neg c2]
      by_cases c3 : t.1 = 3
      · rw [if_pos c3]; omega
      · rw [if_neg c3]
        by_cases c4 : t.1 = 4
        · omega
        · have h := h9 (by omega)
          have := mk_no hc h.2.2.2
          omega
/-- the reference's word of a class's word -/
theorem rho_inj : ∀ i, i < 22 → ∀ j, j < 22 → rhoW i = rhoW j → i = j := by decide
/-- nothing but what a reader writes has changed in the reference -/
def mnN (c : Nat) : Nat := if c ≤ 13 then 16 else if c ≤ 15 then 400 else if c = 16 then 0 else if c = 17 then 64 else if c = 18 then 48 else 12
def wrS : List Nat := [14, 15, 16, 17, 27, 28, 30, 31, 32]
def FRR (B0 B : Bk) : Prop := (∀ c, (B c).length = (B0 c).length) ∧ (∀ c, c ≠ 0 → ¬ (10 ≤ c ∧ c ≤ 19) → B c = B0 c) ∧ (∀ k, k ∉ wrS → (B 0).getD k 0 = (B0 0).getD k 0) ∧ (∀ c i, 10 ≤ c → c ≤ 19 → i < mnN c → (B c).getD i 0 = (B0 c).getD i 0)
theorem FRR_rfl (B : Bk) : FRR B B := ⟨fun _ => rfl, fun _ _ _ => rfl, fun _ _ => rfl, fun _ _ _ _ _ => rfl⟩
theorem FRR_0 {B0 B : Bk} {z : List Int32} (h : FRR B0 B) (hl : z.length = (B 0).length) (hz : ∀ k, k ∉ wrS → z.getD k 0 = (B 0).getD k 0) : FRR B0 (up B 0 z) := by
  obtain ⟨h1, h2, h3, h4⟩ := h
  refine ⟨fun c => by rw [up_len hl, h1], fun c c0 c1 => by rw [up_ne _ _ c0]; exact h2 c c0 c1, fun k hk => by rw [up_same, hz k hk]; exact h3 k hk, fun c i c0 c1 c2 => by rw [up_ne _ _ (by omega)]; exact h4 c i c0 c1 c2⟩
theorem FRR_s {B0 B : Bk} {k : Nat} {v : Int32} (h : FRR B0 B) (hk : k ∈ wrS) : FRR B0 (up B 0 ((B 0).set k v)) := FRR_0 h List.length_set (fun i hi => gd_set_ne (fun q => hi (by rw [← q]; exact hk)))
theorem FRR_c {B0 B : Bk} {c i : Nat} {v : Int32} (h : FRR B0 B) (hc : 10 ≤ c ∧ c ≤ 19) (hi : mnN c ≤ i) : FRR B0 (up B c ((B c).set i v)) := by
  obtain ⟨h1, h2, h3, h4⟩ := h
  refine ⟨fun j => by rw [up_len List.length_set, h1], fun j c0 c1 => by rw [up_ne _ _ (by omega)]; exact h2 j c0 c1, fun k hk => by rw [up_ne _ _ (by omega)]; exact h3 k hk, fun j k c0 c1 c2 => ?_⟩
  by_cases e : j = c
  · subst e
    rw [up_same, gd_set_ne (by omega)]; exact h4 j k c0 c1 c2
  · rw [up_ne _ _ e]; exact h4 j k c0 c1 c2
/-- the token that the reference has read -/
def TR (B : Bk) (t : Tok) : Prop := (B 0).getD 14 0 = nI t.2.2.2 ∧ (B 0).getD 15 0 = nI t.2.2.1 ∧ (B 0).getD 16 0 = nI t.1 ∧ (t.1 = 2 → (B 0).getD 17 0 = nI (rhoW t.2.1)) ∧ (t.1 = 3 → (B 0).getD 17 0 = nI t.2.1) ∧ (t.1 = 4 → (B 0).getD 17 0 = nI t.2.1)
def BSE (B0 : Bk) (ts : Nat → Nat) (n : Nat) : Prop := (B0 0).length = 68 ∧ B0 8 = sb_X11_init 8 ∧ BY (B0 7) ts n ∧ (B0 0).getD 13 0 = nI n
theorem TR_congr {B B' : Bk} {t : Tok} (h : TR B t) (e : ∀ k, k ∈ [14, 15, 16, 17] → (B' 0).getD k 0 = (B 0).getD k 0) : TR B' t := by
  unfold TR at *
  rw [e 14 (by decide), e 15 (by decide), e 16 (by decide), e 17 (by decide)]; exact h
theorem FRR_len {B0 B : Bk} {ts : Nat → Nat} {n : Nat} (hb : BSE B0 ts n) (h : FRR B0 B) : (B 0).length = 68 := by rw [h.1 0]; exact hb.1
set_option maxHeartbeats 400000 in
theorem p_reads {B0 B : Bk} {ts : Nat → Nat} {n : Nat} {t : Tok} (hb : BSE B0 ts n) (hx : TXT ts n) (ht : TK ts n t) (h : FRR B0 B) (g : TR B t) : ∃ B', gX11_reads B = some (0, B') ∧ FRR B0 B' ∧ TR B' (nxT ts n t) ∧ (∀ c, c ≠ 0 → B' c = B c) ∧ ∀ k, k ∉ [14, 15, 16, 17] → (B' 0).getD k 0 = (B 0).getD k 0 := by
  obtain ⟨b1, b2, b3, b4⟩ := hb
  obtain ⟨t1, t2, -⟩ := TK_ok hx ht
  obtain ⟨z, g1, o1, o2, o3, o4, o5, o6, o7, o8⟩ := p_reads0 (B := B) (ts := ts) (n := n) (p := t.2.2.2) (by rw [h.1 0]; exact b1) (by rw [h.2.1 8 (by decide) (by decide)]; exact b2) (by rw [h.2.1 7 (by decide) (by decide)]; exact b3) (by rw [h.2.2.1 13 (by decide)]; exact b4) g.1 t2
  refine ⟨_, g1, FRR_0 h (by rw [o1, h.1 0, b1]) (fun k hk => o2 k (fun q => hk ((show ∀ k, k ∈ [14, 15, 16, 17] → k ∈ wrS by decide) k q))), ?_, fun c hc => up_ne _ _ hc, fun k hk => by rw [up_same]; exact o2 k hk⟩
  unfold TR
  rw [up_same]
  exact ⟨o3, o4, o5, o6, o7, o8⟩
set_option maxHeartbeats 400000 in
theorem p_isWord {B0 B : Bk} {ts : Nat → Nat} {n i : Nat} {t : Tok} (hb : BSE B0 ts n) (hx : TXT ts n) (ht : TK ts n t) (h : FRR B0 B) (g : TR B t) (hi : i < 22) : gX11_isWord (nI (rhoW i)) B = some (b2i (t.1 = 2 ∧ t.2.1 = i), B) := by
  obtain ⟨g1, g2, g3, g4, g5, g6⟩ := g
  have hl := FRR_len hb h
  obtain ⟨-, -, h3, -, -, h6, -⟩ := TK_ok hx ht
  unfold gX11_isWord
  simp only [jn_eq]
  rw [bd_ld _ (by omega), g3]
  by_cases c : t.1 = 2
  · have hv := h6 c
    have r1 := (rho_t _ hv).1
    have r2 := (rho_t _ hi).1
    rw [if_pos (show nI t.1 = 2 by rw [c]; rfl), bd_ld _ (by omega), g4 c]
    by_cases d : t.2.1 = i
    · rw [if_pos (by rw [d]), b2i_t ⟨c, d⟩]; rfl
    · rw [if_neg (fun q => d (rho_inj _ hv _ hi ((nI_eq (by omega) (by omega)).mp q))), b2i_f (fun q => d q.2)]; rfl
  · rw [if_neg (show ¬ nI t.1 = 2 from fun q => c ((nI_eq (b := 2) (by omega) (by omega)).mp q)), b2i_f (fun q => c q.1)]; rfl
set_option maxHeartbeats 400000 in
theorem p_isSign {B0 B : Bk} {ts : Nat → Nat} {n s : Nat} {t : Tok} (hb : BSE B0 ts n) (hx : TXT ts n) (ht : TK ts n t) (h : FRR B0 B) (g : TR B t) (hs : s < 256) : gX11_isSign (nI s) B = some (b2i (t.1 = 4 ∧ t.2.1 = s), B) := by
  obtain ⟨g1, g2, g3, g4, g5, g6⟩ := g
  have hl := FRR_len hb h
  obtain ⟨-, -, h3, -, -, -, -, h8, -⟩ := TK_ok hx ht
  unfold gX11_isSign
  simp only [jn_eq]
  rw [bd_ld _ (by omega), g3]
  by_cases c : t.1 = 4
  · have hv := mk_lt (h8 c)
    rw [if_pos (show nI t.1 = 4 by rw [c]; rfl), bd_ld _ (by omega), g6 c]
    by_cases d : t.2.1 = s
    · rw [if_pos (by rw [d]), b2i_t ⟨c, d⟩]; rfl
    · rw [if_neg (fun q => d ((nI_eq (by omega) (by omega)).mp q)), b2i_f (fun q => d q.2)]; rfl
  · rw [if_neg (show ¬ nI t.1 = 4 from fun q => c ((nI_eq (b := 4) (by omega) (by omega)).mp q)), b2i_f (fun q => c q.1)]; rfl
set_option maxHeartbeats 400000 in
theorem p_errs {B0 B : Bk} {ts : Nat → Nat} {n : Nat} {t : Tok} (hb : BSE B0 ts n) (h : FRR B0 B) (g : TR B t) (f : Nat) : ∃ B', gX11_errs (nI f) B = some (-1, B') ∧ FRR B0 B' ∧ (B' 0).getD 31 0 = nI f ∧ (B' 0).getD 32 0 = nI t.2.2.1 ∧ (∀ c, c ≠ 0 → B' c = B c) ∧ ∀ k, k ∉ [31, 32] → (B' 0).getD k 0 = (B 0).getD k 0 := by
  have hl := FRR_len hb h
  have h2 := FRR_s (k := 31) (v := nI f) h (by decide)
  have h3 := FRR_s (k := 32) (v := nI t.2.2.1) h2 (by decide)
  refine ⟨_, ?_, h3, ?_, ?_, fun c hc => by rw [up_ne _ _ hc, up_ne _ _ hc], fun k hk => ?_⟩
  · unfold gX11_errs
    rw [bd_sv _ (by omega), bd_ld _ (by rw [up_same, List.length_set]; omega), up_same, gd_set_ne (by decide), g.2.1, bd_sv _ (by rw [up_same, List.length_set]; omega), up_same]; rfl
  · rw [up_same, gd_set_ne (by decide), up_same, gd_set_same (by omega)]
  · rw [up_same, gd_set_same (by rw [up_same, List.length_set]; omega)]
  · have k1 : k ≠ 31 := by rintro rfl; exact hk (by decide)
    have k2 : k ≠ 32 := by rintro rfl; exact hk (by decide)
    rw [up_same, gd_set_ne (fun q => k2 q.symm), up_same, gd_set_ne (fun q => k1 q.symm)]
/-- the class's tape, in some place of its own -/
def o00 : List Int32 := [0, 0, 0, 0, 0, 0, 0, -1]
abbrev CT (o : List Int32) (n : Nat) (t : Tok) : Prop := OC o00 o n t
set_option maxHeartbeats 400000 in
theorem c_next {U : Bk} {ρ : Nat → Nat} {a b : Nat} {ts : Nat → Nat} {n : Nat} {t : Tok} (hx : TXT ts n) (ht : TK ts n t) (inj : ∀ i j, i < 2 → j < 2 → ρ i = ρ j → i = j) (ha : ρ 0 = a) (hb : ρ 1 = b) (hy : BY (U b) ts n) (h : CT (U a) n t) : ∃ o, CT o n (nxT ts n t) ∧ ∀ {β : Type} (K : Int32 → MM β), bd (lf ρ 2 gX7_next) K U = K 0 (up U a o) := by
  obtain ⟨h1, h2, ⟨h3, h4⟩, h5, h6, h7, h8⟩ := h
  obtain ⟨t1, t2, -⟩ := TK_ok hx ht
  obtain ⟨o, g1, g2, g3, ⟨g4, g4'⟩, g5⟩ := p_next0 (T := fun i => U (ρ i)) (ts := ts) (n := n) (p := t.2.2.2) (by show (U (ρ 0)).length = 8; rw [ha]; exact h1) (by show BY (U (ρ 1)) ts n; rw [hb]; exact hy) (by show (U (ρ 0)).getD 0 0 = nI n; rw [ha]; exact h2) (by show (U (ρ 0)).getD 5 0 = _; rw [ha]; exact h8) t2
  refine ⟨o, ⟨g2, g3, ⟨?_, ?_⟩, g5⟩, fun K => ?_⟩
  · rw [g4]; show (U (ρ 0)).getD 6 0 = _; rw [ha]; exact h3
  · rw [g4']; show (U (ρ 0)).getD 7 0 = _; rw [ha]; exact h4
  · rw [bd_lf _ g1, pu1 inj (by decide), ha]
/-- the class's tape with a fault told -/
def CF8 (o : List Int32) (f st : Nat) : Prop := o.length = 8 ∧ o.getD 6 0 = nI f ∧ o.getD 7 0 = nI st
set_option maxHeartbeats 400000 in
theorem p_refuse {T : Bk} {st : Nat} (l0 : (T 0).length = 8) (l4 : (T 0).getD 4 0 = nI st) (f : Int32) : gX7_refuse f T = some (0, up T 0 (((T 0).set 6 f).set 7 (nI st))) := by
  unfold gX7_refuse
  rw [bd_sv _ (by omega), bd_ld _ (by rw [up_same, List.length_set]; omega), up_same, gd_set_ne (by decide), l4, bd_sv _ (by rw [up_same, List.length_set]; omega), up_same, up_up]
  rfl
set_option maxHeartbeats 400000 in
theorem c_refuse {U : Bk} {ρ : Nat → Nat} {a : Nat} {n : Nat} {t : Tok} (inj : ∀ i j, i < 2 → j < 2 → ρ i = ρ j → i = j) (ha : ρ 0 = a) (h : CT (U a) n t) (f : Nat) : ∃ o, CF8 o f t.2.2.1 ∧ ∀ {β : Type} (K : Int32 → MM β), bd (lf ρ 2 (gX7_refuse (nI f))) K U = K 0 (up U a o) := by
  obtain ⟨h1, h2, h3, h5, h6, h7, h8⟩ := h
  have e : gX7_refuse (nI f) (fun i => U (ρ i)) = some (0, up (fun i => U (ρ i)) 0 (((U a).set 6 (nI f)).set 7 (nI t.2.2.1))) := by
    have l0 : (U (ρ 0)).length = 8 := by rw [ha]; exact h1
    have l4 : ((fun i => U (ρ i)) 0).getD 4 0 = nI t.2.2.1 := by show (U (ρ 0)).getD 4 0 = _; rw [ha]; exact h7
    have := p_refuse (T := fun i => U (ρ i)) l0 l4 (nI f)
    rw [this]
    show some ((0 : Int32), up (fun i => U (ρ i)) 0 (((U (ρ 0)).set 6 (nI f)).set 7 (nI t.2.2.1))) = _
    rw [ha]
  refine ⟨((U a).set 6 (nI f)).set 7 (nI t.2.2.1), ⟨by rw [List.length_set, List.length_set, h1], by rw [gd_set_ne (by decide), gd_set_same (by omega)], gd_set_same (by rw [List.length_set]; omega)⟩, fun K => ?_⟩
  rw [bd_lf _ e, pu1 inj (by decide), ha]
/-- what a wrong token is told as where a number is wanted -/
def nfF (t : Tok) : Nat := if t.1 = 3 then 2 else 1
theorem le_pred {v c : Nat} (hv : v < 20000) (hc : c < 20000) : ((0 : Int32) ≤ nI v ∧ nI v ≤ nI c - 1) ↔ v < c := by
  have h0 : (0 : Int32) ≤ nI v := nI_pos' (by omega)
  cases c with
  | zero =>
    constructor
    · rintro ⟨-, h⟩
      rw [Int32.le_iff_toInt_le, nI_toInt (by omega), show (nI 0 - 1 : Int32).toInt = -1 by decide] at h
      omega
    · intro h; omega
  | succ c =>
    rw [show (nI (c + 1) - 1 : Int32) = nI c from nI_pred2 c, nI_leI (by omega) (by omega)]
    constructor
    · rintro ⟨-, h⟩; omega
    · intro h; exact ⟨h0, by omega⟩
set_option maxHeartbeats 400000 in
theorem c_isNumber {U : Bk} {ρ : Nat → Nat} {a : Nat} {ts : Nat → Nat} {n : Nat} {t : Tok} (hx : TXT ts n) (ht : TK ts n t) (inj : ∀ i j, i < 2 → j < 2 → ρ i = ρ j → i = j) (ha : ρ 0 = a) (h : CT (U a) n t) (lo hi : Int32) {β : Type} (K : Int32 → MM β) :
    (t.1 = 3 ∧ (lo ≤ nI t.2.1 ∧ nI t.2.1 ≤ hi) → bd (lf ρ 2 (gX7_isNumber lo hi)) K U = K 1 U) := by
  rintro ⟨hk, hr⟩
  obtain ⟨h1, h2, h3, h5, h6, h7, h8⟩ := h
  have l0 : (U (ρ 0)).length = 8 := by rw [ha]; exact h1
  have e2 : ((fun i => U (ρ i)) 0).getD 2 0 = nI 257 := by show (U (ρ 0)).getD 2 0 = _; rw [ha, h5, (ctk_num hx ht).mpr hk]
  have e3 : ((fun i => U (ρ i)) 0).getD 3 0 = nI t.2.1 := by show (U (ρ 0)).getD 3 0 = _; rw [ha]; exact h6 hk
  have e : gX7_isNumber lo hi (fun i => U (ρ i)) = some (1, fun i => U (ρ i)) := by
    unfold gX7_isNumber
    simp only [jn_eq]
    rw [bd_ld _ (by omega), e2, if_pos (show nI 257 = (257 : Int32) from rfl), bd_ld _ (by omega), e3, bd_iw, b2i_t hr, if_neg (by decide)]; rfl
  exact bd_lf0 K e
set_option maxHeartbeats 400000 in
theorem c_isNumber' {U : Bk} {ρ : Nat → Nat} {a : Nat} {ts : Nat → Nat} {n : Nat} {t : Tok} (hx : TXT ts n) (ht : TK ts n t) (inj : ∀ i j, i < 2 → j < 2 → ρ i = ρ j → i = j) (ha : ρ 0 = a) (h : CT (U a) n t) (lo hi : Int32) (hno : ¬ (t.1 = 3 ∧ (lo ≤ nI t.2.1 ∧ nI t.2.1 ≤ hi))) : ∃ o, CF8 o (nfF t) t.2.2.1 ∧ ∀ {β : Type} (K : Int32 → MM β), bd (lf ρ 2 (gX7_isNumber lo hi)) K U = K 0 (up U a o) := by
  have hh := h
  obtain ⟨h1, h2, h3, h5, h6, h7, h8⟩ := h
  have hlt := ctk_lt hx ht
  have l0 : (U (ρ 0)).length = 8 := by rw [ha]; exact h1
  have e2 : ((fun i => U (ρ i)) 0).getD 2 0 = nI (ctk t) := by show (U (ρ 0)).getD 2 0 = _; rw [ha]; exact h5
  have hT : CT ((fun i => U (ρ i)) 0) n t := by show CT (U (ρ 0)) n t; rw [ha]; exact hh
  by_cases c : t.1 = 3
  · have e3 : ((fun i => U (ρ i)) 0).getD 3 0 = nI t.2.1 := by show (U (ρ 0)).getD 3 0 = _; rw [ha]; exact h6 c
    have hr : ¬ (lo ≤ nI t.2.1 ∧ nI t.2.1 ≤ hi) := fun q => hno ⟨c, q⟩
    have e : gX7_isNumber lo hi (fun i => U (ρ i)) = some (0, up (fun i => U (ρ i)) 0 (((U a).set 6 (nI 2)).set 7 (nI t.2.2.1))) := by
      have l4 : ((fun i => U (ρ i)) 0).getD 4 0 = nI t.2.2.1 := by show (U (ρ 0)).getD 4 0 = _; rw [ha]; exact h7
      have gr := p_refuse (T := fun i => U (ρ i)) l0 l4 2
      unfold gX7_isNumber
      simp only [jn_eq]
      rw [bd_ld _ (by omega), e2, (ctk_num hx ht).mpr c, if_pos (show nI 257 = (257 : Int32) from rfl), bd_ld _ (by omega), e3, bd_iw, b2i_f hr, if_pos (by decide), bd_some gr]
      show some ((0 : Int32), up (fun i => U (ρ i)) 0 (((U (ρ 0)).set 6 (2 : Int32)).set 7 (nI t.2.2.1))) = _
      rw [ha]; rfl
    refine ⟨((U a).set 6 (nI 2)).set 7 (nI t.2.2.1), ⟨by rw [List.length_set, List.length_set, h1], by rw [gd_set_ne (by decide), gd_set_same (by omega)]; unfold nfF; rw [if_pos c], gd_set_same (by rw [List.length_set]; omega)⟩, fun K => ?_⟩
    rw [bd_lf _ e, pu1 inj (by decide), ha]
  · have e : gX7_isNumber lo hi (fun i => U (ρ i)) = some (0, up (fun i => U (ρ i)) 0 (((U a).set 6 (nI 1)).set 7 (nI t.2.2.1))) := by
      have l4 : ((fun i => U (ρ i)) 0).getD 4 0 = nI t.2.2.1 := by show (U (ρ 0)).getD 4 0 = _; rw [ha]; exact h7
      have gr := p_refuse (T := fun i => U (ρ i)) l0 l4 1
      unfold gX7_isNumber
      simp only [jn_eq]
      rw [bd_ld _ (by omega), e2, if_neg (show ¬ nI (ctk t) = (257 : Int32) from fun q => c ((ctk_num hx ht).mp ((nI_eq (b := 257) (by omega) (by omega)).mp q))), bd_some gr]
      show some ((0 : Int32), up (fun i => U (ρ i)) 0 (((U (ρ 0)).set 6 (1 : Int32)).set 7 (nI t.2.2.1))) = _
      rw [ha]; rfl
    refine ⟨((U a).set 6 (nI 1)).set 7 (nI t.2.2.1), ⟨by rw [List.length_set, List.length_set, h1], by rw [gd_set_ne (by decide), gd_set_same (by omega)]; unfold nfF; rw [if_neg c], gd_set_same (by rw [List.length_set]; omega)⟩, fun K => ?_⟩
    rw [bd_lf _ e, pu1 inj (by decide), ha]
set_option maxHeartbeats 400000 in
theorem c_take {U : Bk} {ρ : Nat → Nat} {a b : Nat} {ts : Nat → Nat} {n w : Nat} {t : Tok} (hx : TXT ts n) (ht : TK ts n t) (inj : ∀ i j, i < 2 → j < 2 → ρ i = ρ j → i = j) (ha : ρ 0 = a) (hb : ρ 1 = b) (hy : BY (U b) ts n) (h : CT (U a) n t) (hw : ctk t = w) : ∃ o, CT o n (nxT ts n t) ∧ ∀ {β : Type} (K : Int32 → MM β), bd (lf ρ 2 (gX7_take (nI w))) K U = K 1 (up U a o) := by
  have hh := h
  obtain ⟨h1, h2, ⟨h3, h4⟩, h5, h6, h7, h8⟩ := h
  obtain ⟨t1, t2, -⟩ := TK_ok hx ht
  obtain ⟨o, g1, g2, g3, ⟨g4, g4'⟩, g5⟩ := p_next0 (T := fun i => U (ρ i)) (ts := ts) (n := n) (p := t.2.2.2) (by show (U (ρ 0)).length = 8; rw [ha]; exact h1) (by show BY (U (ρ 1)) ts n; rw [hb]; exact hy) (by show (U (ρ 0)).getD 0 0 = nI n; rw [ha]; exact h2) (by show (U (ρ 0)).getD 5 0 = _; rw [ha]; exact h8) t2
  have l0 : (U (ρ 0)).length = 8 := by rw [ha]; exact h1
  have e2 : ((fun i => U (ρ i)) 0).getD 2 0 = nI w := by show (U (ρ 0)).getD 2 0 = _; rw [ha, h5, hw]
  have e : gX7_take (nI w) (fun i => U (ρ i)) = some (1, up (fun i => U (ρ i)) 0 o) := by
    unfold gX7_take
    rw [bd_ld _ (by omega), e2, if_pos rfl, bd_some g1]; rfl
  refine ⟨o, ⟨g2, g3, ⟨?_, ?_⟩, g5⟩, fun K => ?_⟩
  · rw [g4]; show (U (ρ 0)).getD 6 0 = _; rw [ha]; exact h3
  · rw [g4']; show (U (ρ 0)).getD 7 0 = _; rw [ha]; exact h4
  · rw [bd_lf _ e, pu1 inj (by decide), ha]
set_option maxHeartbeats 400000 in
theorem c_take' {U : Bk} {ρ : Nat → Nat} {a : Nat} {ts : Nat → Nat} {n w : Nat} {t : Tok} (hx : TXT ts n) (ht : TK ts n t) (inj : ∀ i j, i < 2 → j < 2 → ρ i = ρ j → i = j) (ha : ρ 0 = a) (h : CT (U a) n t) (hw : ctk t ≠ w) (hw2 : w < 400) : ∃ o, CF8 o 1 t.2.2.1 ∧ ∀ {β : Type} (K : Int32 → MM β), bd (lf ρ 2 (gX7_take (nI w))) K U = K 0 (up U a o) := by
  have hlt := ctk_lt hx ht
  obtain ⟨h1, h2, h3, h5, h6, h7, h8⟩ := h
  have e : gX7_take (nI w) (fun i => U (ρ i)) = some (0, up (fun i => U (ρ i)) 0 (((U a).set 6 (nI 1)).set 7 (nI t.2.2.1))) := by
    have l0 : (U (ρ 0)).length = 8 := by rw [ha]; exact h1
    have e2 : ((fun i => U (ρ i)) 0).getD 2 0 = nI (ctk t) := by show (U (ρ 0)).getD 2 0 = _; rw [ha]; exact h5
    have l4 : ((fun i => U (ρ i)) 0).getD 4 0 = nI t.2.2.1 := by show (U (ρ 0)).getD 4 0 = _; rw [ha]; exact h7
    have gr := p_refuse (T := fun i => U (ρ i)) l0 l4 1
    unfold gX7_take
    rw [bd_ld _ (by omega), e2, if_neg (fun q => hw ((nI_eq (by omega) (by omega)).mp q)), bd_some gr]
    show some ((0 : Int32), up (fun i => U (ρ i)) 0 (((U (ρ 0)).set 6 (1 : Int32)).set 7 (nI t.2.2.1))) = _
    rw [ha]; rfl
  refine ⟨((U a).set 6 (nI 1)).set 7 (nI t.2.2.1), ⟨by rw [List.length_set, List.length_set, h1], by rw [gd_set_ne (by decide), gd_set_same (by omega)], gd_set_same (by rw [List.length_set]; omega)⟩, fun K => ?_⟩
  rw [bd_lf _ e, pu1 inj (by decide), ha]
