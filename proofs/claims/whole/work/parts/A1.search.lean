/-! PURE: turnings, the reference searches -/
def fB4B (s9 : Int32 × Int32) (self8 : (Int32 × Int32) → MM Int32) : (Int32 × Int32 → MM Int32) → Int32 × Int32 → MM Int32 := fun (self14 : Int32 × Int32 → MM Int32) (s15 : Int32 × Int32) =>
  bd (ld 0 46) fun v16 =>
  (if v16 < s15.2 then
  lt (s9.2 + 1) fun y17 =>
  self8 (s15.1, y17)
  else
  bd (la 26 s9.2) fun v18 =>
  bd (gX11_takesNumber v18) fun r19 =>
  bd (gX11_turnsFirst s15.2) fun r20 =>
  bd gX11_numberOfOrder fun r21 =>
  bd (la 25 r21) fun v22 =>
  jn (fun (a24 : Int32) =>
  lt (s15.2 + 1) fun y25 =>
  self14 (a24, y25)) (fun j23 =>
  (if v22 = ((-1)) then
  bd (la 26 s9.2) fun v26 =>
  bd (la 25 v26) fun v27 =>
  bd (sa 25 r21 (v27 + 1)) fun _ =>
  bd (sa 26 s15.1 r21) fun _ =>
  lt (s15.1 + 1) fun y28 =>
  j23 y28
  else
  j23 s15.1)))
def fB4 (s9 : Int32 × Int32) (self8 : (Int32 × Int32) → MM Int32) : MM Int32 := loopC 100000 (fB4B s9 self8) (s9.1, 2)
def fB3B : (Int32 × Int32 → MM Int32) → Int32 × Int32 → MM Int32 := fun (self8 : Int32 × Int32 → MM Int32) (s9 : Int32 × Int32) =>
  jn (fun (a11 : Unit) =>
  bd (la 25 0) fun v12 =>
  pr v12) (fun j10 =>
  (if s9.1 ≤ s9.2 then
  j10 ()
  else
  bd (la 25 0) fun v13 =>
  (if v13 = ((-1)) then
  (fB4 s9 self8)
  else
  j10 ())))
def fB3 : MM Int32 := loopC 100000 (fB3B) (1, 0)
def fB2B (s2 : Int32 × Int32) : (Int32 → MM Int32) → Int32 → MM Int32 := fun (self4 : Int32 → MM Int32) (s5 : Int32) =>
  (if s2.1 ≤ s5 then
  bd gX11_numberOfOrder fun r6 =>
  bd (sa 26 0 r6) fun _ =>
  bd (la 26 0) fun v7 =>
  bd (sa 25 v7 0) fun _ =>
  (fB3)
  else
  bd (sa 25 s5 ((-1))) fun _ =>
  lt (s5 + 1) fun y29 =>
  self4 y29)
def fB2 (s2 : Int32 × Int32) : MM Int32 := loopC 100000 (fB2B s2) 0
def fB1B : (Int32 × Int32 → MM Int32) → Int32 × Int32 → MM Int32 := fun (self1 : Int32 × Int32 → MM Int32) (s2 : Int32 × Int32) =>
  bd (ld 0 46) fun v3 =>
  (if v3 < s2.2 then
  (fB2 s2)
  else
  lt (s2.1 * s2.2) fun y30 =>
  lt (s2.2 + 1) fun y31 =>
  self1 (y30, y31))
def fB1 : MM Int32 := loopC 100000 (fB1B) (1, 2)
theorem fB_eq : gX11_fewestTurnings =
  (fB1) := rfl
def W3 (B : Bk) (a b c : List Int32) : Bk := fun j => if j = 24 then a else if j = 25 then b else if j = 26 then c else B j
theorem W3_self (B : Bk) : W3 B (B 24) (B 25) (B 26) = B := by
  funext j
  unfold W3
  by_cases h1 : j = 24
  · rw [if_pos h1, h1]
  · rw [if_neg h1]
    by_cases h2 : j = 25
    · rw [if_pos h2, h2]
    · rw [if_neg h2]
      by_cases h3 : j = 26
      · rw [if_pos h3, h3]
      · rw [if_neg h3]
theorem W3_24 (B : Bk) (a b c l : List Int32) : up (W3 B a b c) 24 l = W3 B l b c := by
  funext j
  unfold up W3
  by_cases h1 : j = 24
  · rw [if_pos h1, if_pos h1]
  · rw [if_neg h1, if_neg h1, if_neg h1]
theorem W3_25 (B : Bk) (a b c l : List Int32) : up (W3 B a b c) 25 l = W3 B a l c := by
  funext j
  unfold up W3
  by_cases h1 : j = 25
  · rw [if_pos h1, if_neg (by omega), if_pos h1]
  · rw [if_neg h1]
    by_cases h2 : j = 24
    · rw [if_pos h2, if_pos h2]
    · rw [if_neg h2, if_neg h2, if_neg h1, if_neg h1]
theorem W3_26 (B : Bk) (a b c l : List Int32) : up (W3 B a b c) 26 l = W3 B a b l := by
  funext j
  unfold up W3
  by_cases h1 : j = 26
  · rw [if_pos h1, if_neg (by omega), if_neg (by omega), if_pos h1]
  · rw [if_neg h1]
    by_cases h2 : j = 24
    · rw [if_pos h2, if_pos h2]
    · rw [if_neg h2, if_neg h2]
      by_cases h3 : j = 25
      · rw [if_pos h3, if_pos h3]
      · rw [if_neg h3, if_neg h3, if_neg h1, if_neg h1]
theorem cnt_upd {p p' : Nat → Bool} {v : Nat} (h1 : p v = false) (h2 : p' v = true) (h3 : ∀ i, i ≠ v → p' i = p i) : ∀ {n : Nat}, v < n → cntN p' n = cntN p n + 1
  | 0, h => absurd h (Nat.not_lt_zero v)
  | n + 1, h => by
    show (if p' n = true then cntN p' n + 1 else cntN p' n) = (if p n = true then cntN p n + 1 else cntN p n) + 1
    by_cases e : v = n
    · subst e
      rw [h2, h1, if_pos rfl, if_neg (by decide), cnt_congr (fun i hi => h3 i (by omega))]
    · rw [h3 n (fun q => e q.symm), cnt_upd h1 h2 h3 (show v < n by omega)]
      by_cases c : p n = true
      · rw [if_pos c, if_pos c]
      · rw [if_neg c, if_neg c]
theorem cnt_room {p : Nat → Bool} {v n : Nat} (h1 : p v = false) (h : v < n) : cntN p n < n := by
  have := cnt_upd (p := p) (p' := fun i => if i = v then true else p i) h1 (if_pos rfl) (fun i hi => if_neg hi) h
  have h2 := cntN_le (fun i => if i = v then true else p i) n
  omega
def lbl (b : List Int32) (v : Nat) : Bool := decide (¬ b.getD v 0 = -1)
/-- what is known while the orders are searched through: M are in the queue (q), d of each how many turnings; all that lie ahead of the i-th have been turned -/
def BI (n : Nat) (s : List Nat) (i M : Nat) (q : Nat → List Nat) (d : Nat → Nat) (b c : List Int32) : Prop :=
  (b.length = 5040 ∧ c.length = 5040 ∧ cntN (lbl b) (fct n) = M ∧ 0 < M) ∧
  (∀ j, j < M → Pm n (q j) ∧ c.getD j 0 = nI (rk (q j) 0) ∧ b.getD (rk (q j) 0) 0 = nI (d j) ∧ d j ≤ j ∧ ∀ m, Rch n m (q j) → Rch n (m + d j) s) ∧
  (∀ v, v < fct n → b.getD v 0 = -1 ∨ ∃ j, j < M ∧ v = rk (q j) 0) ∧
  (∀ j k, j ≤ k → k < M → d j ≤ d k) ∧
  (q 0 = s ∧ d 0 = 0) ∧
  (∀ j, j < i → ∀ f, 2 ≤ f → f ≤ n → ∃ e, e < M ∧ q e = flp f (q j) ∧ d e ≤ d j + 1)
def BO (n i M : Nat) (q : Nat → List Nat) (d : Nat → Nat) : Prop :=
  (i < M → ∀ j, j < M → d j ≤ d i + 1) ∧ (∀ e, e < M → q e = List.range n → d e = 0 ∨ (0 < i ∧ d e ≤ d (i - 1) + 1)) ∧ i ≤ M
def BF (n i f M : Nat) (q : Nat → List Nat) (d : Nat → Nat) : Prop :=
  (∀ j, j < M → d j ≤ d i + 1) ∧ i < M ∧ ∀ g, 2 ≤ g → g < f → g ≤ n → ∃ e, e < M ∧ q e = flp g (q i) ∧ d e ≤ d i + 1
theorem fct_7 : ∀ n, n < 8 → fct n ≤ 5040 ∧ 0 < fct n := by decide
theorem BI_M {n : Nat} {s : List Nat} {i M : Nat} {q : Nat → List Nat} {d : Nat → Nat} {b c : List Int32} (h : BI n s i M q d b c) (n7 : n < 8) : M ≤ 5040 := by
  obtain ⟨⟨_, _, h3, _⟩, -⟩ := h
  have h1 := cntN_le (lbl b) (fct n)
  have h2 := (fct_7 n n7).1
  omega
set_option maxHeartbeats 400000 in
theorem BI_put {n : Nat} {s : List Nat} {i f M : Nat} {q : Nat → List Nat} {d : Nat → Nat} {b c : List Int32} (n7 : n < 8) (h : BI n s i M q d b c) (g : BF n i f M q d) (h2 : 2 ≤ f) (hf : f ≤ n) (hnew : b.getD (rk (flp f (q i)) 0) 0 = -1) :
    M < 5040 ∧ BI n s i (M + 1) (fun j => if j = M then flp f (q i) else q j) (fun j => if j = M then d i + 1 else d j) (b.set (rk (flp f (q i)) 0) (nI (d i) + 1)) (c.set M (nI (rk (flp f (q i)) 0))) ∧ BF n i (f + 1) (M + 1) (fun j => if j = M then flp f (q i) else q j) (fun j => if j = M then d i + 1 else d j) := by
  have hM := BI_M h n7
  obtain ⟨⟨a1, a2, a3, a4⟩, a5, a6, a7, ⟨a8, a9⟩, a10⟩ := h
  obtain ⟨g1, g2, g3⟩ := g
  have hi := a5 i g2
  have hy : Pm n (flp f (q i)) := flp_P hi.1
  have hyN := rk_P hy
  have h50 := (fct_7 n n7).1
  obtain ⟨v, hv⟩ : ∃ v, rk (flp f (q i)) 0 = v := ⟨_, rfl⟩
  rw [hv] at hnew hyN ⊢
  have hroom : M < fct n := by
    rw [← a3]
    exact cnt_room (v := v) (by unfold lbl; rw [hnew]; rfl) hyN
  have hne : ∀ j, j < M → rk (q j) 0 ≠ v := fun j hj e => by
    have := (a5 j hj).2.2.1
    rw [e, hnew] at this
    have hd := (a5 j hj).2.2.2.1
    exact (e_nm1 (j := d j) (by omega)).mp this.symm
  have hdi : nI (d i) + 1 = nI (d i + 1) := nI_1 _
  have hdm := hi.2.2.2.1
  have Mj : ∀ j, j < M → ¬ j = M := fun j hj => by omega
  refine ⟨by omega, ⟨⟨by rw [List.length_set, a1], by rw [List.length_set, a2], ?_, by omega⟩, fun j hj => ?_, fun w hw => ?_, fun j k hjk hk => ?_, ⟨?_, ?_⟩, fun j hj f' p1 p2 => ?_⟩, fun j hj => ?_, by omega, fun g' p1 p2 p3 => ?_⟩
  · rw [← a3]
    refine cnt_upd (v := v) (by unfold lbl; rw [hnew]; rfl) ?_ (fun w hw => ?_) hyN
    · unfold lbl
      rw [gd_set_same (by omega), hdi, decide_eq_true_eq]
      exact fun q => (e_nm1 (j := d i + 1) (by omega)).mp q
    · unfold lbl
      rw [gd_set_ne (fun q => hw q.symm)]
  · by_cases e : j = M
    · subst e
      simp only [if_true]
      refine ⟨hy, by rw [gd_set_same (by omega), hv], by rw [hv, gd_set_same (by omega), hdi], by omega, fun m hm => ?_⟩
      have := hi.2.2.2.2 (m + 1) ⟨f, h2, hf, hm⟩
      rwa [show m + (d i + 1) = m + 1 + d i by omega]
    · have hj2 : j < M := by omega
      obtain ⟨c1, c2, c3, c4, c5⟩ := a5 j hj2
      simp only [if_neg e]
      exact ⟨c1, by rw [gd_set_ne (fun q => e q.symm)]; exact c2, by rw [gd_set_ne (fun q => hne j hj2 q.symm)]; exact c3, c4, c5⟩
  · by_cases e : w = v
    · exact Or.inr ⟨M, by omega, by simp only [if_true]; rw [hv]; exact e⟩
    · rw [gd_set_ne (fun q => e q.symm)]
      rcases a6 w hw with c1 | ⟨j, c1, c2⟩
      · exact Or.inl c1
      · exact Or.inr ⟨j, by omega, by simp only [if_neg (Mj j c1)]; exact c2⟩
  · by_cases e : k = M
    · subst e
      simp only [if_true]
      by_cases e2 : j = k
      · simp only [if_pos e2]; exact Nat.le_refl _
      · simp only [if_neg e2]; exact g1 j (by omega)
    · have e2 : ¬ j = M := by omega
      simp only [if_neg e, if_neg e2]
      exact a7 j k hjk (by omega)
  · simp only [if_neg (show ¬ 0 = M by omega)]; exact a8
  · simp only [if_neg (show ¬ 0 = M by omega)]; exact a9
  · obtain ⟨e, p3, p4, p5⟩ := a10 j hj f' p1 p2
    refine ⟨e, by omega, ?_, ?_⟩
    · simp only [if_neg (Mj e p3), if_neg (show ¬ j = M by omega)]; exact p4
    · simp only [if_neg (Mj e p3), if_neg (show ¬ j = M by omega)]; exact p5
  · simp only [if_neg (show ¬ i = M by omega)]
    by_cases e : j = M
    · simp only [if_pos e]; exact Nat.le_refl _
    · simp only [if_neg e]; exact g1 j (by omega)
  · simp only [if_neg (show ¬ i = M by omega)]
    by_cases e : g' = f
    · exact ⟨M, by omega, by simp only [if_true]; rw [e], by simp only [if_true]; exact Nat.le_refl _⟩
    · obtain ⟨e', p4, p5, p6⟩ := g3 g' p1 (by omega) p3
      exact ⟨e', by omega, by simp only [if_neg (Mj e' p4)]; exact p5, by simp only [if_neg (Mj e' p4)]; exact p6⟩
/-- one that is known already -/
theorem BF_old {n : Nat} {s : List Nat} {i f M : Nat} {q : Nat → List Nat} {d : Nat → Nat} {b c : List Int32} (h : BI n s i M q d b c) (g : BF n i f M q d) (hold : ¬ b.getD (rk (flp f (q i)) 0) 0 = -1) : BF n i (f + 1) M q d := by
  obtain ⟨⟨a1, a2, a3, a4⟩, a5, a6, a7, ⟨a8, a9⟩, a10⟩ := h
  obtain ⟨g1, g2, g3⟩ := g
  have hi := a5 i g2
  have hy : Pm n (flp f (q i)) := flp_P hi.1
  refine ⟨g1, g2, fun g' p1 p2 p3 => ?_⟩
  by_cases e : g' = f
  · subst e
    rcases a6 _ (rk_P hy) with c1 | ⟨j, c1, c2⟩
    · exact absurd c1 hold
    · exact ⟨j, c1, (rk_inj hy (a5 j c1).1 c2).symm, g1 j c1⟩
  · exact g3 g' p1 (by omega) p3
/-- all its turnings are known -/
theorem BI_next {n : Nat} {s : List Nat} {i M : Nat} {q : Nat → List Nat} {d : Nat → Nat} {b c : List Int32} (h : BI n s i M q d b c) (g : BF n i (n + 1) M q d) : BI n s (i + 1) M q d b c ∧ BO n (i + 1) M q d := by
  obtain ⟨a0, a5, a6, a7, a8, a10⟩ := h
  obtain ⟨g1, g2, g3⟩ := g
  refine ⟨⟨a0, a5, a6, a7, a8, fun j hj f p1 p2 => ?_⟩, fun hM j hj => ?_, fun e he _ => Or.inr ⟨by omega, ?_⟩, by omega⟩
  · by_cases e : j = i
    · subst e; exact g3 f p1 (by omega) p2
    · exact a10 j (by omega) f p1 p2
  · have := g1 j hj
    have := a7 i (i + 1) (by omega) hM
    omega
  · rw [Nat.add_sub_cancel]; exact g1 e he
theorem BI_end {n : Nat} {s : List Nat} {i M : Nat} {q : Nat → List Nat} {d : Nat → Nat} {b c : List Int32} (n1 : 1 ≤ n) (n7 : n < 8) (h : BI n s i M q d b c) (o : BO n i M q d) (he : M ≤ i ∨ ¬ b.getD 0 0 = -1) : ∃ D, D < 5040 ∧ b.getD 0 0 = nI D ∧ Rch n D s ∧ ∀ m, Rch n m s → D ≤ m := by
  have hM := BI_M h n7
  obtain ⟨⟨a1, a2, a3, a4⟩, a5, a6, a7, ⟨a8, a9⟩, a10⟩ := h
  obtain ⟨o1, o2, o3⟩ := o
  have hr := (wnt_r n n7).2
  have hN := (fct_7 n n7).2
  have ex : ∃ e, e < M ∧ q e = List.range n := by
    rcases he with he | he
    · have key : ∀ m j, j < M → Rch n m (q j) → ∃ e, e < M ∧ q e = List.range n := by
        intro m
        induction m with
        | zero => intro j hj hR; exact ⟨j, hj, hR⟩
        | succ m ih =>
          intro j hj hR
          obtain ⟨f, f1, f2, f3⟩ := hR
          obtain ⟨e, e1, e2, e3⟩ := a10 j (by omega) f f1 f2
          exact ih e e1 (by rw [e2]; exact f3)
      obtain ⟨m, _, hm⟩ := tbl8 n1 n7 (a5 0 a4).1
      exact key m 0 a4 hm
    · rcases a6 0 hN with c1 | ⟨j, c1, c2⟩
      · exact absurd c1 he
      · exact ⟨j, c1, rk_inj (a5 j c1).1 (List.Perm.refl _) (by rw [← c2, hr])⟩
  obtain ⟨e, e1, e2⟩ := ex
  obtain ⟨b1, b2, b3, b4, b5⟩ := a5 e e1
  rw [e2, hr] at b3
  refine ⟨d e, by omega, b3, ?_, ?_⟩
  · have := b5 0 e2
    rwa [Nat.zero_add] at this
  · have key : ∀ m j, j < M → Rch n m (q j) → d e ≤ d j + m := by
      intro m
      induction m with
      | zero =>
        intro j hj hR
        obtain ⟨_, _, k3, k4, _⟩ := a5 j hj
        rw [show q j = List.range n from hR, hr, b3] at k3
        have := (nI_eq (a := d e) (b := d j) (by omega) (by omega)).mp k3
        omega
      | succ m ih =>
        intro j hj hR
        obtain ⟨f, f1, f2, f3⟩ := hR
        by_cases c : d e ≤ d j + (m + 1)
        · exact c
        · rcases o2 e e1 e2 with z | ⟨z1, z2⟩
          · omega
          · have hji : j < i := by
              rcases Nat.lt_or_ge j i with w | w
              · exact w
              · have := a7 (i - 1) j (by omega) hj
                omega
            obtain ⟨e', p1, p2, p3⟩ := a10 j hji f f1 f2
            have := ih e' p1 (by rw [p2]; exact f3)
            omega
    intro m hm
    have := key m 0 a4 (by rw [a8]; exact hm)
    rw [a9] at this
    omega
