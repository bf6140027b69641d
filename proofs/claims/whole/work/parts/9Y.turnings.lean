/-! PURE: turnings, the class -/
def lR2B (s2 : Int32 × Int32) : (Int32 × Int32 × Int32 → MM Int32) → Int32 × Int32 × Int32 → MM Int32 := fun (self10 : Int32 × Int32 × Int32 → MM Int32) (s11 : Int32 × Int32 × Int32) =>
  (if s11.2.2 < 0 then
  bd (sv 0 2 s2.1) fun _ =>
  jn (fun (a13 : Int32) =>
  rz a13) (fun j12 =>
  (if s11.2.1 = ((1 <<< (s2.1 &&& 31)) - 1) then
  j12 1
  else
  j12 0))
  else
  nz 10 (
  bd (sa 2 s11.2.2 (irm s11.1 10)) fun _ =>
  bd (la 2 s11.2.2) fun v14 =>
  lt (s11.2.1 ||| (1 <<< (v14 &&& 31))) fun y15 =>
  nz 10 (
  lt (s11.1 / 10) fun y16 =>
  lt (s11.2.2 + (-1)) fun y17 =>
  self10 (y16, y15, y17))))
def lR2 (s2 : Int32 × Int32) (y8 : Int32) (y9 : Int32) : MM Int32 := loopC 100000 (lR2B s2) (y8, 0, y9)
def lR1B (x1 : Int32) : (Int32 × Int32 → MM Int32) → Int32 × Int32 → MM Int32 := fun (self1 : Int32 × Int32 → MM Int32) (s2 : Int32 × Int32) =>
  bd (ln 2) fun v3 =>
  jn (fun (a5 : Unit) =>
  jn (fun (a7 : Unit) =>
  rz 0) (fun j6 =>
  (if s2.1 = 0 then
  j6 ()
  else
  (if x1 < s2.2 then
  j6 ()
  else
  (if x1 < (2 * s2.2) then
  lt (x1 - s2.2) fun y8 =>
  lt (s2.1 - 1) fun y9 =>
  (lR2 s2 y8 y9)
  else
  j6 ()))))) (fun j4 =>
  (if v3 ≤ s2.1 then
  j4 ()
  else
  (if x1 < (2 * s2.2) then
  j4 ()
  else
  lt (s2.1 + 1) fun y18 =>
  lt (s2.2 * 10) fun y19 =>
  self1 (y18, y19))))
def lR1 (x1 : Int32) : MM Int32 := loopC 100000 (lR1B x1) (0, 1)
theorem lR_eq (x1 : Int32) : gX6_layRow x1 =
  (lR1 x1) := rfl
def sC1B : (Int32 × Int32 → MM Int32) → Int32 × Int32 → MM Int32 := fun (self1 : Int32 × Int32 → MM Int32) (s2 : Int32 × Int32) =>
  bd (ld 0 2) fun v3 =>
  jn (fun (a5 : Unit) =>
  pr s2.1) (fun j4 =>
  (if v3 ≤ s2.2 then
  j4 ()
  else
  bd (ln 2) fun v6 =>
  (if v6 ≤ s2.2 then
  j4 ()
  else
  bd (la 2 s2.2) fun v7 =>
  bd (la 2 (s2.2 - 1)) fun v8 =>
  bd (lf rh0 0 (gJ9_abs_0f7a4 (v7 - v8))) fun r9 =>
  jn (fun (a11 : Int32) =>
  lt (s2.2 + 1) fun y12 =>
  self1 (a11, y12)) (fun j10 =>
  (if r9 = 1 then
  j10 s2.1
  else
  lt (s2.1 + 1) fun y13 =>
  j10 y13)))))
def sC1 : MM Int32 := loopC 100000 (sC1B) (0, 1)
theorem sC_eq : gX6_strangeCouples =
  (sC1) := rfl
def tU1B (x1 : Int32) : (Int32 → MM Int32) → Int32 → MM Int32 := fun (self4 : Int32 → MM Int32) (s5 : Int32) =>
  nz 2 (
  (if (x1 / 2) ≤ s5 then
  pr 0
  else
  bd (la 2 s5) fun v6 =>
  bd (la 2 ((x1 - 1) - s5)) fun v7 =>
  bd (sa 2 s5 v7) fun _ =>
  bd (sa 2 ((x1 - 1) - s5) v6) fun _ =>
  lt (s5 + 1) fun y8 =>
  self4 y8))
def tU1 (x1 : Int32) : MM Int32 := loopC 100000 (tU1B x1) 0
theorem tU_eq (x1 : Int32) : gX6_turn x1 =
  jn (fun (a2 : Unit) =>
  pr 0) (fun j1 =>
  (if x1 < 0 then
  j1 ()
  else
  bd (ln 2) fun v3 =>
  (if x1 ≤ v3 then
  (tU1 x1)
  else
  j1 ()))) := rfl
def fT1B : (Int32 → MM Int32) → Int32 → MM Int32 := fun (self1 : Int32 → MM Int32) (s2 : Int32) =>
  (if 8 < s2 then
  pr ((-1))
  else
  bd (gX6_isInOrderBy s2) fun r3 =>
  (if r3 = 0 then
  lt (s2 + 1) fun y4 =>
  self1 y4
  else
  pr s2))
def fT1 : MM Int32 := loopC 100000 (fT1B) 0
theorem fT_eq : gX6_fewestTurnings =
  (fT1) := rfl
def iO1B (rq : Int32 → MM Int32) (x1 : Int32) : (Int32 → MM Int32) → Int32 → MM Int32 := fun (self5 : Int32 → MM Int32) (s6 : Int32) =>
  bd (ld 0 2) fun v7 =>
  (if v7 < s6 then
  rz 0
  else
  bd (gX6_turn s6) fun r8 =>
  bd (rq (x1 - 1)) fun r9 =>
  bd (gX6_turn s6) fun r10 =>
  (if r9 = 0 then
  lt (s6 + 1) fun y11 =>
  self5 y11
  else
  rz 1))
def iO1 (rq : Int32 → MM Int32) (x1 : Int32) : MM Int32 := loopC 100000 (iO1B rq x1) 2
theorem iO_eq (rq : Int32 → MM Int32) (x1 : Int32) : bX6_isInOrderBy rq x1 =
  bd gX6_strangeCouples fun r1 =>
  bd (ld 0 2) fun v2 =>
  jn (fun (a4 : Int32) =>
  (if a4 = 0 then
  rz 1
  else
  (if a4 ≤ x1 then
  (iO1 rq x1)
  else
  rz 0))) (fun j3 =>
  (if v2 ≤ 0 then
  j3 r1
  else
  bd (ld 0 2) fun v12 =>
  bd (ln 2) fun v13 =>
  (if v13 < v12 then
  j3 r1
  else
  bd (ld 0 2) fun v14 =>
  bd (la 2 (v14 - 1)) fun v15 =>
  bd (ld 0 2) fun v16 =>
  (if v15 = (v16 - 1) then
  j3 r1
  else
  lt (r1 + 1) fun y17 =>
  j3 y17)))) := rfl
theorem flp_gd {α : Type} {d : α} {f k : Nat} {p : List α} (h : f ≤ p.length) (hk : k < p.length) : (flp f p).getD k d = if k < f then p.getD (f - 1 - k) d else p.getD k d := by
  have e : (p.take f).length = f := by rw [List.length_take]; omega
  unfold flp
  rw [List.getD_eq_getElem?_getD, List.getD_eq_getElem?_getD, List.getD_eq_getElem?_getD]
  by_cases c : k < f
  · rw [if_pos c, List.getElem?_append_left (by rw [List.length_reverse, e]; exact c), List.getElem?_reverse (by rw [e]; exact c), e, List.getElem?_take_of_lt (by omega)]
  · rw [if_neg c, List.getElem?_append_right (by rw [List.length_reverse, e]; omega), List.length_reverse, e, List.getElem?_drop, show f + (k - f) = k by omega]
/-- an order laid at the head of a row of seven -/
def RL (n : Nat) (l : List Int32) (p : List Nat) : Prop := l.length = 7 ∧ p.length = n ∧ ∀ q, q < n → l.getD q 0 = nI (p.getD q 0)
theorem RL_flp {n f : Nat} {l : List Int32} {p : List Nat} (h : RL n l p) (hn : n ≤ 7) (hf : f ≤ n) : RL n (flp f l) (flp f p) := by
  obtain ⟨h1, h2, h3⟩ := h
  refine ⟨by rw [flp_len, h1], by rw [flp_len, h2], fun q hq => ?_⟩
  rw [flp_gd (by omega) (by omega), flp_gd (by omega) (by omega)]
  by_cases c : q < f
  · rw [if_pos c, if_pos c, h3 _ (by omega)]
  · rw [if_neg c, if_neg c, h3 _ hq]
/-- what the loop of a turning does, step by step -/
def swS (f : Nat) (i : Nat) (m : List Int32) : List Int32 := (m.set i (m.getD (f - 1 - i) 0)).set (f - 1 - i) (m.getD i 0)
def swF (f : Nat) (l : List Int32) : Nat → List Int32 := fo (swS f) l
theorem swF_len (f : Nat) (l : List Int32) : ∀ j, (swF f l j).length = l.length
  | 0 => rfl
  | j + 1 => by
    show (swS f j (swF f l j)).length = _
    unfold swS
    rw [List.length_set, List.length_set, swF_len f l j]
set_option maxHeartbeats 400000 in
theorem swF_end {f : Nat} {l : List Int32} (hl : l.length = 7) (hf : f ≤ 7) : swF f l (f / 2) = flp f l := by
  match l, hl with
  | [a, b, c, d, e, g, h], _ =>
    rcases (show f = 0 ∨ f = 1 ∨ f = 2 ∨ f = 3 ∨ f = 4 ∨ f = 5 ∨ f = 6 ∨ f = 7 by omega) with e | e | e | e | e | e | e | e <;> subst e <;> rfl
theorem half {f : Nat} (hf : f < 2 ^ 31) : (nI f / 2 : Int32) = nI (f / 2) := pk_div hf (by decide) (by decide)
set_option maxHeartbeats 400000 in
theorem p_turn {f : Nat} {T : Bk} (hl : (T 2).length = 7) (h2 : 2 ≤ f) (hf : f ≤ 7) : gX6_turn (nI f) T = some (0, up T 2 (flp f (T 2))) := by
  rw [tU_eq]
  simp only [jn_eq]
  rw [if_neg (nI_pos (by omega)), bd_ln, hl, if_pos ((nI_leI (by omega) (by omega)).mpr hf)]
  unfold tU1
  refine loopF (f / 2) nI (fun j => up T 2 (swF f (T 2) j)) rfl (up_self T 2) (fun j hj self => ?_) (fun self => ?_) (by omega)
  · obtain ⟨m, hm⟩ : ∃ m, swF f (T 2) j = m := ⟨_, rfl⟩
    have hml : m.length = 7 := by rw [← hm, swF_len, hl]
    have hs : swF f (T 2) (j + 1) = swS f j m := by rw [← hm]; rfl
    have e1 : (nI f - 1 - nI j : Int32) = nI (f - 1 - j) := by
      rw [show (1 : Int32) = nI 1 from rfl, pk_sub (by omega), pk_sub (by omega)]
    rw [hs, hm]
    have hU : (up T 2 m 2).length = 7 := by rw [up_same]; exact hml
    unfold tU1B
    simp only [nz_fn (show ¬ (2 : Int32) = 0 by decide), lt_eq]
    rw [half (by omega), if_neg (nI_ge hj (by omega)), bd_la _ (by omega) (by omega), e1, bd_la _ (by omega) (by omega), bd_sa _ (by omega) (by omega), up_up, up_same, bd_sa _ (by rw [up_same, List.length_set]; omega) (by rw [up_same, List.length_set]; omega), up_up, up_same, nI_1]
    rfl
  · unfold tU1B
    simp only [nz_fn (show ¬ (2 : Int32) = 0 by decide)]
    rw [half (by omega), if_pos (Int32.le_refl _), swF_end hl hf]; rfl
theorem abs_t : ∀ a, a < 10 → ∀ b, b < 10 → (((if 0 ≤ nI a - nI b then nI a - nI b else -(nI a - nI b)) = 1) ↔ adj b a = true) := by decide +kernel
set_option maxHeartbeats 400000 in
theorem p_sC {n : Nat} {T : Bk} {p : List Nat} (h0 : (T 0).length = 4) (hn : (T 0).getD 2 0 = nI n) (n1 : 1 ≤ n) (n7 : n ≤ 7) (hp : ∀ q, q < n → p.getD q 0 < 10) (h : RL n (T 2) p) : gX6_strangeCouples T = some (nI (cntN (bdC p) (n - 1)), T) := by
  obtain ⟨hl, hpl, hg⟩ := h
  rw [sC_eq]
  unfold sC1
  refine loopF (n - 1) (fun j => (nI (cntN (bdC p) j), nI (1 + j))) (fun _ => T) rfl rfl (fun j hj self => ?_) (fun self => ?_) (by omega)
  · have hc : cntN (bdC p) (j + 1) = if bdC p j = true then cntN (bdC p) j + 1 else cntN (bdC p) j := rfl
    unfold sC1B
    simp only [lt_eq, jn_eq]
    rw [bd_ld _ (by omega), hn, if_neg (nI_ge (by omega) (by omega)), bd_ln, hl, if_neg (nI_ge (by omega) (by omega)), bd_la _ (by omega) (by omega), show (nI (1 + j) - 1 : Int32) = nI j from by rw [show (1 : Int32) = nI 1 from rfl, pk_sub (by omega), Nat.add_sub_cancel_left], bd_la _ (by omega) (by omega), hg _ (by omega), hg _ (by omega), bd_lf0 _ (p_abs _ _), hc]
    have ht := abs_t _ (hp (1 + j) (by omega)) _ (hp j (by omega))
    unfold bdC
    rw [show j + 1 = 1 + j by omega]
    cases ha : adj (p.getD j 0) (p.getD (1 + j) 0) with
    | true =>
      rw [if_pos (ht.mpr ha), nI_1, show 1 + j + 1 = 1 + (1 + j) by omega]; rfl
    | false =>
      rw [if_neg (fun q => by rw [ht.mp q] at ha; cases ha), nI_1, nI_1, show 1 + j + 1 = 1 + (1 + j) by omega]; rfl
  · unfold sC1B
    simp only [jn_eq]
    rw [bd_ld _ (by omega), hn, show 1 + (n - 1) = n by omega, if_pos (Int32.le_refl _)]; rfl
theorem anyF_shift (b : Nat → Bool) (a : Nat) : ∀ m j, anyF (fun i => b (a + i)) j m = anyF b (a + j) m
  | 0, _ => rfl
  | m + 1, j => by
    show (b (a + j) || anyF (fun i => b (a + i)) (j + 1) m) = (b (a + j) || anyF b (a + j + 1) m)
    rw [anyF_shift b a m (j + 1)]; rfl
set_option maxHeartbeats 400000 in
theorem p_iOb {n t : Nat} {T : Bk} {p : List Nat} (rq : Int32 → MM Int32) (h0 : (T 0).length = 4) (hn : (T 0).getD 2 0 = nI n) (n1 : 1 ≤ n) (n7 : n ≤ 7) (hp : Pm n p) (h : RL n (T 2) p) (ht : t ≤ 8) (good : Nat → Bool)
    (hrq : 1 ≤ t → ∀ f, 2 ≤ f → f ≤ n → rq (nI (t - 1)) (up T 2 (flp f (T 2))) = some (nI (good f).toNat, up T 2 (flp f (T 2)))) :
    bX6_isInOrderBy rq (nI t) T = some (nI (decide (wnt n p = 0) || (decide (wnt n p ≤ t) && anyF good 2 (n - 1))).toNat, T) := by
  have hp10 : ∀ q, q < n → p.getD q 0 < 10 := fun q hq => by have := Pm_get hp hq; omega
  have hsc := p_sC h0 hn n1 n7 hp10 h
  obtain ⟨hl, hpl, hg⟩ := h
  have hcl := cntN_le (bdC p) (n - 1)
  have hlast := Pm_get hp (i := n - 1) (by omega)
  have key : (if nI (wnt n p) = 0 then rz 1 else if nI (wnt n p) ≤ nI t then iO1 rq (nI t) else rz 0 : MM Int32) T = some (nI (decide (wnt n p = 0) || (decide (wnt n p ≤ t) && anyF good 2 (n - 1))).toNat, T) := by
    have hw : wnt n p < 100 := by
      unfold wnt
      by_cases c : p.getD (n - 1) 0 = n - 1
      · rw [if_pos c]; omega
      · rw [if_neg c]; omega
    by_cases w0 : wnt n p = 0
    · rw [if_pos (by rw [w0]; rfl), decide_eq_true w0, Bool.true_or]; rfl
    · rw [if_neg (fun q => w0 ((nI_0i (by omega)).mp q)), decide_eq_false w0, Bool.false_or]
      by_cases wt : wnt n p ≤ t
      · rw [if_pos ((nI_leI (by omega) (by omega)).mpr wt), decide_eq_true wt, Bool.true_and]
        have hlo := loopA (n := n - 1) (F := iO1B rq (nI t)) (fun j => nI (2 + j)) (A := T) (fun j => good (2 + j)) (r0 := some ((1 : Int32), T)) (r1 := some ((0 : Int32), T)) (fun j hj f => ?_) (fun f => ?_) (n - 1) 0 100000 (by omega) (by omega)
        · unfold iO1
          show loopC 100000 (iO1B rq (nI t)) (nI (2 + 0)) T = _
          rw [hlo, anyF_shift]
          cases anyF good (2 + 0) (n - 1) <;> rfl
        · have t1 : 1 ≤ t := by omega
          have hr := hrq t1 (2 + j) (by omega) (by omega)
          have g1 := p_turn (T := T) hl (show 2 ≤ 2 + j by omega) (by omega)
          have g2 := p_turn (f := 2 + j) (T := up T 2 (flp (2 + j) (T 2))) (by rw [up_same, flp_len]; exact hl) (by omega) (by omega)
          rw [up_same, up_up, flp_flp (by omega), up_self] at g2
          unfold iO1B
          rw [bd_ld _ (by omega), hn, if_neg (nI_nlt (by omega) (by omega)), bd_some g1, show (nI t - 1 : Int32) = nI (t - 1) from by rw [show (1 : Int32) = nI 1 from rfl, pk_sub (by omega)], bd_some hr, bd_some g2]
          cases good (2 + j) with
          | true => rw [if_neg (show ¬ nI (Bool.toNat true) = (0 : Int32) by decide)]; rfl
          | false =>
            rw [if_pos (show nI (Bool.toNat false) = (0 : Int32) from rfl)]
            simp only [lt_eq, nI_1]
            rfl
        · unfold iO1B
          rw [bd_ld _ (by omega), hn, if_pos (nI_lt (by omega) (by omega))]; rfl
      · rw [if_neg (fun q => wt ((nI_leI (by omega) (by omega)).mp q)), decide_eq_false wt, Bool.false_and]; rfl
  rw [iO_eq, bd_some hsc, bd_ld _ (by omega), hn]
  simp only [jn_eq, lt_eq]
  rw [if_neg (show ¬ nI n ≤ 0 from nI_ge (a := 0) (by omega) (by omega)), bd_ld _ (by omega), hn, bd_ln, hl, if_neg (nI_nlt n7 (by omega)), bd_ld _ (by omega), hn, show (nI n - 1 : Int32) = nI (n - 1) from by rw [show (1 : Int32) = nI 1 from rfl, pk_sub (by omega)], bd_la _ (by omega) (by omega), hg _ (by omega), bd_ld _ (by omega), hn, show (nI n - 1 : Int32) = nI (n - 1) from by rw [show (1 : Int32) = nI 1 from rfl, pk_sub (by omega)]]
  by_cases c : p.getD (n - 1) 0 = n - 1
  · have ew : wnt n p = cntN (bdC p) (n - 1) := by unfold wnt; rw [if_pos c, Nat.add_zero]
    rw [if_pos (by rw [c]), ← ew]
    exact key
  · rw [if_neg (fun q => c ((nI_eq (by omega) (by omega)).mp q)), nI_1]
    have ew : wnt n p = cntN (bdC p) (n - 1) + 1 := by unfold wnt; rw [if_neg c]
    rw [← ew]
    exact key
set_option maxHeartbeats 400000 in
theorem p_iO {n : Nat} (n1 : 1 ≤ n) (n7 : n ≤ 7) : ∀ (t F : Nat) {T : Bk} {p : List Nat}, (T 0).length = 4 → (T 0).getD 2 0 = nI n → Pm n p → RL n (T 2) p → t ≤ 8 → t < F → gr_X6_isInOrderBy F (nI t) T = some (nI (okT n t p).toNat, T)
  | 0, F, T, p, h0, hn, hp, h, ht, hF => by
    obtain ⟨F, rfl⟩ : ∃ q, F = q + 1 := ⟨F - 1, by omega⟩
    have := p_iOb (t := 0) (gr_X6_isInOrderBy F) h0 hn n1 n7 hp h ht (fun _ => false) (fun h => absurd h (by omega))
    show bX6_isInOrderBy (gr_X6_isInOrderBy F) (nI 0) T = _
    rw [this]
    have e : anyF (fun _ => false) 2 (n - 1) = false := by
      cases ha : anyF (fun _ => false) 2 (n - 1) with
      | false => rfl
      | true =>
        obtain ⟨i, _, _, h3⟩ := anyF_iff.mp ha
        cases h3
    rw [e, Bool.and_false, Bool.or_false]; rfl
  | t + 1, F, T, p, h0, hn, hp, h, ht, hF => by
    obtain ⟨F, rfl⟩ : ∃ q, F = q + 1 := ⟨F - 1, by omega⟩
    have := p_iOb (t := t + 1) (gr_X6_isInOrderBy F) h0 hn n1 n7 hp h ht (fun i => okT n t (flp i p)) (fun _ f h2 hf => by
      rw [Nat.add_sub_cancel]
      exact p_iO n1 n7 t F (T := up T 2 (flp f (T 2))) h0 hn (flp_P hp) (by rw [up_same]; exact RL_flp h n7 hf) (by omega) (by omega))
    exact this
set_option maxHeartbeats 400000 in
theorem p_fT {n : Nat} (n1 : 1 ≤ n) (n7 : n ≤ 7) {T : Bk} {p : List Nat} (h0 : (T 0).length = 4) (hn : (T 0).getD 2 0 = nI n) (hp : Pm n p) (h : RL n (T 2) p) : gX6_fewestTurnings T = some (if fstp (fun t => okT n t p) 0 9 < 9 then nI (fstp (fun t => okT n t p) 0 9) else -1, T) := by
  rw [fT_eq]
  have hlo := loopP (n := 9) (F := fT1B) nI (A := T) (fun t => okT n t p) (fun j => some (if j < 9 then nI j else -1, T)) (fun j hj f => ?_) (fun f => ?_) 9 0 100000 rfl (by omega)
  · exact hlo
  · have g : gX6_isInOrderBy (nI j) T = some (nI (okT n j p).toNat, T) := p_iO n1 n7 j 12 h0 hn hp h (by omega) (by omega)
    unfold fT1B
    rw [if_neg (show ¬ (8 : Int32) < nI j from nI_nlt (b := j) (a := 8) (by omega) (by omega)), bd_some g, if_pos hj]
    simp only [lt_eq, nI_1]
    cases okT n j p with
    | true => rw [if_neg (show ¬ nI (Bool.toNat true) = (0 : Int32) by decide)]; rfl
    | false => rw [if_pos (show nI (Bool.toNat false) = (0 : Int32) from rfl)]; rfl
  · unfold fT1B
    rw [if_pos (show (8 : Int32) < nI 9 by decide), if_neg (by decide)]; rfl
