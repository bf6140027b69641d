/-! PURE: pages -/
def sT1B (x1 : Int32) (x3 : Int32) (x2 : Int32) : (Int32 → MM Int32) → Int32 → MM Int32 := fun (self1 : Int32 → MM Int32) (s2 : Int32) =>
  (if 16 ≤ s2 then
  pr 16
  else
  lt (x1 + (x3 * s2)) fun y3 =>
  jn (fun (a5 : Unit) =>
  lt (s2 + 1) fun y6 =>
  self1 y6) (fun j4 =>
  (if y3 < 0 then
  j4 ()
  else
  bd (ld 0 0) fun v7 =>
  (if v7 ≤ y3 then
  j4 ()
  else
  bd (gX8_get y3) fun r8 =>
  (if r8 = x2 then
  pr s2
  else
  j4 ())))))
def sT1 (x1 : Int32) (x3 : Int32) (x2 : Int32) : MM Int32 := loopC 100000 (sT1B x1 x3 x2) 1
theorem sT_eq (x1 x2 x3 : Int32) : gX6_stepsTo x1 x2 x3 =
  (sT1 x1 x3 x2) := rfl
def wG1B (x2 : Int32) (x3 : Int32) (x1 : Int32) : (Int32 × Int32 × Int32 → MM Int32) → Int32 × Int32 × Int32 → MM Int32 := fun (self1 : Int32 × Int32 × Int32 → MM Int32) (s2 : Int32 × Int32 × Int32) =>
  (if 10 ≤ s2.2.2 then
  pr s2.1
  else
  jn (fun (a4 : Int32) =>
  jn (fun (a6 : Int32 × Int32) =>
  lt (s2.2.2 + 1) fun y7 =>
  self1 (a6.1, a6.2, y7)) (fun j5 =>
  (if ((ish x2 s2.2.2) &&& 1) = 1 then
  (if a4 ≤ s2.2.1 then
  j5 (s2.1, s2.2.1)
  else
  j5 (s2.2.2, a4))
  else
  j5 (s2.1, s2.2.1)))) (fun j3 =>
  (if x3 = 0 then
  bd (gX6_stepsTo x1 s2.2.2 ((-1))) fun r8 =>
  j3 r8
  else
  bd (gX6_stepsTo x1 s2.2.2 1) fun r9 =>
  j3 r9)))
def wG1 (x2 : Int32) (x3 : Int32) (x1 : Int32) : MM Int32 := loopC 100000 (wG1B x2 x3 x1) (0, ((-1)), 0)
theorem wG_eq (x1 x2 x3 : Int32) : gX6_whichGoes x1 x2 x3 =
  (wG1 x2 x3 x1) := rfl
def mS1B (x1 : Int32) (x2 : Int32) : (Int32 × Int32 × Int32 → MM Int32) → Int32 × Int32 × Int32 → MM Int32 := fun (self1 : Int32 × Int32 × Int32 → MM Int32) (s2 : Int32 × Int32 × Int32) =>
  bd (ld 0 0) fun v3 =>
  (if v3 ≤ s2.2.2 then
  pr s2.2.1
  else
  bd (gX8_get s2.2.2) fun r4 =>
  lt (1 <<< (r4 &&& 31)) fun y5 =>
  jn (fun (a7 : Int32 × Int32) =>
  lt (s2.2.2 + 1) fun y8 =>
  self1 (a7.1, a7.2, y8)) (fun j6 =>
  (if (s2.1 &&& y5) = 0 then
  lt (s2.2.1 + 1) fun y9 =>
  bd (lf rh0 0 (gJ6_bitCount_0f7a4 s2.1)) fun r10 =>
  jn (fun (a12 : Int32) =>
  lt (a12 ||| y5) fun y13 =>
  j6 (y13, y9)) (fun j11 =>
  (if r10 < x1 then
  j11 s2.1
  else
  bd (gX6_whichGoes s2.2.2 s2.1 x2) fun r14 =>
  lt (s2.1 ^^^ (1 <<< (r14 &&& 31))) fun y15 =>
  j11 y15))
  else
  j6 (s2.1, s2.2.1))))
def mS1 (x1 : Int32) (x2 : Int32) : MM Int32 := loopC 100000 (mS1B x1 x2) (0, 0, 0)
theorem mS_eq (x1 x2 : Int32) : gX6_misses x1 x2 =
  (mS1 x1 x2) := rfl
def aW1B (x1 : Int32) : (Int32 → MM Int32) → Int32 → MM Int32 := fun (self2 : Int32 → MM Int32) (s3 : Int32) =>
  jn (fun (a5 : Unit) =>
  pr s3) (fun j4 =>
  (if s3 < 0 then
  j4 ()
  else
  bd (la 32 s3) fun v6 =>
  (if v6 = x1 then
  j4 ()
  else
  lt (s3 - 1) fun y7 =>
  self2 y7)))
def aW1 (x1 : Int32) (y1 : Int32) : MM Int32 := loopC 100000 (aW1B x1) y1
def aW2B (x1 : Int32) : (Int32 → MM Int32) → Int32 → MM Int32 := fun (self9 : Int32 → MM Int32) (s10 : Int32) =>
  bd (ld 0 57) fun v11 =>
  jn (fun (a13 : Unit) =>
  pr s10) (fun j12 =>
  (if v11 ≤ s10 then
  j12 ()
  else
  bd (la 32 s10) fun v14 =>
  (if v14 = x1 then
  j12 ()
  else
  lt (s10 + 1) fun y15 =>
  self9 y15)))
def aW2 (x1 : Int32) (y8 : Int32) : MM Int32 := loopC 100000 (aW2B x1) y8
theorem aW_eq (x1 x2 x3 : Int32) : gX11_askedWhen x1 x2 x3 =
  (if x3 = 0 then
  lt (x2 - 1) fun y1 =>
  (aW1 x1 y1)
  else
  lt (x2 + 1) fun y8 =>
  (aW2 x1 y8)) := rfl
def gO1B (x1 : Int32) (x3 : Int32) (x2 : Int32) : (Int32 × Int32 → MM Int32) → Int32 × Int32 → MM Int32 := fun (self1 : Int32 × Int32 → MM Int32) (s2 : Int32 × Int32) =>
  (if 10 ≤ s2.2 then
  pr s2.1
  else
  bd (gX11_has x1 s2.2) fun r3 =>
  jn (fun (a5 : Int32) =>
  lt (s2.2 + 1) fun y6 =>
  self1 (a5, y6)) (fun j4 =>
  (if r3 = 0 then
  j4 s2.1
  else
  jn (fun (a8 : Int32) =>
  (if a8 = 0 then
  j4 s2.1
  else
  j4 s2.2)) (fun j7 =>
  jn (fun (a10 : Unit) =>
  j7 1) (fun j9 =>
  (if s2.1 = ((-1)) then
  j9 ()
  else
  jn (fun (a12 : Unit) =>
  j7 0) (fun j11 =>
  (if x3 = 0 then
  bd (gX11_askedWhen s2.2 x2 0) fun r13 =>
  bd (gX11_askedWhen s2.1 x2 0) fun r14 =>
  (if r14 ≤ r13 then
  j11 ()
  else
  j9 ())
  else
  bd (gX11_askedWhen s2.2 x2 1) fun r15 =>
  bd (gX11_askedWhen s2.1 x2 1) fun r16 =>
  (if r15 ≤ r16 then
  j11 ()
  else
  j9 ())))))))))
def gO1 (x1 : Int32) (x3 : Int32) (x2 : Int32) : MM Int32 := loopC 100000 (gO1B x1 x3 x2) (((-1)), 0)
theorem gO_eq (x1 x2 x3 : Int32) : gX11_goesOut x1 x2 x3 =
  (gO1 x1 x3 x2) := rfl
def pG1B (x1 : Int32) (x2 : Int32) : (Int32 × Int32 × Int32 → MM Int32) → Int32 × Int32 × Int32 → MM Int32 := fun (self5 : Int32 × Int32 × Int32 → MM Int32) (s6 : Int32 × Int32 × Int32) =>
  bd (ld 0 57) fun v7 =>
  (if v7 ≤ s6.2.2 then
  pr s6.2.1
  else
  bd (la 32 s6.2.2) fun v8 =>
  bd (gX11_has s6.1 v8) fun r9 =>
  jn (fun (a11 : Int32 × Int32) =>
  lt (s6.2.2 + 1) fun y12 =>
  self5 (a11.1, a11.2, y12)) (fun j10 =>
  (if r9 = 0 then
  lt (s6.2.1 + 1) fun y13 =>
  bd (gX11_onesOf s6.1) fun r14 =>
  jn (fun (a16 : Int32) =>
  bd (la 32 s6.2.2) fun v17 =>
  lt (a16 ||| (1 <<< (v17 &&& 31))) fun y18 =>
  j10 (y18, y13)) (fun j15 =>
  (if r14 = x1 then
  jn (fun (a20 : Int32) =>
  bd (gX11_goesOut s6.1 s6.2.2 a20) fun r21 =>
  lt (s6.1 &&& ((1 <<< (r21 &&& 31)) ^^^ ((-1)))) fun y22 =>
  j15 y22) (fun j19 =>
  (if x2 = 1 then
  j19 1
  else
  j19 0))
  else
  j15 s6.1))
  else
  j10 (s6.1, s6.2.1))))
def pG1 (x1 : Int32) (x2 : Int32) : MM Int32 := loopC 100000 (pG1B x1 x2) (0, 0, 0)
theorem pG_eq (x1 x2 : Int32) : gX11_pages x1 x2 =
  bd (sv 0 0 0) fun _ =>
  bd (gX11_isIn x1 1 5) fun r1 =>
  jn (fun (a3 : Unit) =>
  pr ((-1))) (fun j2 =>
  (if r1 = 0 then
  j2 ()
  else
  bd (gX11_isIn x2 0 1) fun r4 =>
  (if r4 = 0 then
  j2 ()
  else
  (pG1 x1 x2)))) := rfl
theorem pg_d : ∀ s, s < 1024 → ∀ p, p < 10 → ((nI s &&& nI (2 ^ p) = 0) ↔ s.testBit p = false) ∧ (ish (nI s) (nI p)) &&& nI 1 = nI (s.testBit p).toNat ∧ (nI s >>> (nI p &&& nI 31)) &&& nI 1 = nI (s.testBit p).toNat := by decide +kernel
theorem pg_out : ∀ s, s < 1024 → ∀ p, p < 10 → s.testBit p = true → nI s ^^^ nI (2 ^ p) = nI (s - 2 ^ p) ∧ nI s &&& (nI (2 ^ p) ^^^ -1) = nI (s - 2 ^ p) ∧ pop (s - 2 ^ p) + 1 = pop s := by decide +kernel
theorem pg_in : ∀ s, s < 1024 → ∀ p, p < 10 → s ||| 2 ^ p < 1024 ∧ pop (s ||| 2 ^ p) ≤ pop s + 1 := by decide +kernel
theorem pg_some : ∀ s, s < 1024 → 0 < pop s → ∃ p, p < 10 ∧ s.testBit p = true := by
  intro s hs
  revert s
  decide +kernel
set_option maxHeartbeats 400000 in
theorem p_has2 {s p : Nat} (hs : s < 1024) (hp : p < 10) (B : Bk) : gX11_has (nI s) (nI p) B = some (nI (s.testBit p).toNat, B) := by
  have h := (pg_d s hs p hp).2.2
  unfold gX11_has
  simp only [jn_eq]
  rw [show ((nI s >>> (nI p &&& 31)) &&& 1 : Int32) = nI (s.testBit p).toNat from h]
  cases s.testBit p <;> rfl
/-- the first step at which it is so, 16 if at none -/
def ffs (hit : Nat → Bool) : Nat → Nat
  | 0 => 16
  | m + 1 => if hit (16 - (m + 1)) then 16 - (m + 1) else ffs hit m
theorem ffs_spec (hit : Nat → Bool) : ∀ m, m ≤ 15 → 16 - m ≤ ffs hit m ∧ ffs hit m ≤ 16 ∧ (∀ s, 16 - m ≤ s → s < ffs hit m → hit s = false) ∧ (ffs hit m < 16 → hit (ffs hit m) = true)
  | 0, _ => ⟨Nat.le_refl _, Nat.le_refl _, fun s h1 h2 => absurd h2 (by show ¬ s < 16; omega), fun h => absurd h (by show ¬ 16 < 16; omega)⟩
  | m + 1, hm => by
    have ih := ffs_spec hit m (by omega)
    unfold ffs
    by_cases h : hit (16 - (m + 1)) = true
    · rw [if_pos h]
      exact ⟨Nat.le_refl _, by omega, fun s h1 h2 => by omega, fun _ => h⟩
    · rw [if_neg h]
      refine ⟨by omega, ih.2.1, fun s h1 h2 => ?_, ih.2.2.2⟩
      by_cases e : s = 16 - (m + 1)
      · subst e; exact Bool.eq_false_iff.mpr h
      · exact ih.2.2.1 s (by omega) h2
def hitF (us : Nat → Nat) (n t p : Nat) : Nat → Bool := fun s => decide (t + s < n) && decide (us (t + s) = p)
def hitB (us : Nat → Nat) (t p : Nat) : Nat → Bool := fun s => decide (s ≤ t) && decide (us (t - s) = p)
def sF (us : Nat → Nat) (n t p : Nat) : Nat := ffs (hitF us n t p) 15
def sB (us : Nat → Nat) (t p : Nat) : Nat := ffs (hitB us t p) 15
theorem sF_spec (us : Nat → Nat) (n t p : Nat) : 1 ≤ sF us n t p ∧ sF us n t p ≤ 16 ∧ (∀ s, 1 ≤ s → s < sF us n t p → ¬ (t + s < n ∧ us (t + s) = p)) ∧ (sF us n t p < 16 → t + sF us n t p < n ∧ us (t + sF us n t p) = p) := by
  obtain ⟨h1, h2, h3, h4⟩ := ffs_spec (hitF us n t p) 15 (Nat.le_refl _)
  refine ⟨h1, h2, fun s a b c => ?_, fun a => ?_⟩
  · have := h3 s a b
    unfold hitF at this
    simp [c.1, c.2] at this
  · have := h4 a
    unfold hitF at this
    rw [Bool.and_eq_true, decide_eq_true_eq, decide_eq_true_eq] at this
    exact this
theorem sB_spec (us : Nat → Nat) (t p : Nat) : 1 ≤ sB us t p ∧ sB us t p ≤ 16 ∧ (∀ s, 1 ≤ s → s < sB us t p → ¬ (s ≤ t ∧ us (t - s) = p)) ∧ (sB us t p < 16 → sB us t p ≤ t ∧ us (t - sB us t p) = p) := by
  obtain ⟨h1, h2, h3, h4⟩ := ffs_spec (hitB us t p) 15 (Nat.le_refl _)
  refine ⟨h1, h2, fun s a b c => ?_, fun a => ?_⟩
  · have := h3 s a b
    unfold hitB at this
    simp [c.1, c.2] at this
  · have := h4 a
    unfold hitB at this
    rw [Bool.and_eq_true, decide_eq_true_eq, decide_eq_true_eq] at this
    exact this
theorem u_eq {a b : Nat} (ha : a ≤ 9) (hb : b ≤ 9) : (nI a = nI b) ↔ a = b := nI_eq (by omega) (by omega)
set_option maxHeartbeats 400000 in
theorem p_sF {T : Bk} {us : Nat → Nat} {n t p : Nat} (hn : n ≤ 16) (h0 : (T 0).length = 2) (hk : (T 0).getD 0 0 = nI n) (h1 : (T 1).length = 16) (hu : ∀ i, i < n → (T 1).getD i 0 = nI (us i) ∧ us i ≤ 9) (ht : t < n) (hp : p ≤ 9) : gX6_stepsTo (nI t) (nI p) 1 T = some (nI (sF us n t p), T) := by
  obtain ⟨a1, a2, a3, a4⟩ := sF_spec us n t p
  obtain ⟨z, hz⟩ : ∃ z, sF us n t p = z := ⟨_, rfl⟩
  rw [hz] at a1 a2 a3 a4 ⊢
  rw [sT_eq]
  unfold sT1
  refine loopF (z - 1) (fun j => nI (1 + j)) (fun _ => T) rfl rfl (fun j hj self => ?_) (fun self => ?_) (by omega)
  · have c := a3 (1 + j) (by omega) (by omega)
    unfold sT1B
    rw [if_neg (show ¬ (16 : Int32) ≤ nI (1 + j) from nI_ge (b := 16) (by omega) (by omega))]
    simp only [lt_eq, jn_eq]
    rw [show (nI t + 1 * nI (1 + j) : Int32) = nI (t + (1 + j)) from by rw [Int32.one_mul, nI_add], if_neg (nI_pos (by omega)), bd_ld _ (by omega), hk]
    by_cases c1 : t + (1 + j) < n
    · rw [if_neg (nI_ge c1 (by omega)), bd_some (p_get (by omega) (by omega)), (hu _ c1).1, if_neg (fun q => c ⟨c1, (u_eq (hu _ c1).2 hp).mp q⟩)]
      show self (nI (1 + j) + nI 1) T = _
      rw [nI_add]; rfl
    · rw [if_pos ((nI_leI (by omega) (by omega)).mpr (by omega))]
      show self (nI (1 + j) + nI 1) T = _
      rw [nI_add]; rfl
  · rw [show 1 + (z - 1) = z by omega]
    unfold sT1B
    by_cases c : z = 16
    · subst c; rw [if_pos (show (16 : Int32) ≤ nI 16 from Int32.le_refl _)]; rfl
    · obtain ⟨b1, b2⟩ := a4 (by omega)
      rw [if_neg (show ¬ (16 : Int32) ≤ nI z from nI_ge (b := 16) (by omega) (by omega))]
      simp only [lt_eq, jn_eq]
      rw [show (nI t + 1 * nI z : Int32) = nI (t + z) from by rw [Int32.one_mul, nI_add], if_neg (nI_pos (by omega)), bd_ld _ (by omega), hk, if_neg (nI_ge b1 (by omega)), bd_some (p_get (by omega) (by omega)), (hu _ b1).1, if_pos (by rw [b2])]
      rfl
set_option maxHeartbeats 400000 in
theorem p_sB {T : Bk} {us : Nat → Nat} {n t p : Nat} (hn : n ≤ 16) (h0 : (T 0).length = 2) (hk : (T 0).getD 0 0 = nI n) (h1 : (T 1).length = 16) (hu : ∀ i, i < n → (T 1).getD i 0 = nI (us i) ∧ us i ≤ 9) (ht : t < n) (hp : p ≤ 9) : gX6_stepsTo (nI t) (nI p) (-1) T = some (nI (sB us t p), T) := by
  obtain ⟨a1, a2, a3, a4⟩ := sB_spec us t p
  obtain ⟨z, hz⟩ : ∃ z, sB us t p = z := ⟨_, rfl⟩
  rw [hz] at a1 a2 a3 a4 ⊢
  have e : ∀ s, (nI t + (-1) * nI s : Int32) = nI t - nI s := fun s => by
    rw [Int32.neg_mul, Int32.one_mul, ← Int32.sub_eq_add_neg]
  rw [sT_eq]
  unfold sT1
  refine loopF (z - 1) (fun j => nI (1 + j)) (fun _ => T) rfl rfl (fun j hj self => ?_) (fun self => ?_) (by omega)
  · have c := a3 (1 + j) (by omega) (by omega)
    unfold sT1B
    rw [if_neg (show ¬ (16 : Int32) ≤ nI (1 + j) from nI_ge (b := 16) (by omega) (by omega))]
    simp only [lt_eq, jn_eq]
    rw [e]
    by_cases c1 : 1 + j ≤ t
    · rw [pk_sub c1, if_neg (nI_pos (by omega)), bd_ld _ (by omega), hk, if_neg (nI_ge (by omega) (by omega)), bd_some (p_get (by omega) (by omega)), (hu _ (by omega)).1, if_neg (fun q => c ⟨c1, (u_eq (hu _ (by omega)).2 hp).mp q⟩)]
      show self (nI (1 + j) + nI 1) T = _
      rw [nI_add]; rfl
    · rw [if_pos (pk_sneg (by omega) (by omega))]
      show self (nI (1 + j) + nI 1) T = _
      rw [nI_add]; rfl
  · rw [show 1 + (z - 1) = z by omega]
    unfold sT1B
    by_cases c : z = 16
    · subst c; rw [if_pos (show (16 : Int32) ≤ nI 16 from Int32.le_refl _)]; rfl
    · obtain ⟨b1, b2⟩ := a4 (by omega)
      rw [if_neg (show ¬ (16 : Int32) ≤ nI z from nI_ge (b := 16) (by omega) (by omega))]
      simp only [lt_eq, jn_eq]
      rw [e, pk_sub b1, if_neg (nI_pos (by omega)), bd_ld _ (by omega), hk, if_neg (nI_ge (by omega) (by omega)), bd_some (p_get (by omega) (by omega)), (hu _ (by omega)).1, if_pos (by rw [b2])]
      rfl
set_option maxHeartbeats 400000 in
theorem p_aF {B : Bk} {us : Nat → Nat} {n t p : Nat} (hn : n ≤ 16) (h0 : (B 0).length = 68) (hk : (B 0).getD 57 0 = nI n) (h1 : (B 32).length = 16) (hu : ∀ i, i < n → (B 32).getD i 0 = nI (us i) ∧ us i ≤ 9) (ht : t < n) (hp : p ≤ 9) : gX11_askedWhen (nI p) (nI t) 1 B = some (nI (if sF us n t p < 16 then t + sF us n t p else n), B) := by
  obtain ⟨a1, a2, a3, a4⟩ := sF_spec us n t p
  obtain ⟨z, hz⟩ : ∃ z, sF us n t p = z := ⟨_, rfl⟩
  rw [hz] at a1 a2 a3 a4 ⊢
  obtain ⟨g, hg⟩ : ∃ g, (if z < 16 then t + z else n) = g := ⟨_, rfl⟩
  have g1 : t < g ∧ g ≤ n ∧ (z < 16 → g = t + z) ∧ (¬ z < 16 → g = n) := by
    subst hg
    by_cases c : z < 16
    · rw [if_pos c]; have := a4 c; exact ⟨by omega, by omega, fun _ => rfl, fun q => absurd c q⟩
    · rw [if_neg c]; exact ⟨ht, Nat.le_refl _, fun q => absurd q c, fun _ => rfl⟩
  rw [hg]
  obtain ⟨g1, g2, g3, g4⟩ := g1
  rw [aW_eq, if_neg (show ¬ (1 : Int32) = 0 by decide)]
  simp only [lt_eq]
  unfold aW2
  refine loopF (g - t - 1) (fun j => nI (t + 1 + j)) (fun _ => B) (nI_1 t).symm rfl (fun j hj self => ?_) (fun self => ?_) (by omega)
  · have c := a3 (1 + j) (by omega) (by omega)
    have cn : t + 1 + j < n := by omega
    unfold aW2B
    simp only [lt_eq, jn_eq]
    rw [bd_ld _ (by omega), hk, if_neg (nI_ge cn (by omega)), bd_la _ (by omega) (by omega), (hu _ cn).1, if_neg (fun q => c ⟨by omega, by rw [show t + (1 + j) = t + 1 + j by omega]; exact (u_eq (hu _ cn).2 hp).mp q⟩)]
    show self (nI (t + 1 + j) + nI 1) B = _
    rw [nI_add]; rfl
  · rw [show t + 1 + (g - t - 1) = g by omega]
    unfold aW2B
    simp only [lt_eq, jn_eq]
    rw [bd_ld _ (by omega), hk]
    by_cases c : z < 16
    · obtain ⟨b1, b2⟩ := a4 c
      have := g3 c
      subst this
      rw [if_neg (nI_ge b1 (by omega)), bd_la _ (by omega) (by omega), (hu _ b1).1, if_pos (by rw [b2])]; rfl
    · have := g4 c
      subst this
      rw [if_pos (Int32.le_refl _)]; rfl
set_option maxHeartbeats 400000 in
theorem p_aB {B : Bk} {us : Nat → Nat} {n t p : Nat} (hn : n ≤ 16) (h1 : (B 32).length = 16) (hu : ∀ i, i < n → (B 32).getD i 0 = nI (us i) ∧ us i ≤ 9) (ht : t < n) (hp : p ≤ 9) : gX11_askedWhen (nI p) (nI t) 0 B = some (nI t - nI (if sB us t p < 16 then sB us t p else t + 1), B) := by
  obtain ⟨a1, a2, a3, a4⟩ := sB_spec us t p
  obtain ⟨z, hz⟩ : ∃ z, sB us t p = z := ⟨_, rfl⟩
  rw [hz] at a1 a2 a3 a4 ⊢
  obtain ⟨g, hg⟩ : ∃ g, (if z < 16 then z else t + 1) = g := ⟨_, rfl⟩
  have g1 : 1 ≤ g ∧ g ≤ t + 1 ∧ (z < 16 → g = z) ∧ (¬ z < 16 → g = t + 1) := by
    subst hg
    by_cases c : z < 16
    · rw [if_pos c]; have := a4 c; exact ⟨by omega, by omega, fun _ => rfl, fun q => absurd c q⟩
    · rw [if_neg c]; exact ⟨by omega, Nat.le_refl _, fun q => absurd q c, fun _ => rfl⟩
  rw [hg]
  obtain ⟨g1, g2, g3, g4⟩ := g1
  rw [aW_eq, if_pos rfl]
  simp only [lt_eq]
  unfold aW1
  refine loopF (g - 1) (fun j => nI t - nI (1 + j)) (fun _ => B) rfl rfl (fun j hj self => ?_) (fun self => ?_) (by omega)
  · have c := a3 (1 + j) (by omega) (by omega)
    have cn : 1 + j ≤ t := by omega
    unfold aW1B
    simp only [lt_eq, jn_eq]
    rw [pk_sub cn, if_neg (nI_pos (by omega)), bd_la _ (by omega) (by omega), (hu _ (by omega)).1, if_neg (fun q => c ⟨cn, (u_eq (hu _ (by omega)).2 hp).mp q⟩)]
    have e : (nI (t - (1 + j)) - 1 : Int32) = nI t - nI (1 + (j + 1)) := by
      rw [← pk_sub cn, Int32.sub_sub, nI_1]; rfl
    rw [e]
  · rw [show 1 + (g - 1) = g by omega]
    unfold aW1B
    simp only [lt_eq, jn_eq]
    by_cases c : z < 16
    · obtain ⟨b1, b2⟩ := a4 c
      have := g3 c
      subst this
      rw [pk_sub b1, if_neg (nI_pos (by omega)), bd_la _ (by omega) (by omega), (hu _ (by omega)).1, if_pos (by rw [b2])]; rfl
    · have := g4 c
      subst this
      rw [if_pos (pk_sneg (by omega) (by omega))]; rfl
/-- which one of a set goes -/
def bstS (s : Nat) (far : Nat → Nat) (p : Nat) (o : Option Nat) : Option Nat := if s.testBit p = true then (match o with
  | none => some p
  | some b => if far b < far p then some p else some b) else o
def bst (s : Nat) (far : Nat → Nat) : Nat → Option Nat := fo (bstS s far) none
theorem bstS_0 {s : Nat} {far : Nat → Nat} {p : Nat} {o : Option Nat} (h : s.testBit p = false) : bstS s far p o = o := by
  unfold bstS; rw [h]; rfl
theorem bstS_n {s : Nat} {far : Nat → Nat} {p : Nat} (h : s.testBit p = true) : bstS s far p none = some p := by
  unfold bstS; rw [h]; rfl
theorem bstS_y {s : Nat} {far : Nat → Nat} {p b : Nat} (h : s.testBit p = true) (d : far b < far p) : bstS s far p (some b) = some p := by
  unfold bstS; rw [h, if_pos rfl]; exact if_pos d
theorem bstS_o {s : Nat} {far : Nat → Nat} {p b : Nat} (h : s.testBit p = true) (d : ¬ far b < far p) : bstS s far p (some b) = some b := by
  unfold bstS; rw [h, if_pos rfl]; exact if_neg d
theorem tb_cases (s p : Nat) : s.testBit p = true ∨ s.testBit p = false := by cases s.testBit p <;> simp
theorem bst_none {s : Nat} {far : Nat → Nat} : ∀ m, bst s far m = none → ∀ p, p < m → s.testBit p = false
  | 0, _, p, hp => absurd hp (Nat.not_lt_zero p)
  | m + 1, h, p, hp => by
    have h' : bstS s far m (bst s far m) = none := h
    rcases tb_cases s m with c | c
    · exfalso
      cases hb : bst s far m with
      | none => rw [hb, bstS_n c] at h'; cases h'
      | some b =>
        rw [hb] at h'
        by_cases d : far b < far m
        · rw [bstS_y c d] at h'; cases h'
        · rw [bstS_o c d] at h'; cases h'
    · rw [bstS_0 c] at h'
      by_cases e : p = m
      · subst e; exact c
      · exact bst_none m h' p (by omega)
theorem bst_some {s : Nat} {far : Nat → Nat} : ∀ m b, bst s far m = some b → b < m ∧ s.testBit b = true
  | 0, b, h => by cases h
  | m + 1, b, h => by
    have h' : bstS s far m (bst s far m) = some b := h
    rcases tb_cases s m with c | c
    · cases hb : bst s far m with
      | none => rw [hb, bstS_n c] at h'; cases h'; exact ⟨by omega, c⟩
      | some b' =>
        rw [hb] at h'
        by_cases d : far b' < far m
        · rw [bstS_y c d] at h'; cases h'; exact ⟨by omega, c⟩
        · rw [bstS_o c d] at h'; cases h'
          have := bst_some m b hb
          exact ⟨by omega, this.2⟩
    · rw [bstS_0 c] at h'
      have := bst_some m b h'
      exact ⟨by omega, this.2⟩
def wst (far : Nat → Nat) (o : Option Nat) (j : Nat) : Int32 × Int32 × Int32 := match o with
  | none => (0, -1, nI j)
  | some b => (nI b, nI (far b), nI j)
def gst (o : Option Nat) (j : Nat) : Int32 × Int32 := match o with
  | none => (-1, nI j)
  | some b => (nI b, nI j)
set_option maxHeartbeats 400000 in
theorem p_wG {T : Bk} {s t : Nat} {far : Nat → Nat} {w : Int32} (hs : s < 1024) (hf : ∀ p, p < 10 → 1 ≤ far p ∧ far p ≤ 16) (hst : ∀ p, p < 10 → (if w = 0 then gX6_stepsTo (nI t) (nI p) (-1) T else gX6_stepsTo (nI t) (nI p) 1 T) = some (nI (far p), T)) {b : Nat} (hb : bst s far 10 = some b) : gX6_whichGoes (nI t) (nI s) w T = some (nI b, T) := by
  rw [wG_eq]
  unfold wG1
  refine loopF 10 (fun j => wst far (bst s far j) j) (fun _ => T) rfl rfl (fun j hj self => ?_) (fun self => ?_) (by omega)
  · obtain ⟨o, ho⟩ : ∃ o, bst s far j = o := ⟨_, rfl⟩
    rw [show bst s far (j + 1) = bstS s far j (bst s far j) from rfl, ho]
    have hfj := hf j hj
    have key : ∀ s2 : Int32 × Int32 × Int32, s2.2.2 = nI j → wG1B (nI s) w (nI t) self s2 T = (if s.testBit j = true then (if nI (far j) ≤ s2.2.1 then self (s2.1, s2.2.1, nI (j + 1)) T else self (nI j, nI (far j), nI (j + 1)) T) else self (s2.1, s2.2.1, nI (j + 1)) T) := by
      intro s2 h2
      have hh := (pg_d s hs j hj).2.1
      have hq : ((ish (nI s) (nI j)) &&& 1 : Int32) = nI (s.testBit j).toNat := hh
      have hstj := hst j hj
      unfold wG1B
      rw [h2, if_neg (show ¬ (10 : Int32) ≤ nI j from nI_ge (b := 10) hj (by omega))]
      simp only [lt_eq, jn_eq, nI_1]
      rw [hq]
      by_cases hw : w = 0
      · rw [if_pos hw] at hstj
        rw [if_pos hw, bd_some hstj]
        cases s.testBit j
        · rw [if_neg (by decide)]; rfl
        · rw [if_pos (show nI (Bool.toNat true) = (1 : Int32) from rfl)]
          by_cases c : nI (far j) ≤ s2.2.1
          · rw [if_pos c]; simp [c]
          · rw [if_neg c]; simp [c]
      · rw [if_neg hw] at hstj
        rw [if_neg hw, bd_some hstj]
        cases s.testBit j
        · rw [if_neg (by decide)]; rfl
        · rw [if_pos (show nI (Bool.toNat true) = (1 : Int32) from rfl)]
          by_cases c : nI (far j) ≤ s2.2.1
          · rw [if_pos c]; simp [c]
          · rw [if_neg c]; simp [c]
    have e2 : (wst far o j).2.2 = nI j := by cases o <;> rfl
    rw [key _ e2]
    rcases tb_cases s j with c | c
    · rw [if_pos c]
      cases o with
      | none =>
        rw [if_neg (show ¬ nI (far j) ≤ (wst far none j).2.1 from fun q => by
          have q2 : nI (far j) ≤ (-1 : Int32) := q
          rw [Int32.le_iff_toInt_le, nI_toInt (by omega), show (-1 : Int32).toInt = -1 by decide] at q2
          omega), bstS_n c]
        rfl
      | some b =>
        have hbj := bst_some j b ho
        have hfb := hf b (by omega)
        by_cases d : far b < far j
        · rw [if_neg (show ¬ nI (far j) ≤ (wst far (some b) j).2.1 from nI_ge d (by omega)), bstS_y c d]
          rfl
        · rw [if_pos (show nI (far j) ≤ (wst far (some b) j).2.1 from (nI_leI (by omega) (by omega)).mpr (by omega)), bstS_o c d]
          rfl
    · rw [if_neg (by rw [c]; decide), bstS_0 c]
      cases o <;> rfl
  · rw [hb]
    unfold wG1B
    rw [if_pos (show (10 : Int32) ≤ (wst far (some b) 10).2.2 from Int32.le_refl _)]
    rfl
set_option maxHeartbeats 400000 in
theorem p_gO {B : Bk} {s t : Nat} {far : Nat → Nat} {w : Int32} (hs : s < 1024) (v : Nat → Int32) (hst : ∀ p, p < 10 → (if w = 0 then gX11_askedWhen (nI p) (nI t) 0 B else gX11_askedWhen (nI p) (nI t) 1 B) = some (v p, B)) (hv : ∀ p q, p < 10 → q < 10 → (if w = 0 then (v q ≤ v p ↔ ¬ far q < far p) else (v p ≤ v q ↔ ¬ far q < far p))) {b : Nat} (hb : bst s far 10 = some b) : gX11_goesOut (nI s) (nI t) w B = some (nI b, B) := by
  rw [gO_eq]
  unfold gO1
  refine loopF 10 (fun j => gst (bst s far j) j) (fun _ => B) rfl rfl (fun j hj self => ?_) (fun self => ?_) (by omega)
  · obtain ⟨o, ho⟩ : ∃ o, bst s far j = o := ⟨_, rfl⟩
    rw [show bst s far (j + 1) = bstS s far j (bst s far j) from rfl, ho]
    have e2 : (gst o j).2 = nI j := by cases o <;> rfl
    have hstj := hst j hj
    unfold gO1B
    rw [e2, if_neg (show ¬ (10 : Int32) ≤ nI j from nI_ge (b := 10) hj (by omega))]
    simp only [lt_eq, jn_eq, nI_1]
    rw [bd_some (p_has2 hs hj B)]
    rcases tb_cases s j with c | c
    · rw [c, if_neg (show ¬ nI (Bool.toNat true) = (0 : Int32) by decide)]
      cases o with
      | none =>
        rw [if_pos (show (gst none j).1 = (-1 : Int32) from rfl), if_neg (show ¬ (1 : Int32) = 0 by decide), bstS_n c]
        rfl
      | some b =>
        have hbj := bst_some j b ho
        have hstb := hst b (by omega)
        have hvb := hv j b hj (by omega)
        have eb : (gst (some b) j).1 = nI b := rfl
        rw [eb, if_neg (show ¬ nI b = (-1 : Int32) from fun q => by
          have := e_nm1 (j := b) (by omega)
          exact this.mp q)]
        by_cases hw : w = 0
        · rw [if_pos hw] at hstj hstb hvb
          rw [if_pos hw, bd_some hstj, bd_some hstb]
          by_cases d : far b < far j
          · rw [bstS_y c d, if_neg (fun q => (hvb.mp q) d), if_neg (show ¬ (1 : Int32) = 0 by decide)]; rfl
          · rw [bstS_o c d, if_pos (hvb.mpr d), if_pos trivial]; rfl
        · rw [if_neg hw] at hstj hstb hvb
          rw [if_neg hw, bd_some hstj, bd_some hstb]
          by_cases d : far b < far j
          · rw [bstS_y c d, if_neg (fun q => (hvb.mp q) d), if_neg (show ¬ (1 : Int32) = 0 by decide)]; rfl
          · rw [bstS_o c d, if_pos (hvb.mpr d), if_pos trivial]; rfl
    · rw [bstS_0 c, c, if_pos (show nI (Bool.toNat false) = (0 : Int32) from rfl)]
      cases o <;> rfl
  · rw [hb]
    unfold gO1B
    rw [if_pos (show (10 : Int32) ≤ (gst (some b) 10).2 from Int32.le_refl _)]
    rfl
