/-! PURE: text: what was read is taken -/
def CPl (l l' : List Int32) (off j : Nat) : Prop := l'.length = l.length ∧ (∀ i, i < j → l'.getD i 0 = l.getD (off + i) 0) ∧ ∀ i, j ≤ i → l'.getD i 0 = l.getD i 0
theorem CPl_0 (l : List Int32) (off : Nat) : CPl l l off 0 := ⟨rfl, fun i hi => absurd hi (Nat.not_lt_zero i), fun _ _ => rfl⟩
theorem CPl_s {l l' : List Int32} {off j : Nat} (h : CPl l l' off j) (hj : j < off) (hl : off + j < l.length) : CPl l (l'.set j (l'.getD (off + j) 0)) off (j + 1) := by
  obtain ⟨h1, h2, h3⟩ := h
  refine ⟨by rw [List.length_set, h1], fun i hi => ?_, fun i hi => ?_⟩
  · by_cases z : i = j
    · subst z
      rw [gd_set_same (by omega), h3 _ (by omega)]
    · rw [gd_set_ne (by omega)]; exact h2 i (by omega)
  · rw [gd_set_ne (by omega)]; exact h3 i (by omega)
def toE3 : MM Int32 :=
  bd (sv 0 3 0) fun _ =>
  pr 0
def toE2 (x1 x2 : Int32) : MM Int32 :=
  (if x1 = 2 then
  bd (sv 0 37 x2) fun _ =>
  toE3
  else
  toE3)
def toE (x1 x2 : Int32) : MM Int32 :=
  (if x1 = 1 then
  bd (sv 0 35 x2) fun _ =>
  toE2 x1 x2
  else
  toE2 x1 x2)
def toB5 (x1 x2 : Int32) : (Int32 → MM Int32) → Int32 → MM Int32 := fun self5 s6 =>
  (if (3 * x2) ≤ s6 then
  toE x1 x2
  else
  (if x1 = 2 then
  bd (la 18 (48 + s6)) fun v13 =>
  bd (sa 18 s6 v13) fun _ =>
  lt (s6 + 1) fun y14 =>
  self5 y14
  else
  toE x1 x2))
def toB1 (x1 x2 : Int32) : (Int32 → MM Int32) → Int32 → MM Int32 := fun self1 s2 =>
  (if (4 * x2) ≤ s2 then
  loopC 100000 (toB5 x1 x2) 0
  else
  (if x1 = 1 then
  bd (la 17 (64 + s2)) fun v15 =>
  bd (sa 17 s2 v15) fun _ =>
  lt (s2 + 1) fun y16 =>
  self1 y16
  else
  loopC 100000 (toB5 x1 x2) 0))
def toB17 (x2 : Int32) : (Int32 → MM Int32) → Int32 → MM Int32 := fun self17 s18 =>
  (if 12 ≤ s18 then
  bd (sv 0 39 x2) fun _ =>
  pr 0
  else
  bd (la 19 (12 + s18)) fun v19 =>
  bd (sa 19 s18 v19) fun _ =>
  lt (s18 + 1) fun y20 =>
  self17 y20)
theorem to_eq (x1 x2 : Int32) : gX11_takesOther x1 x2 = (if x1 = 3 then
  loopC 100000 (toB17 x2) 0
  else
  loopC 100000 (toB1 x1 x2) 0) := rfl
def tlB3 (x1 : Int32) : (Int32 → MM Int32) → Int32 → MM Int32 := fun self3 s4 =>
  bd (ld 0 27) fun v5 =>
  (if v5 ≤ s4 then
  bd (ld 0 26) fun v6 =>
  bd (sa 9 v6 x1) fun _ =>
  pr 0
  else
  bd (ld 0 26) fun v7 =>
  bd (la 14 (800 + s4)) fun v8 =>
  bd (sa 14 ((400 * v7) + s4) v8) fun _ =>
  bd (ld 0 26) fun v9 =>
  bd (la 15 (800 + s4)) fun v10 =>
  bd (sa 15 ((400 * v9) + s4) v10) fun _ =>
  lt (s4 + 1) fun y11 =>
  self3 y11)
def tlB1 (x1 : Int32) : (Int32 → MM Int32) → Int32 → MM Int32 := fun self1 s2 =>
  (if x1 ≤ s2 then
  loopC 100000 (tlB3 x1) 0
  else
  bd (ld 0 26) fun v12 =>
  bd (la 10 (32 + s2)) fun v13 =>
  bd (sa 10 ((16 * v12) + s2) v13) fun _ =>
  bd (ld 0 26) fun v14 =>
  bd (la 11 (32 + s2)) fun v15 =>
  bd (sa 11 ((16 * v14) + s2) v15) fun _ =>
  bd (ld 0 26) fun v16 =>
  bd (la 12 (32 + s2)) fun v17 =>
  bd (sa 12 ((16 * v16) + s2) v17) fun _ =>
  bd (ld 0 26) fun v18 =>
  bd (la 13 (32 + s2)) fun v19 =>
  bd (sa 13 ((16 * v18) + s2) v19) fun _ =>
  lt (s2 + 1) fun y20 =>
  self1 y20)
theorem tl_eq (x1 : Int32) : gX11_takesLaw x1 = loopC 100000 (tlB1 x1) 0 := rfl
set_option maxHeartbeats 800000 in
theorem p_to1 {B : Bk} {k : Nat} (hk : k ≤ 16) (l0 : (B 0).length = 68) (l17 : (B 17).length = 128) : ∃ B', gX11_takesOther 1 (nI k) B = some (0, B') ∧ (∀ q, q ≠ 0 → q ≠ 17 → B' q = B q) ∧ CPl (B 17) (B' 17) 64 (4 * k) ∧ B' 0 = ((B 0).set 35 (nI k)).set 3 0 := by
  rw [to_eq, if_neg (by decide)]
  have y4 : (4 * nI k : Int32) = nI (4 * k) := pk_mul 4 k
  have e5 : ∀ f : Int32 → MM Int32, toB5 1 (nI k) f 0 = toE 1 (nI k) := by
    intro f
    unfold toB5
    by_cases c : (3 * nI k : Int32) ≤ 0
    · rw [if_pos c]
    · rw [if_neg c, if_neg (by decide)]
  have key : Ht (loopC 100000 (toB1 1 (nI k)) 0 B) (fun r B' => r = 0 ∧ (∀ q, q ≠ 0 → q ≠ 17 → B' q = B q) ∧ CPl (B 17) (B' 17) 64 (4 * k) ∧ B' 0 = ((B 0).set 35 (nI k)).set 3 0) := by
    refine loopI (4 * k) (fun j s A => s = nI j ∧ (∀ q, q ≠ 17 → A q = B q) ∧ CPl (B 17) (A 17) 64 j) _ ?_ ?_ (by omega) ⟨rfl, fun _ _ => rfl, CPl_0 _ _⟩
    · rintro j s A hj ⟨rfl, h1, h2⟩
      have la := h2.1
      refine ⟨nI (j + 1), up A 17 ((A 17).set j ((A 17).getD (64 + j) 0)), fun f => ?_, rfl, fun q hq => by rw [up_ne _ _ hq]; exact h1 q hq, by rw [up_same]; exact CPl_s h2 (by omega) (by omega)⟩
      unfold toB1
      rw [y4, if_neg (show ¬ nI (4 * k) ≤ nI j from nI_ge (by omega) (by omega)), if_pos rfl, show (64 + nI j : Int32) = nI (64 + j) from nI_add 64 j, bd_la _ (by omega) (by omega), bd_sa _ (by omega) (by omega), lt_eq, nI_1]
    · rintro s A ⟨rfl, h1, h2⟩ f
      refine ⟨0, up A 0 (((B 0).set 35 (nI k)).set 3 0), ?_, rfl, fun q h0 h17 => by rw [up_ne _ _ h0]; exact h1 q h17, by rw [up_ne _ _ (by decide)]; exact h2, up_same _ _ _⟩
      unfold toB1
      rw [y4, if_pos (Int32.le_refl _), show (100000 : Nat) = 99999 + 1 from rfl, loopC_s, e5]
      have a0 := h1 0 (by decide)
      unfold toE
      rw [if_pos rfl, bd_sv _ (by rw [a0]; omega), a0]
      unfold toE2
      rw [if_neg (by decide)]
      unfold toE3
      rw [bd_sv _ (by rw [up_same, List.length_set]; omega), up_same, up_up]; rfl
  obtain ⟨r, B', e, rfl, h1, h2, h3⟩ := key
  exact ⟨B', e, h1, h2, h3⟩
set_option maxHeartbeats 800000 in
theorem p_to2 {B : Bk} {k : Nat} (hk : k ≤ 16) (l0 : (B 0).length = 68) (l18 : (B 18).length = 96) : ∃ B', gX11_takesOther 2 (nI k) B = some (0, B') ∧ (∀ q, q ≠ 0 → q ≠ 18 → B' q = B q) ∧ CPl (B 18) (B' 18) 48 (3 * k) ∧ B' 0 = ((B 0).set 37 (nI k)).set 3 0 := by
  rw [to_eq, if_neg (by decide)]
  have y3 : (3 * nI k : Int32) = nI (3 * k) := pk_mul 3 k
  have e1 : ∀ f : Int32 → MM Int32, toB1 2 (nI k) f 0 = loopC 100000 (toB5 2 (nI k)) 0 := by
    intro f
    unfold toB1
    by_cases c : (4 * nI k : Int32) ≤ 0
    · rw [if_pos c]
    · rw [if_neg c, if_neg (by decide)]
  have key : Ht (loopC 100000 (toB5 2 (nI k)) 0 B) (fun r B' => r = 0 ∧ (∀ q, q ≠ 0 → q ≠ 18 → B' q = B q) ∧ CPl (B 18) (B' 18) 48 (3 * k) ∧ B' 0 = ((B 0).set 37 (nI k)).set 3 0) := by
    refine loopI (3 * k) (fun j s A => s = nI j ∧ (∀ q, q ≠ 18 → A q = B q) ∧ CPl (B 18) (A 18) 48 j) _ ?_ ?_ (by omega) ⟨rfl, fun _ _ => rfl, CPl_0 _ _⟩
    · rintro j s A hj ⟨rfl, h1, h2⟩
      have la := h2.1
      refine ⟨nI (j + 1), up A 18 ((A 18).set j ((A 18).getD (48 + j) 0)), fun f => ?_, rfl, fun q hq => by rw [up_ne _ _ hq]; exact h1 q hq, by rw [up_same]; exact CPl_s h2 (by omega) (by omega)⟩
      unfold toB5
      rw [y3, if_neg (show ¬ nI (3 * k) ≤ nI j from nI_ge (by omega) (by omega)), if_pos rfl, show (48 + nI j : Int32) = nI (48 + j) from nI_add 48 j, bd_la _ (by omega) (by omega), bd_sa _ (by omega) (by omega), lt_eq, nI_1]
    · rintro s A ⟨rfl, h1, h2⟩ f
      refine ⟨0, up A 0 (((B 0).set 37 (nI k)).set 3 0), ?_, rfl, fun q h0 h17 => by rw [up_ne _ _ h0]; exact h1 q h17, by rw [up_ne _ _ (by decide)]; exact h2, up_same _ _ _⟩
      unfold toB5
      rw [y3, if_pos (Int32.le_refl _)]
      have a0 := h1 0 (by decide)
      unfold toE
      rw [if_neg (by decide)]
      unfold toE2
      rw [if_pos rfl, bd_sv _ (by rw [a0]; omega), a0]
      unfold toE3
      rw [bd_sv _ (by rw [up_same, List.length_set]; omega), up_same, up_up]; rfl
  obtain ⟨r, B', e, rfl, h1, h2, h3⟩ := key
  refine ⟨B', ?_, h1, h2, h3⟩
  rw [show (100000 : Nat) = 99999 + 1 from rfl, loopC_s, e1]
  exact e
set_option maxHeartbeats 800000 in
theorem p_to3 {B : Bk} {k : Nat} (l0 : (B 0).length = 68) (l19 : (B 19).length = 24) : ∃ B', gX11_takesOther 3 (nI k) B = some (0, B') ∧ (∀ q, q ≠ 0 → q ≠ 19 → B' q = B q) ∧ CPl (B 19) (B' 19) 12 12 ∧ B' 0 = (B 0).set 39 (nI k) := by
  rw [to_eq, if_pos rfl]
  have key : Ht (loopC 100000 (toB17 (nI k)) 0 B) (fun r B' => r = 0 ∧ (∀ q, q ≠ 0 → q ≠ 19 → B' q = B q) ∧ CPl (B 19) (B' 19) 12 12 ∧ B' 0 = (B 0).set 39 (nI k)) := by
    refine loopI 12 (fun j s A => s = nI j ∧ (∀ q, q ≠ 19 → A q = B q) ∧ CPl (B 19) (A 19) 12 j) _ ?_ ?_ (by omega) ⟨rfl, fun _ _ => rfl, CPl_0 _ _⟩
    · rintro j s A hj ⟨rfl, h1, h2⟩
      have la := h2.1
      refine ⟨nI (j + 1), up A 19 ((A 19).set j ((A 19).getD (12 + j) 0)), fun f => ?_, rfl, fun q hq => by rw [up_ne _ _ hq]; exact h1 q hq, by rw [up_same]; exact CPl_s h2 (by omega) (by omega)⟩
      unfold toB17
      rw [if_neg (show ¬ (12 : Int32) ≤ nI j from nI_ge (b := 12) hj (by omega)), show (12 + nI j : Int32) = nI (12 + j) from nI_add 12 j, bd_la _ (by omega) (by omega), bd_sa _ (by omega) (by omega), lt_eq, nI_1]
    · rintro s A ⟨rfl, h1, h2⟩ f
      have a0 := h1 0 (by decide)
      refine ⟨0, up A 0 ((B 0).set 39 (nI k)), ?_, rfl, fun q h0 h17 => by rw [up_ne _ _ h0]; exact h1 q h17, by rw [up_ne _ _ (by decide)]; exact h2, up_same _ _ _⟩
      unfold toB17
      rw [if_pos (show (12 : Int32) ≤ nI 12 by decide), bd_sv _ (by rw [a0]; omega), a0]; rfl
  obtain ⟨r, B', e, rfl, h1, h2, h3⟩ := key
  exact ⟨B', e, h1, h2, h3⟩
theorem e16z (j : Nat) : (16 * 0 + nI j : Int32) = nI j := by rw [show (16 * 0 : Int32) = 0 by decide, Int32.zero_add]
theorem e400z (j : Nat) : (400 * 0 + nI j : Int32) = nI j := by rw [show (400 * 0 : Int32) = 0 by decide, Int32.zero_add]
set_option maxHeartbeats 800000 in
theorem p_tl {B : Bk} {l cd : Nat} (hl : l ≤ 16) (hcd : cd ≤ 400) (l0 : (B 0).length = 68) (l9 : (B 9).length = 2) (l10 : (B 10).length = 48) (l11 : (B 11).length = 48) (l12 : (B 12).length = 48) (l13 : (B 13).length = 48) (l14 : (B 14).length = 1200) (l15 : (B 15).length = 1200) (b26 : (B 0).getD 26 0 = 0) (b27 : (B 0).getD 27 0 = nI cd) : ∃ B', gX11_takesLaw (nI l) B = some (0, B') ∧ (∀ q, ¬ (9 ≤ q ∧ q ≤ 15) → B' q = B q) ∧ B' 9 = (B 9).set 0 (nI l) ∧ (CPl (B 10) (B' 10) 32 l ∧ CPl (B 11) (B' 11) 32 l ∧ CPl (B 12) (B' 12) 32 l ∧ CPl (B 13) (B' 13) 32 l) ∧ CPl (B 14) (B' 14) 800 cd ∧ CPl (B 15) (B' 15) 800 cd := by
  rw [tl_eq]
  have inner : ∀ A : Bk, (∀ q, ¬ (10 ≤ q ∧ q ≤ 13) → A q = B q) → Ht (loopC 100000 (tlB3 (nI l)) 0 A) (fun r B' => r = 0 ∧ (∀ q, q ≠ 9 → q ≠ 14 → q ≠ 15 → B' q = A q) ∧ B' 9 = (B 9).set 0 (nI l) ∧ CPl (B 14) (B' 14) 800 cd ∧ CPl (B 15) (B' 15) 800 cd) := by
    intro A hA
    refine loopI cd (fun j s C => s = nI j ∧ (∀ q, q ≠ 14 → q ≠ 15 → C q = A q) ∧ CPl (B 14) (C 14) 800 j ∧ CPl (B 15) (C 15) 800 j) _ ?_ ?_ (by omega) ⟨rfl, fun _ _ _ => rfl, by rw [hA 14 (by decide)]; exact CPl_0 _ _, by rw [hA 15 (by decide)]; exact CPl_0 _ _⟩
    · rintro j s C hj ⟨rfl, h1, h2, h3⟩
      have a2 := h2.1
      have a3 := h3.1
      have c0 : C 0 = B 0 := by rw [h1 0 (by decide) (by decide), hA 0 (by decide)]
      refine ⟨nI (j + 1), up (up C 14 ((C 14).set j ((C 14).getD (800 + j) 0))) 15 ((C 15).set j ((C 15).getD (800 + j) 0)), fun f => ?_, rfl, fun q h14 h15 => by rw [up_ne _ _ h15, up_ne _ _ h14]; exact h1 q h14 h15, by rw [up_ne _ _ (by decide), up_same]; exact CPl_s h2 (by omega) (by omega), by rw [up_same]; exact CPl_s h3 (by omega) (by omega)⟩
      unfold tlB3
      rw [bd_ld _ (by rw [c0]; omega), c0, b27, if_neg (show ¬ nI cd ≤ nI j from nI_ge (by omega) (by omega)), bd_ld _ (by rw [c0]; omega), c0, b26, e400z, show (800 + nI j : Int32) = nI (800 + j) from nI_add 800 j, bd_la _ (by omega) (by omega), bd_sa _ (by omega) (by omega)]
      obtain ⟨D, hD⟩ : ∃ D, up C 14 ((C 14).set j ((C 14).getD (800 + j) 0)) = D := ⟨_, rfl⟩
      have d0 : D 0 = B 0 := by rw [← hD, ← c0]; rfl
      have d15 : D 15 = C 15 := by rw [← hD]; rfl
      rw [hD, bd_ld _ (by rw [d0]; omega), d0, b26, e400z, bd_la _ (by rw [d15]; omega) (by rw [d15]; omega), bd_sa _ (by rw [d15]; omega) (by rw [d15]; omega), d15, lt_eq, nI_1]
    · rintro s C ⟨rfl, h1, h2, h3⟩ f
      have c0 : C 0 = B 0 := by rw [h1 0 (by decide) (by decide), hA 0 (by decide)]
      have c9 : C 9 = B 9 := by rw [h1 9 (by decide) (by decide), hA 9 (by decide)]
      refine ⟨0, up C 9 ((B 9).set 0 (nI l)), ?_, rfl, fun q h9 h14 h15 => by rw [up_ne _ _ h9]; exact h1 q h14 h15, up_same _ _ _, by rw [up_ne _ _ (by decide)]; exact h2, by rw [up_ne _ _ (by decide)]; exact h3⟩
      unfold tlB3
      rw [bd_ld _ (by rw [c0]; omega), c0, b27, if_pos (Int32.le_refl _), bd_ld _ (by rw [c0]; omega), c0, b26, show (0 : Int32) = nI 0 from rfl, bd_sa _ (by rw [c9]; omega) (by rw [c9]; omega), c9]; rfl
  have key : Ht (loopC 100000 (tlB1 (nI l)) 0 B) (fun r B' => r = 0 ∧ (∀ q, ¬ (9 ≤ q ∧ q ≤ 15) → B' q = B q) ∧ B' 9 = (B 9).set 0 (nI l) ∧ (CPl (B 10) (B' 10) 32 l ∧ CPl (B 11) (B' 11) 32 l ∧ CPl (B 12) (B' 12) 32 l ∧ CPl (B 13) (B' 13) 32 l) ∧ CPl (B 14) (B' 14) 800 cd ∧ CPl (B 15) (B' 15) 800 cd) := by
    refine loopI l (fun j s A => s = nI j ∧ (∀ q, ¬ (10 ≤ q ∧ q ≤ 13) → A q = B q) ∧ CPl (B 10) (A 10) 32 j ∧ CPl (B 11) (A 11) 32 j ∧ CPl (B 12) (A 12) 32 j ∧ CPl (B 13) (A 13) 32 j) _ ?_ ?_ (by omega) ⟨rfl, fun _ _ => rfl, CPl_0 _ _, CPl_0 _ _, CPl_0 _ _, CPl_0 _ _⟩
    · rintro j s A hj ⟨rfl, h1, g10, g11, g12, g13⟩
      have a10 := g10.1
      have a11 := g11.1
      have a12 := g12.1
      have a13 := g13.1
      have a0 := h1 0 (by decide)
      refine ⟨nI (j + 1), up (up (up (up A 10 ((A 10).set j ((A 10).getD (32 + j) 0))) 11 ((A 11).set j ((A 11).getD (32 + j) 0))) 12 ((A 12).set j ((A 12).getD (32 + j) 0))) 13 ((A 13).set j ((A 13).getD (32 + j) 0)), fun f => ?_, rfl, fun q hq => by rw [up_ne _ _ (by omega), up_ne _ _ (by omega), up_ne _ _ (by omega), up_ne _ _ (by omega)]; exact h1 q hq, ?_, ?_, ?_, ?_⟩
      · unfold tlB1
        rw [if_neg (show ¬ nI l ≤ nI j from nI_ge (by omega) (by omega)), bd_ld _ (by rw [a0]; omega), a0, b26, e16z, show (32 + nI j : Int32) = nI (32 + j) from nI_add 32 j, bd_la _ (by omega) (by omega), bd_sa _ (by omega) (by omega)]
        obtain ⟨C, hC⟩ : ∃ C, up A 10 ((A 10).set j ((A 10).getD (32 + j) 0)) = C := ⟨_, rfl⟩
        have c0 : C 0 = B 0 := by rw [← hC, ← a0]; rfl
        have c11 : C 11 = A 11 := by rw [← hC]; rfl
        have c12 : C 12 = A 12 := by rw [← hC]; rfl
        have c13 : C 13 = A 13 := by rw [← hC]; rfl
        rw [hC, bd_ld _ (by rw [c0]; omega), c0, b26, e16z, bd_la _ (by rw [c11]; omega) (by rw [c11]; omega), bd_sa _ (by rw [c11]; omega) (by rw [c11]; omega), c11]
        obtain ⟨D, hD⟩ : ∃ D, up C 11 ((A 11).set j ((A 11).getD (32 + j) 0)) = D := ⟨_, rfl⟩
        have d0 : D 0 = B 0 := by rw [← hD, ← c0]; rfl
        have d12 : D 12 = A 12 := by rw [← hD, ← c12]; rfl
        have d13 : D 13 = A 13 := by rw [← hD, ← c13]; rfl
        rw [hD, bd_ld _ (by rw [d0]; omega), d0, b26, e16z, bd_la _ (by rw [d12]; omega) (by rw [d12]; omega), bd_sa _ (by rw [d12]; omega) (by rw [d12]; omega), d12]
        obtain ⟨E, hE⟩ : ∃ E, up D 12 ((A 12).set j ((A 12).getD (32 + j) 0)) = E := ⟨_, rfl⟩
        have e0 : E 0 = B 0 := by rw [← hE, ← d0]; rfl
        have e13 : E 13 = A 13 := by rw [← hE, ← d13]; rfl
        rw [hE, bd_ld _ (by rw [e0]; omega), e0, b26, e16z, bd_la _ (by rw [e13]; omega) (by rw [e13]; omega), bd_sa _ (by rw [e13]; omega) (by rw [e13]; omega), e13, lt_eq, nI_1]
      · rw [up_ne _ _ (by decide), up_ne _ _ (by decide), up_ne _ _ (by decide), up_same]; exact CPl_s g10 (by omega) (by omega)
      · rw [up_ne _ _ (by decide), up_ne _ _ (by decide), up_same]; exact CPl_s g11 (by omega) (by omega)
      · rw [up_ne _ _ (by decide), up_same]; exact CPl_s g12 (by omega) (by omega)
      · rw [up_same]; exact CPl_s g13 (by omega) (by omega)
    · rintro s A ⟨rfl, h1, g10, g11, g12, g13⟩ f
      obtain ⟨r, B', e, rfl, z1, z2, z3, z4⟩ := inner A h1
      refine ⟨0, B', ?_, rfl, fun q hq => by rw [z1 q (by omega) (by omega) (by omega)]; exact h1 q (by omega), z2, ⟨by rw [z1 10 (by decide) (by decide) (by decide)]; exact g10, by rw [z1 11 (by decide) (by decide) (by decide)]; exact g11, by rw [z1 12 (by decide) (by decide) (by decide)]; exact g12, by rw [z1 13 (by decide) (by decide) (by decide)]; exact g13⟩, z3, z4⟩
      unfold tlB1
      rw [if_pos (Int32.le_refl _)]
      exact e
  obtain ⟨r, B', e, rfl, h1, h2, h3, h4, h5⟩ := key
  exact ⟨B', e, h1, h2, h3, h4, h5⟩
