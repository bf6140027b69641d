/-! PURE: turnings, the reference: numbers of orders -/
def nO2B (s2 : Int32 × Int32) (self1 : (Int32 × Int32) → MM Int32) : (Int32 × Int32 → MM Int32) → Int32 × Int32 → MM Int32 := fun (self5 : Int32 × Int32 → MM Int32) (s6 : Int32 × Int32) =>
  bd (ld 0 46) fun v7 =>
  (if v7 ≤ s6.2 then
  bd (ld 0 46) fun v8 =>
  lt ((s2.1 * (v8 - s2.2)) + s6.1) fun y9 =>
  lt (s2.2 + 1) fun y10 =>
  self1 (y9, y10)
  else
  bd (la 24 s6.2) fun v11 =>
  bd (la 24 s2.2) fun v12 =>
  jn (fun (a14 : Int32) =>
  lt (s6.2 + 1) fun y15 =>
  self5 (a14, y15)) (fun j13 =>
  (if v12 ≤ v11 then
  j13 s6.1
  else
  lt (s6.1 + 1) fun y16 =>
  j13 y16)))
def nO2 (s2 : Int32 × Int32) (self1 : (Int32 × Int32) → MM Int32) (y4 : Int32) : MM Int32 := loopC 100000 (nO2B s2 self1) (0, y4)
def nO1B : (Int32 × Int32 → MM Int32) → Int32 × Int32 → MM Int32 := fun (self1 : Int32 × Int32 → MM Int32) (s2 : Int32 × Int32) =>
  bd (ld 0 46) fun v3 =>
  (if v3 ≤ s2.2 then
  pr s2.1
  else
  lt (s2.2 + 1) fun y4 =>
  (nO2 s2 self1 y4))
def nO1 : MM Int32 := loopC 100000 (nO1B) (0, 0)
theorem nO_eq : gX11_numberOfOrder =
  (nO1) := rfl
def tN2B (s4 : Int32 × Int32) (self3 : (Int32 × Int32) → MM Int32) (y7 : Int32) : (Int32 → MM Int32) → Int32 → MM Int32 := fun (self9 : Int32 → MM Int32) (s10 : Int32) =>
  bd (ld 0 46) fun v11 =>
  (if v11 ≤ s10 then
  lt (s4.2 + (-1)) fun y12 =>
  self3 (y7, y12)
  else
  bd (la 24 s10) fun v13 =>
  bd (la 24 s4.2) fun v14 =>
  jn (fun (a16 : Unit) =>
  lt (s10 + 1) fun y17 =>
  self9 y17) (fun j15 =>
  (if v13 < v14 then
  j15 ()
  else
  bd (la 24 s10) fun v18 =>
  bd (sa 24 s10 (v18 + 1)) fun _ =>
  j15 ())))
def tN2 (s4 : Int32 × Int32) (self3 : (Int32 × Int32) → MM Int32) (y7 : Int32) (y8 : Int32) : MM Int32 := loopC 100000 (tN2B s4 self3 y7) y8
def tN1B : (Int32 × Int32 → MM Int32) → Int32 × Int32 → MM Int32 := fun (self3 : Int32 × Int32 → MM Int32) (s4 : Int32 × Int32) =>
  (if s4.2 < 0 then
  pr 0
  else
  bd (ld 0 46) fun v5 =>
  nz (v5 - s4.2) (
  bd (sa 24 s4.2 (irm s4.1 (v5 - s4.2))) fun _ =>
  bd (ld 0 46) fun v6 =>
  nz (v6 - s4.2) (
  lt (s4.1 / (v6 - s4.2)) fun y7 =>
  lt (s4.2 + 1) fun y8 =>
  (tN2 s4 self3 y7 y8))))
def tN1 (x1 : Int32) (y2 : Int32) : MM Int32 := loopC 100000 (tN1B) (x1, y2)
theorem tN_eq (x1 : Int32) : gX11_takesNumber x1 =
  bd (ld 0 46) fun v1 =>
  lt (v1 - 1) fun y2 =>
  (tN1 x1 y2) := rfl
def tF1B (x1 : Int32) : (Int32 → MM Int32) → Int32 → MM Int32 := fun (self1 : Int32 → MM Int32) (s2 : Int32) =>
  nz 2 (
  (if (x1 / 2) ≤ s2 then
  pr 0
  else
  bd (la 24 s2) fun v3 =>
  bd (la 24 ((x1 - 1) - s2)) fun v4 =>
  bd (sa 24 s2 v4) fun _ =>
  bd (sa 24 ((x1 - 1) - s2) v3) fun _ =>
  lt (s2 + 1) fun y5 =>
  self1 y5))
def tF1 (x1 : Int32) : MM Int32 := loopC 100000 (tF1B x1) 0
theorem tF_eq (x1 : Int32) : gX11_turnsFirst x1 =
  (tF1 x1) := rfl
def tG1B : (Int32 × Int32 → MM Int32) → Int32 × Int32 → MM Int32 := fun (self5 : Int32 × Int32 → MM Int32) (s6 : Int32 × Int32) =>
  bd (ld 0 46) fun v7 =>
  (if v7 ≤ s6.2 then
  pr s6.1
  else
  bd (la 24 s6.2) fun v8 =>
  bd (la 24 (s6.2 - 1)) fun v9 =>
  jn (fun (a11 : Int32) =>
  lt (s6.2 + 1) fun y12 =>
  self5 (a11, y12)) (fun j10 =>
  (if (v8 - v9) = 1 then
  j10 s6.1
  else
  bd (la 24 (s6.2 - 1)) fun v13 =>
  bd (la 24 s6.2) fun v14 =>
  (if (v13 - v14) = 1 then
  j10 s6.1
  else
  lt (s6.1 + 1) fun y15 =>
  j10 y15))))
def tG1 : MM Int32 := loopC 100000 (tG1B) (0, 1)
theorem tG_eq (x1 x2 : Int32) : gX11_turnings x1 x2 =
  bd (sv 0 0 0) fun _ =>
  bd (gX11_isIn x2 0 1) fun r1 =>
  jn (fun (a3 : Unit) =>
  pr (-1 : Int32)) (fun j2 =>
  (if r1 = 0 then
  j2 ()
  else
  bd (gX11_takesOrder x1) fun r4 =>
  (if r4 = 0 then
  j2 ()
  else
  (if x2 = 0 then
  bd gX11_fewestTurnings fun r16 =>
  pr r16
  else
  (tG1))))) := rfl
theorem cntP_N (f : Nat → Bool) : ∀ l : List Nat, l.countP f = cntN (fun k => f (l.getD k 0)) l.length
  | [] => rfl
  | x :: t => by
    have h := cnt_split (fun k => f ((x :: t).getD k 0)) 1 t.length
    rw [List.countP_cons, cntP_N f t, List.length_cons, Nat.add_comm t.length 1, h]
    have e : cntN (fun i => f ((x :: t).getD (1 + i) 0)) t.length = cntN (fun k => f (t.getD k 0)) t.length := cnt_congr (fun i _ => by
      show f ((x :: t).getD (1 + i) 0) = f (t.getD i 0)
      rw [Nat.add_comm 1 i]; rfl)
    rw [e]
    show cntN (fun k => f (t.getD k 0)) t.length + (if f x = true then 1 else 0) = (if f x = true then 0 + 1 else 0) + cntN (fun k => f (t.getD k 0)) t.length
    by_cases c : f x = true
    · rw [if_pos c]; omega
    · rw [if_neg c]; omega
def lesS (p : List Nat) (i : Nat) : Nat → Bool := fun k => decide (p.getD (i + 1 + k) 0 < p.getD i 0)
def rkS (p : List Nat) : Nat → Nat := fo (fun i v => v * (p.length - i) + cntN (lesS p i) (p.length - (i + 1))) 0
theorem rk_drop (p : List Nat) : ∀ i, i ≤ p.length → rk (p.drop i) (rkS p i) = rk p 0
  | 0, _ => rfl
  | i + 1, hi => by
    rw [← rk_drop p i (by omega)]
    have e : p.drop i = p.getD i 0 :: p.drop (i + 1) := by
      rw [List.drop_eq_getElem_cons (by omega), List.getD_eq_getElem?_getD, List.getElem?_eq_getElem (by omega)]; rfl
    rw [e]
    show rk (p.drop (i + 1)) (rkS p i * (p.length - i) + cntN (lesS p i) (p.length - (i + 1))) = rk (p.drop (i + 1)) (rkS p i * ((p.drop (i + 1)).length + 1) + (p.drop (i + 1)).countP fun z => decide (z < p.getD i 0))
    rw [cntP_N, List.length_drop, show p.length - (i + 1) + 1 = p.length - i by omega]
    have e2 : cntN (fun k => decide ((p.drop (i + 1)).getD k 0 < p.getD i 0)) (p.length - (i + 1)) = cntN (lesS p i) (p.length - (i + 1)) := cnt_congr (fun k hk => by
      unfold lesS
      rw [List.getD_eq_getElem?_getD, List.getElem?_drop, ← List.getD_eq_getElem?_getD])
    rw [e2]
set_option maxHeartbeats 400000 in
theorem p_nO {n : Nat} {B : Bk} {p : List Nat} (h0 : (B 0).length = 68) (hn : (B 0).getD 46 0 = nI n) (n7 : n ≤ 7) (h : RL n (B 24) p) (hp : ∀ q, q < n → p.getD q 0 < 10) : gX11_numberOfOrder B = some (nI (rk p 0), B) := by
  obtain ⟨hl, hpl, hg⟩ := h
  rw [nO_eq]
  unfold nO1
  refine loopF n (fun i => (nI (rkS p i), nI i)) (fun _ => B) rfl rfl (fun i hi self => ?_) (fun self => ?_) (by omega)
  · unfold nO1B
    simp only [lt_eq]
    rw [bd_ld _ (by omega), hn, if_neg (nI_ge hi (by omega)), nI_1]
    unfold nO2
    refine loopF (n - (i + 1)) (fun m => (nI (cntN (lesS p i) m), nI (i + 1 + m))) (fun _ => B) rfl rfl (fun m hm self2 => ?_) (fun self2 => ?_) (by omega)
    · have hc : cntN (lesS p i) (m + 1) = if lesS p i m = true then cntN (lesS p i) m + 1 else cntN (lesS p i) m := rfl
      have b1 := hp (i + 1 + m) (by omega)
      have b2 := hp i hi
      unfold nO2B
      simp only [lt_eq, jn_eq]
      rw [bd_ld _ (by omega), hn, if_neg (nI_ge (by omega) (by omega)), bd_la _ (by omega) (by omega), bd_la _ (by omega) (by omega), hg _ (by omega), hg _ (by omega), hc]
      unfold lesS
      by_cases c : p.getD (i + 1 + m) 0 < p.getD i 0
      · rw [if_neg (nI_ge c (by omega)), if_pos (decide_eq_true c), nI_1, nI_1]; rfl
      · rw [if_pos ((nI_leI (by omega) (by omega)).mpr (by omega)), if_neg (fun q => c (of_decide_eq_true q)), nI_1]; rfl
    · unfold nO2B
      simp only [lt_eq]
      rw [bd_ld _ (by omega), hn, show i + 1 + (n - (i + 1)) = n by omega, if_pos (Int32.le_refl _), bd_ld _ (by omega), hn, pk_sub (by omega), pk_mul, nI_add, nI_1]
      rw [← hpl]; rfl
  · unfold nO1B
    rw [bd_ld _ (by omega), hn, if_pos (Int32.le_refl _), ← rk_drop p n (by omega), List.drop_eq_nil_of_le (by omega)]; rfl
theorem un_ok (v : Nat) : ∀ j, (un v j).1.length = j ∧ (∀ q, q < j → (un v j).1.getD q 0 < j) ∧ (un v j).2 ≤ v
  | 0 => ⟨rfl, fun q hq => absurd hq (Nat.not_lt_zero q), Nat.le_refl _⟩
  | j + 1 => by
    obtain ⟨h1, h2, h3⟩ := un_ok v j
    obtain ⟨s, hs⟩ : ∃ s, un v j = s := ⟨_, rfl⟩
    have e : un v (j + 1) = (s.2 % (j + 1) :: bmp (s.2 % (j + 1)) s.1, s.2 / (j + 1)) := by rw [← hs]; rfl
    rw [hs] at h1 h2 h3
    rw [e]
    refine ⟨by show (bmp _ s.1).length + 1 = _; unfold bmp; rw [List.length_map, h1], fun q hq => ?_, Nat.le_trans (Nat.div_le_self _ _) h3⟩
    have hm := Nat.mod_lt s.2 (show 0 < j + 1 by omega)
    cases q with
    | zero => exact hm
    | succ q =>
      have := h2 q (by omega)
      show (bmp (s.2 % (j + 1)) s.1).getD q 0 < j + 1
      unfold bmp
      rw [List.getD_eq_getElem?_getD, List.getElem?_map, List.getElem?_eq_getElem (by omega)]
      rw [List.getD_eq_getElem?_getD, List.getElem?_eq_getElem (by omega)] at this
      show (if _ ≤ s.1[q] then s.1[q] + 1 else s.1[q]) < j + 1
      have this : s.1[q] < j := this
      split <;> omega
theorem bmp_get {d q : Nat} {L : List Nat} (h : q < L.length) : (bmp d L).getD q 0 = if d ≤ L.getD q 0 then L.getD q 0 + 1 else L.getD q 0 := by
  unfold bmp
  rw [List.getD_eq_getElem?_getD, List.getElem?_map, List.getElem?_eq_getElem h, List.getD_eq_getElem?_getD, List.getElem?_eq_getElem h]; rfl
def bL (i : Nat) : List Int32 → Nat → List Int32 := fo (fun m l => if l.getD (i + 1 + m) 0 < l.getD i 0 then l else l.set (i + 1 + m) (l.getD (i + 1 + m) 0 + 1))
set_option maxHeartbeats 400000 in
theorem bL_get {i j d : Nat} {l : List Int32} {L : Nat → Nat} (hl : l.length = 7) (hij : i + 1 + j ≤ 7) (hd : d < 100) (hL : ∀ q, q < j → L q < 100) (h1 : l.getD i 0 = nI d) (h2 : ∀ q, q < j → l.getD (i + 1 + q) 0 = nI (L q)) : ∀ m, m ≤ j → (bL i l m).length = 7 ∧ (bL i l m).getD i 0 = nI d ∧ ∀ q, q < j → (bL i l m).getD (i + 1 + q) 0 = nI (if q < m ∧ d ≤ L q then L q + 1 else L q)
  | 0, _ => ⟨hl, h1, fun q hq => by rw [if_neg (fun z => by omega)]; exact h2 q hq⟩
  | m + 1, hm => by
    obtain ⟨g1, g2, g3⟩ := bL_get hl hij hd hL h1 h2 m (by omega)
    obtain ⟨b, hb⟩ : ∃ b, bL i l m = b := ⟨_, rfl⟩
    have e : bL i l (m + 1) = if b.getD (i + 1 + m) 0 < b.getD i 0 then b else b.set (i + 1 + m) (b.getD (i + 1 + m) 0 + 1) := by rw [← hb]; rfl
    rw [hb] at g1 g2 g3
    have gm := g3 m (by omega)
    rw [if_neg (fun z => by omega)] at gm
    have hLm := hL m (by omega)
    rw [e, gm, g2]
    by_cases c : L m < d
    · rw [if_pos (nI_lt c (by omega))]
      refine ⟨g1, g2, fun q hq => ?_⟩
      rw [g3 q hq]
      by_cases e2 : q = m
      · subst e2; rw [if_neg (fun z => by omega), if_neg (fun z => by omega)]
      · by_cases c3 : q < m ∧ d ≤ L q
        · rw [if_pos c3, if_pos ⟨by omega, c3.2⟩]
        · rw [if_neg c3, if_neg (fun z => c3 ⟨by omega, z.2⟩)]
    · rw [if_neg (nI_nlt (by omega) (by omega)), nI_1]
      refine ⟨by rw [List.length_set, g1], by rw [gd_set_ne (by omega)]; exact g2, fun q hq => ?_⟩
      by_cases e2 : q = m
      · subst e2; rw [gd_set_same (by omega), if_pos ⟨by omega, by omega⟩]
      · rw [gd_set_ne (by omega), g3 q hq]
        by_cases c3 : q < m ∧ d ≤ L q
        · rw [if_pos c3, if_pos ⟨by omega, c3.2⟩]
        · rw [if_neg c3, if_neg (fun z => c3 ⟨by omega, z.2⟩)]
set_option maxHeartbeats 400000 in
theorem p_tN2 {n i j d : Nat} {b : List Int32} {B : Bk} {L : Nat → Nat} (h0 : (B 0).length = 68) (hn : (B 0).getD 46 0 = nI n) (n7 : n ≤ 7) (hij : i + 1 + j = n) (hb : b.length = 7) (hd : d < 100) (hL : ∀ q, q < j → L q < 100) (h1 : b.getD i 0 = nI d) (h2 : ∀ q, q < j → b.getD (i + 1 + q) 0 = nI (L q)) (w y : Int32) (f : Int32 × Int32 → MM Int32) : tN2 (w, nI i) f y (nI (i + 1)) (up B 24 b) = f (y, nI i + (-1)) (up B 24 (bL i b j)) := by
  have hB := bL_get (L := L) hb (show i + 1 + j ≤ 7 by omega) hd hL h1 h2
  unfold tN2
  refine loopF j (fun m => nI (i + 1 + m)) (fun m => up B 24 (bL i b m)) rfl rfl (fun m hm2 self => ?_) (fun self => ?_) (by omega)
  · obtain ⟨w1, w2, w3⟩ := hB m (by omega)
    have w3m := w3 m hm2
    obtain ⟨b2, hb2⟩ : ∃ b2, bL i b m = b2 := ⟨_, rfl⟩
    have e2 : bL i b (m + 1) = if b2.getD (i + 1 + m) 0 < b2.getD i 0 then b2 else b2.set (i + 1 + m) (b2.getD (i + 1 + m) 0 + 1) := by rw [← hb2]; rfl
    rw [e2]
    rw [hb2] at w1 ⊢
    have hU : (up B 24 b2 24).length = 7 := by rw [up_same]; exact w1
    unfold tN2B
    simp only [lt_eq, jn_eq]
    rw [bd_ld _ (show 46 < (up B 24 b2 0).length by show 46 < (B 0).length; omega), show (up B 24 b2 0).getD 46 0 = nI n from hn, if_neg (nI_ge (by omega) (by omega)), bd_la _ (by omega) (by omega), bd_la _ (by omega) (by omega), up_same]
    by_cases c : b2.getD (i + 1 + m) 0 < b2.getD i 0
    · rw [if_pos c, if_pos c, nI_1]; rfl
    · rw [if_neg c, if_neg c, bd_la _ (by omega) (by omega), up_same, bd_sa _ (by omega) (by omega), up_up, up_same, nI_1]; rfl
  · unfold tN2B
    simp only [lt_eq]
    rw [bd_ld _ (show 46 < (up B 24 (bL i b j) 0).length by show 46 < (B 0).length; omega), show (up B 24 (bL i b j) 0).getD 46 0 = nI n from hn, hij, if_pos (Int32.le_refl _)]
set_option maxHeartbeats 400000 in
theorem p_tN {n v : Nat} {B : Bk} (h0 : (B 0).length = 68) (hn : (B 0).getD 46 0 = nI n) (n1 : 1 ≤ n) (n7 : n ≤ 7) (hl : (B 24).length = 7) (hv : v < 2 ^ 31) : ∃ l, gX11_takesNumber (nI v) B = some (0, up B 24 l) ∧ RL n l (un v n).1 := by
  have key : Ht (tN1 (nI v) (nI n - 1) B) (fun r B' => r = 0 ∧ ∃ l, B' = up B 24 l ∧ RL n l (un v n).1) := by
    unfold tN1
    refine loopI n (fun j s A' => s = (nI (un v j).2, nI n - nI (j + 1)) ∧ ∃ l, A' = up B 24 l ∧ l.length = 7 ∧ ∀ q, q < j → l.getD (n - j + q) 0 = nI ((un v j).1.getD q 0)) _ (fun j s A' hj hI => ?_) (fun s A' hI f => ?_) (by omega) ⟨rfl, B 24, (up_self B 24).symm, hl, fun q hq => absurd hq (Nat.not_lt_zero q)⟩
    · obtain ⟨rfl, l, rfl, h1, h2⟩ := hI
      obtain ⟨u1, u2, u3⟩ := un_ok v j
      have e : un v (j + 1) = ((un v j).2 % (j + 1) :: bmp ((un v j).2 % (j + 1)) (un v j).1, (un v j).2 / (j + 1)) := rfl
      obtain ⟨s, hs⟩ : ∃ s, un v j = s := ⟨_, rfl⟩
      rw [hs] at u1 u2 u3 e h2 ⊢
      have hm := Nat.mod_lt s.2 (show 0 < j + 1 by omega)
      obtain ⟨i, hi⟩ : ∃ i, n - (j + 1) = i := ⟨_, rfl⟩
      obtain ⟨b, hb⟩ : ∃ b, b = l.set i (nI (s.2 % (j + 1))) := ⟨_, rfl⟩
      have hbl : b.length = 7 := by rw [hb, List.length_set, h1]
      have hb0 : b.getD i 0 = nI (s.2 % (j + 1)) := by rw [hb, gd_set_same (by omega)]
      have hb1 : ∀ q, q < j → b.getD (i + 1 + q) 0 = nI (s.1.getD q 0) := fun q hq => by
        rw [hb, gd_set_ne (by omega), ← h2 q hq]; congr 1; omega
      have hB := bL_get (L := fun q => s.1.getD q 0) hbl (show i + 1 + j ≤ 7 by omega) (by omega) (fun q hq => by have := u2 q hq; show s.1.getD q 0 < 100; omega) hb0 hb1
      refine ⟨(nI (s.2 / (j + 1)), nI n - nI (j + 1 + 1)), up B 24 (bL i b j), fun f => ?_, by rw [e], bL i b j, rfl, (hB j (Nat.le_refl _)).1, fun q hq => ?_⟩
      · have hU : (up B 24 l 24).length = 7 := by rw [up_same]; exact h1
        have k0 : nI n - nI i = nI (j + 1) := by rw [pk_sub (by omega)]; congr 1; omega
        have c1 : (up B 24 l 0).getD 46 0 = nI n := hn
        have c2 : (up B 24 b 0).getD 46 0 = nI n := hn
        have c3 : 46 < (up B 24 l 0).length := by show 46 < (B 0).length; omega
        have c4 : 46 < (up B 24 b 0).length := by show 46 < (B 0).length; omega
        have hin := p_tN2 (L := fun q => s.1.getD q 0) (d := s.2 % (j + 1)) h0 hn n7 (show i + 1 + j = n by omega) hbl (by omega) (fun q hq => by have := u2 q hq; show s.1.getD q 0 < 100; omega) hb0 hb1 (nI s.2) (nI (s.2 / (j + 1))) f
        have z : ¬ nI (j + 1) = 0 := nI_ne0 (by omega) (by omega)
        have k3 : nI i + (-1) = nI n - nI (j + 1 + 1) := by
          rw [← sub_m1, pk_sub (by omega), hi]
        have k4 : nI s.2 / nI (j + 1) = nI (s.2 / (j + 1)) := pk_div (by omega) (by omega) (by omega)
        have k5 : irm (nI s.2) (nI (j + 1)) = nI (s.2 % (j + 1)) := rem_e (by omega) (by omega) (by omega)
        rw [k3] at hin
        rw [← hin, pk_sub (by omega), hi]
        unfold tN1B
        rw [if_neg (nI_pos (by omega)), bd_ld _ c3, c1, k0, nz_fn z, k5, bd_sa _ (by omega) (by omega), up_up, up_same, ← hb, bd_ld _ c4, c2, k0, nz_fn z, k4, lt_eq, lt_eq, nI_1]
      · obtain ⟨w1, w2, w3⟩ := hB j (Nat.le_refl _)
        rw [e]
        cases q with
        | zero => rw [show n - (j + 1) + 0 = i by omega]; exact w2
        | succ q =>
          have := w3 q (by omega)
          rw [show n - (j + 1) + (q + 1) = i + 1 + q by omega, this]
          show _ = nI ((bmp (s.2 % (j + 1)) s.1).getD q 0)
          rw [bmp_get (by omega)]
          by_cases c : s.2 % (j + 1) ≤ s.1.getD q 0
          · rw [if_pos c, if_pos ⟨by omega, c⟩]
          · rw [if_neg c, if_neg (fun z => c z.2)]
    · obtain ⟨rfl, l, rfl, h1, h2⟩ := hI
      refine ⟨0, _, ?_, rfl, l, rfl, h1, (un_ok v n).1, fun q hq => ?_⟩
      · unfold tN1B
        rw [if_pos (show nI n - nI (n + 1) < 0 from pk_sneg (by omega) (by omega))]; rfl
      · have := h2 q hq
        rwa [Nat.sub_self, Nat.zero_add] at this
  obtain ⟨r, B', g1, rfl, l, rfl, hR⟩ := key
  refine ⟨l, ?_, hR⟩
  rw [tN_eq, bd_ld _ (by omega), hn]
  simp only [lt_eq]
  exact g1
set_option maxHeartbeats 400000 in
theorem p_tF {f : Nat} {T : Bk} (hl : (T 24).length = 7) (h2 : 2 ≤ f) (hf : f ≤ 7) : gX11_turnsFirst (nI f) T = some (0, up T 24 (flp f (T 24))) := by
  rw [tF_eq]
  unfold tF1
  refine loopF (f / 2) nI (fun j => up T 24 (swF f (T 24) j)) rfl (up_self T 24) (fun j hj self => ?_) (fun self => ?_) (by omega)
  · obtain ⟨m, hm⟩ : ∃ m, swF f (T 24) j = m := ⟨_, rfl⟩
    have hml : m.length = 7 := by rw [← hm, swF_len, hl]
    have hs : swF f (T 24) (j + 1) = swS f j m := by rw [← hm]; rfl
    have e1 : (nI f - 1 - nI j : Int32) = nI (f - 1 - j) := by
      rw [show (1 : Int32) = nI 1 from rfl, pk_sub (by omega), pk_sub (by omega)]
    rw [hs, hm]
    have hU : (up T 24 m 24).length = 7 := by rw [up_same]; exact hml
    unfold tF1B
    simp only [nz_fn (show ¬ (2 : Int32) = 0 by decide), lt_eq]
    rw [half (by omega), if_neg (nI_ge hj (by omega)), bd_la _ (by omega) (by omega), e1, bd_la _ (by omega) (by omega), bd_sa _ (by omega) (by omega), up_up, up_same, bd_sa _ (by rw [up_same, List.length_set]; omega) (by rw [up_same, List.length_set]; omega), up_up, up_same, nI_1]
    rfl
  · unfold tF1B
    simp only [nz_fn (show ¬ (2 : Int32) = 0 by decide)]
    rw [half (by omega), if_pos (Int32.le_refl _), swF_end hl hf]; rfl
set_option maxHeartbeats 400000 in
theorem p_next {n f : Nat} {B : Bk} {y : List Nat} (h0 : (B 0).length = 68) (hn : (B 0).getD 46 0 = nI n) (n1 : 1 ≤ n) (n7 : n ≤ 7) (hl : (B 24).length = 7) (hy : Pm n y) (hv : rk y 0 < 2 ^ 31) (h2 : 2 ≤ f) (hf : f ≤ n) : ∃ l, l.length = 7 ∧ ∀ K : Int32 → MM Int32, bd (gX11_takesNumber (nI (rk y 0))) (fun _ => bd (gX11_turnsFirst (nI f)) (fun _ => bd gX11_numberOfOrder K)) B = K (nI (rk (flp f y) 0)) (up B 24 l) := by
  obtain ⟨l, g1, g2⟩ := p_tN h0 hn n1 n7 hl hv
  rw [un_P hy] at g2
  have g3 := p_tF (f := f) (T := up B 24 l) (by rw [up_same]; exact g2.1) h2 (by omega)
  rw [up_same, up_up] at g3
  have g4 := RL_flp g2 n7 hf
  have g5 := p_nO (n := n) (B := up B 24 (flp f l)) (p := flp f y) h0 hn n7 (by rw [up_same]; exact g4) (fun q hq => by have := Pm_get (flp_P (f := f) hy) hq; omega)
  exact ⟨flp f l, g4.1, fun K => by rw [bd_some g1, bd_some g3, bd_some g5]⟩
theorem adj_t : ∀ a, a < 10 → ∀ b, b < 10 → ((nI a - nI b = 1 ∨ nI b - nI a = 1) ↔ adj b a = true) := by decide +kernel
set_option maxHeartbeats 400000 in
theorem p_tG {n : Nat} {B : Bk} {p : List Nat} (h0 : (B 0).length = 68) (hn : (B 0).getD 46 0 = nI n) (n1 : 1 ≤ n) (n7 : n ≤ 7) (hp : ∀ q, q < n → p.getD q 0 < 10) (h : RL n (B 24) p) : tG1 B = some (nI (cntN (bdC p) (n - 1)), B) := by
  obtain ⟨hl, hpl, hg⟩ := h
  unfold tG1
  refine loopF (n - 1) (fun j => (nI (cntN (bdC p) j), nI (1 + j))) (fun _ => B) rfl rfl (fun j hj self => ?_) (fun self => ?_) (by omega)
  · have hc : cntN (bdC p) (j + 1) = if bdC p j = true then cntN (bdC p) j + 1 else cntN (bdC p) j := rfl
    have es : (nI (1 + j) - 1 : Int32) = nI j := by rw [show (1 : Int32) = nI 1 from rfl, pk_sub (by omega), Nat.add_sub_cancel_left]
    unfold tG1B
    simp only [lt_eq, jn_eq]
    rw [bd_ld _ (by omega), hn, if_neg (nI_ge (by omega) (by omega)), es, bd_la _ (by omega) (by omega), bd_la _ (by omega) (by omega), hg _ (by omega), hg _ (by omega), hc]
    have ht := adj_t _ (hp (1 + j) (by omega)) _ (hp j (by omega))
    have hla : ∀ K : Int32 → MM Int32, bd (la 24 (nI j)) (fun v13 => bd (la 24 (nI (1 + j))) (fun v14 => if v13 - v14 = 1 then K 0 else K 1)) B = (if nI (p.getD j 0) - nI (p.getD (1 + j) 0) = 1 then K 0 else K 1) B := fun K => by
      rw [bd_la _ (by omega) (by omega), bd_la _ (by omega) (by omega), hg _ (by omega), hg _ (by omega)]
    unfold bdC
    rw [show j + 1 = 1 + j by omega]
    by_cases c1 : nI (p.getD (1 + j) 0) - nI (p.getD j 0) = 1
    · have ha := ht.mp (Or.inl c1)
      rw [if_pos c1, ha, nI_1, show 1 + j + 1 = 1 + (1 + j) by omega]; rfl
    · rw [if_neg c1, bd_la _ (by omega) (by omega), bd_la _ (by omega) (by omega), hg _ (by omega), hg _ (by omega)]
      by_cases c2 : nI (p.getD j 0) - nI (p.getD (1 + j) 0) = 1
      · have ha := ht.mp (Or.inr c2)
        rw [if_pos c2, ha, nI_1, show 1 + j + 1 = 1 + (1 + j) by omega]; rfl
      · have ha : adj (p.getD j 0) (p.getD (1 + j) 0) = false := by
          cases h : adj (p.getD j 0) (p.getD (1 + j) 0) with
          | false => rfl
          | true =>
            rcases ht.mpr h with z | z
            · exact absurd z c1
            · exact absurd z c2
        rw [if_neg c2, ha, nI_1, nI_1, show 1 + j + 1 = 1 + (1 + j) by omega]; rfl
  · unfold tG1B
    rw [bd_ld _ (by omega), hn, show 1 + (n - 1) = n by omega, if_pos (Int32.le_refl _)]; rfl
