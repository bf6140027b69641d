/-! PURE: game, the reference, the answers -/
def gM1B (x2 : Int32) (x1 : Int32) : (Int32 → MM Int32) → Int32 → MM Int32 := fun (self7 : Int32 → MM Int32) (s8 : Int32) =>
  (if s8 ≤ x2 then
  bd (gX11_goodFilling x1 x2) fun r9 =>
  pr r9
  else
  lt (1 <<< ((s8 &&& 31) &&& 31)) fun y10 =>
  bd (gX11_goodFilling x1 s8) fun r11 =>
  jn (fun (a13 : Unit) =>
  lt (s8 + (-1)) fun y14 =>
  self7 y14) (fun j12 =>
  (if r11 = ((-1)) then
  bd (la 36 (s8 >>> (5 &&& 31))) fun v16 =>
  bd (sa 36 (s8 >>> (5 &&& 31)) (v16 &&& (y10 ^^^ ((-1))))) fun _ =>
  j12 ()
  else
  bd (la 36 (s8 >>> (5 &&& 31))) fun v15 =>
  bd (sa 36 (s8 >>> (5 &&& 31)) (v15 ||| y10)) fun _ =>
  j12 ())))
def gM1 (x2 : Int32) (x1 : Int32) (y6 : Int32) : MM Int32 := loopC 100000 (gM1B x2 x1) y6
theorem gM_eq (x1 x2 : Int32) : gX11_game x1 x2 =
  bd (sv 0 0 0) fun _ =>
  bd (gX11_isIn x1 3 16) fun r1 =>
  jn (fun (a3 : Unit) =>
  pr (-1 : Int32)) (fun j2 =>
  (if r1 = 0 then
  j2 ()
  else
  bd (gX11_isIn x2 0 ((1 <<< (x1 &&& 31)) - 1)) fun r4 =>
  (if r4 = 0 then
  j2 ()
  else
  bd (gX11_areThree x2) fun r5 =>
  (if r5 = 0 then
  lt ((1 <<< (x1 &&& 31)) - 1) fun y6 =>
  (gM1 x2 x1 y6)
  else
  j2 ())))) := rfl
def gF1B (x1 : Int32) (x2 : Int32) : (Int32 → MM Int32) → Int32 → MM Int32 := fun (self1 : Int32 → MM Int32) (s2 : Int32) =>
  (if x1 ≤ s2 then
  pr ((-1))
  else
  lt (x2 ||| (1 <<< (s2 &&& 31))) fun y3 =>
  jn (fun (a5 : Unit) =>
  lt (s2 + 1) fun y6 =>
  self1 y6) (fun j4 =>
  (if y3 = x2 then
  j4 ()
  else
  bd (gX11_areThree y3) fun r7 =>
  jn (fun (a9 : Unit) =>
  pr s2) (fun j8 =>
  (if r7 = 0 then
  bd (la 36 (y3 >>> (5 &&& 31))) fun v10 =>
  bd (gX11_has v10 (y3 &&& 31)) fun r11 =>
  (if r11 = 0 then
  j8 ()
  else
  j4 ())
  else
  j8 ())))))
def gF1 (x1 : Int32) (x2 : Int32) : MM Int32 := loopC 100000 (gF1B x1 x2) 0
theorem gF_eq (x1 x2 : Int32) : gX11_goodFilling x1 x2 =
  (gF1 x1 x2) := rfl
def bitB (l : List Int32) (u : Nat) : Bool := bt (l.getD (u / 32) 0) (u % 32)
set_option maxHeartbeats 400000 in
theorem p_kTr {v : Nat} (hv : v < 2 ^ 20) (B : Bk) : gX11_areThree (nI v) B = some (nI (kT v).toNat, B) := by
  have e1 : (nI v >>> (1 &&& 31) : Int32) = nI (v / 2) := pk_shrN (by omega) _ 1 (by decide)
  have e2 : (nI v >>> (2 &&& 31) : Int32) = nI (v / 4) := pk_shrN (by omega) _ 2 (by decide)
  have hl : (v &&& v / 2) &&& v / 4 ≤ v := Nat.le_trans Nat.and_le_left Nat.and_le_left
  unfold gX11_areThree kT
  simp only [jn_eq]
  rw [e1, e2, fa_and, fa_and]
  by_cases c : (v &&& v / 2) &&& v / 4 = 0
  · rw [if_pos ((nI_0i (by omega)).mpr c), c]; rfl
  · rw [if_neg (fun q => c ((nI_0i (by omega)).mp q)), beq_eq_false_iff_ne.mpr c]; rfl
set_option maxHeartbeats 400000 in
theorem p_hasB (x : Int32) {k : Nat} (hk : k < 32) (B : Bk) : gX11_has x (nI k) B = some (nI (bt x k).toNat, B) := by
  have e : ((x >>> (nI k &&& 31)) &&& 1 : Int32) = if bt x k then nI 1 else 0 := by
    rw [show (1 : Int32) = nI 1 from rfl, bt_low, b_sshr k hk x (by decide), if_pos (show k + 0 < 32 by omega), Nat.add_zero]
  unfold gX11_has
  simp only [jn_eq]
  rw [e]
  cases bt x k <;> rfl
set_option maxHeartbeats 400000 in
theorem p_gF {n v : Nat} (hn : n ≤ 16) (hv : v < 2 ^ n) {B : Bk} (hl : (B 36).length = 2048) (hb : ∀ p, p < n → kP v p ≠ v → kT (kP v p) = false → bitB (B 36) (kP v p) = kW n (kP v p)) : gX11_goodFilling (nI n) (nI v) B = some (if fstp (kG (kW n) v) 0 n < n then nI (fstp (kG (kW n) v) 0 n) else -1, B) := by
  have hv16 : v < 2 ^ 16 := Nat.lt_of_lt_of_le hv (Nat.pow_le_pow_right (by decide) hn)
  rw [gF_eq]
  have h := loopP (n := n) (F := gF1B (nI n) (nI v)) (fun j => nI j) (A := B) (kG (kW n) v) (fun j => some (if j < n then nI j else -1, B)) (fun j hj f => ?_) (fun f => ?_) n 0 100000 (by omega) (by omega)
  · exact h
  · have hp := kP_17 hn hv hj
    have hbj := hb j hj
    show _ = if ((kP v j != v) && (kT (kP v j) || !kW n (kP v j))) = true then _ else _
    unfold gF1B
    rw [if_neg (nI_ge hj (by omega)), p_kP v (by omega), if_pos hj]
    simp only [jn_eq, lt_eq, nI_1]
    obtain ⟨u, hu⟩ : ∃ u, kP v j = u := ⟨_, rfl⟩
    rw [hu] at hp hbj ⊢
    by_cases c : u = v
    · rw [if_pos (by rw [c]), c, bne_self_eq_false, Bool.false_and, if_neg (by decide)]
    · rw [if_neg (fun q => c ((nI_eq (by omega) (by omega)).mp q)), bne_iff_ne.mpr c, Bool.true_and, bd_some (p_kTr (by omega) B)]
      cases ht : kT u with
      | true => rw [if_neg (show ¬ nI (Bool.toNat true) = (0 : Int32) by decide), Bool.true_or, if_pos rfl]; rfl
      | false =>
        have hbu := hbj c ht
        have e1 : (nI u >>> (5 &&& 31) : Int32) = nI (u / 32) := pk_shrN (by omega) _ 5 (by decide)
        have e2 : (nI u &&& 31 : Int32) = nI (u % 32) := pk_andN (by omega) 5 (by decide)
        have e3 : bt ((B 36).getD (u / 32) 0) (u % 32) = kW n u := hbu
        rw [if_pos (show nI (Bool.toNat false) = (0 : Int32) from rfl), e1, bd_la _ (by omega) (by omega), e2, bd_some (p_hasB _ (by omega) B), e3, Bool.false_or]
        cases kW n u with
        | true => rw [if_neg (show ¬ nI (Bool.toNat true) = (0 : Int32) by decide)]; rfl
        | false => rw [if_pos (show nI (Bool.toNat false) = (0 : Int32) from rfl)]; rfl
  · unfold gF1B
    rw [if_pos (Int32.le_refl _), if_neg (Nat.lt_irrefl n)]; rfl
theorem bt_clear {x : Int32} {w i : Nat} (hw : w < 32) (hi : i < 32) : bt (x &&& ((1 <<< (nI w &&& 31)) ^^^ (-1))) i = (bt x i && !decide (i = w)) := by
  have h := bt_sh (b := w) (j := i) hw hi
  rw [b_and, b_xor, b_m1 i hi, show bt ((1 : Int32) <<< (nI w &&& 31)) i = decide (i = w) from h]
  cases decide (i = w) <;> simp
theorem bt_put {x : Int32} {w i : Nat} (hw : w < 32) (hi : i < 32) : bt (x ||| (1 <<< (nI w &&& 31))) i = (bt x i || decide (i = w)) := by
  have h := bt_sh (b := w) (j := i) hw hi
  rw [b_or, show bt ((1 : Int32) <<< (nI w &&& 31)) i = decide (i = w) from h]
theorem bitB_set {l : List Int32} {w u : Nat} {b : Bool} (hl : l.length = 2048) (hw : w < 2 ^ 16) : bitB (l.set (w / 32) (if b = true then l.getD (w / 32) 0 ||| (1 <<< (nI (w % 32) &&& 31)) else l.getD (w / 32) 0 &&& ((1 <<< (nI (w % 32) &&& 31)) ^^^ (-1)))) u = if u = w then b else bitB l u := by
  unfold bitB
  by_cases e : u / 32 = w / 32
  · rw [e, gd_set_same (by omega)]
    have hh : (u % 32 = w % 32) ↔ u = w := by omega
    cases b with
    | true =>
      rw [if_pos rfl, bt_put (by omega) (by omega)]
      by_cases c : u = w
      · rw [if_pos c, decide_eq_true (hh.mpr c), Bool.or_true]
      · rw [if_neg c, decide_eq_false (fun q => c (hh.mp q)), Bool.or_false]
    | false =>
      rw [if_neg (by decide), bt_clear (by omega) (by omega)]
      by_cases c : u = w
      · rw [if_pos c, decide_eq_true (hh.mpr c)]; simp
      · rw [if_neg c, decide_eq_false (fun q => c (hh.mp q))]; simp
  · rw [gd_set_ne (fun q => e q.symm), if_neg (fun c => e (by rw [c]))]
set_option maxHeartbeats 400000 in
theorem p_gM {n v : Nat} (hn : 3 ≤ n) (hn2 : n ≤ 16) (hv : v < 2 ^ n) (ht : kT v = false) {B : Bk} (hl : (B 36).length = 2048) : Ht (gM1 (nI v) (nI n) (nI (2 ^ n - 1)) B) (fun r B' => r = (if kA n v < n then nI (kA n v) else -1) ∧ ∃ l : List Int32, l.length = 2048 ∧ B' = up B 36 l) := by
  have h16 : 2 ^ n ≤ 2 ^ 16 := Nat.pow_le_pow_right (by decide) hn2
  have bits : ∀ {w : Nat} {l : List Int32}, (∀ u, w < u → u < 2 ^ n → kT u = false → bitB l u = kW n u) → w < 2 ^ n → ∀ p, p < n → kP w p ≠ w → kT (kP w p) = false → bitB l (kP w p) = kW n (kP w p) := fun h hw p hp h1 h2 => h _ (kP_gt h1) (kP_lt hw hp) h2
  unfold gM1
  refine loopI (2 ^ n - 1 - v) (fun j s A' => s = nI (2 ^ n - 1 - j) ∧ ∃ l : List Int32, A' = up B 36 l ∧ l.length = 2048 ∧ ∀ u, 2 ^ n - 1 - j < u → u < 2 ^ n → kT u = false → bitB l u = kW n u) _ (fun j s A' hj hI => ?_) (fun s A' hI f => ?_) (by omega) ⟨rfl, B 36, (up_self B 36).symm, hl, fun u h1 h2 => by omega⟩
  · obtain ⟨rfl, l, rfl, h1, h2⟩ := hI
    obtain ⟨w, hw⟩ : ∃ w, 2 ^ n - 1 - j = w := ⟨_, rfl⟩
    rw [hw] at h2 ⊢
    have hwn : w < 2 ^ n := by omega
    have hvw : v < w := by omega
    have hl36 : (up B 36 l 36).length = 2048 := by rw [up_same]; exact h1
    have gf := p_gF (B := up B 36 l) hn2 hwn hl36 (by rw [up_same]; exact bits h2 hwn)
    have e1 : (nI w >>> (5 &&& 31) : Int32) = nI (w / 32) := pk_shrN (by omega) _ 5 (by decide)
    have e2 : (nI w &&& 31 : Int32) = nI (w % 32) := pk_andN (by omega) 5 (by decide)
    obtain ⟨g, hg⟩ : ∃ g, fstp (kG (kW n) w) 0 n = g := ⟨_, rfl⟩
    rw [hg] at gf
    refine ⟨nI (w - 1), up B 36 (l.set (w / 32) (if decide (g < n) = true then l.getD (w / 32) 0 ||| (1 <<< (nI (w % 32) &&& 31)) else l.getD (w / 32) 0 &&& ((1 <<< (nI (w % 32) &&& 31)) ^^^ (-1)))), fun f => ?_, by rw [show 2 ^ n - 1 - (j + 1) = w - 1 by omega], _, rfl, by rw [List.length_set]; exact h1, fun u q1 q2 q3 => ?_⟩
    · obtain ⟨w', rfl⟩ : ∃ w', w = w' + 1 := ⟨w - 1, by omega⟩
      unfold gM1B
      rw [if_neg (nI_ge hvw (by omega))]
      simp only [jn_eq, lt_eq]
      rw [bd_some gf, e1, e2, pk_m1, Nat.add_sub_cancel]
      by_cases c : g < n
      · rw [if_pos c, if_neg (show ¬ nI g = (-1 : Int32) from fun q => (e_nm1 (j := g) (by omega)).mp q), bd_la _ (by omega) (by omega), bd_sa _ (by omega) (by omega), if_pos (decide_eq_true c), up_same, up_up]
      · rw [if_neg c, if_pos rfl, bd_la _ (by omega) (by omega), bd_sa _ (by omega) (by omega), if_neg (fun q => c (of_decide_eq_true q)), up_same, up_up]
    · rw [bitB_set h1 (by omega)]
      by_cases c : u = w
      · rw [if_pos c]
        subst c
        obtain ⟨k1, k2⟩ := kG_all hn hn2 hwn q3
        have k3 := k2 (by omega)
        rw [← k1, hg] at k3
        cases hk : kW n u with
        | true => exact decide_eq_true (k3.mp hk)
        | false => exact decide_eq_false (fun q => by rw [k3.mpr q] at hk; cases hk)
      · rw [if_neg c]
        exact h2 u (by omega) q2 q3
  · obtain ⟨rfl, l, rfl, h1, h2⟩ := hI
    have hw : 2 ^ n - 1 - (2 ^ n - 1 - v) = v := by omega
    rw [hw] at h2 ⊢
    have hl36 : (up B 36 l 36).length = 2048 := by rw [up_same]; exact h1
    have gf := p_gF (B := up B 36 l) hn2 hv hl36 (by rw [up_same]; exact bits h2 hv)
    refine ⟨_, _, ?_, rfl, l, h1, rfl⟩
    unfold gM1B
    rw [if_pos (Int32.le_refl _), bd_some gf, (kG_all hn hn2 hv ht).1]; rfl
set_option maxHeartbeats 400000 in
theorem op_game {A B : Bk} (h : R A B) (x y : Int32) : ∃ r A' B', gX10_game x y A = some (r, A') ∧ gX11_game x y B = some (r, B') ∧ R A' B' := by
  have hb0 := R_B0 h
  have hRt := R_told h
  obtain ⟨B0, hB0⟩ : ∃ z, z = up B 0 ((B 0).set 0 0) := ⟨_, rfl⟩
  rw [← hB0] at hRt
  have z0 := R_B0 hRt
  obtain ⟨⟨np, nc, nt, ks, wh, hH, hU⟩, hT, hI, hA, hB⟩ := id hRt
  obtain ⟨hW, hw0⟩ := R_W hH
  obtain ⟨hl, ⟨hn1, hn2, hn3, hn4⟩, ⟨p1, p2, p3, p4, p5, p6⟩, he, ⟨s1, s2, s3, s4, s5, s6, s7⟩, hod, ho, hd, hw, ⟨k1, k2, k3⟩⟩ := id hW
  obtain ⟨l0, l1, l2, l3, l4, l5, l6, l7, l8, l9, l10, l11, l12⟩ := id hl
  have b6 : (B0 0).getD 6 0 = nI np := hH.1.2.2.2.1.2.2.1
  have b7 : (B0 0).getD 7 0 = nI nc := hH.1.2.2.2.1.2.2.2.1
  have b8 : (B0 0).getD 8 0 = nI nt := hH.1.2.2.2.1.2.2.2.2
  have m4 : (B0 4).length = 20 := by rw [← hod.1]; exact l8
  have m5 : (B0 5).length = 20 := by rw [← hod.2]; exact l9
  have m36 : (B0 36).length = 2048 := hB.2.2.2.2.2.2.2.2.2.2.2.2
  have k1' : ¬ nI 1 = (0 : Int32) := by decide
  by_cases hx : (3 : Int32) ≤ x ∧ x ≤ 16
  · obtain ⟨n, n1, n2, rfl⟩ := nI_rng (lo := 3) (hi := 16) (by decide) (by decide) hx.1 hx.2
    have h16 : 2 ^ n ≤ 2 ^ 16 := Nat.pow_le_pow_right (by decide) n2
    have hpos : 0 < 2 ^ n := Nat.two_pow_pos n
    have e : ((1 : Int32) <<< (nI n &&& 31)) - 1 = nI (2 ^ n - 1) := by
      rw [show (1 : Int32) <<< (nI n &&& 31) = nI (2 ^ n) from shl_n n (by omega)]
      exact pk_sub (b := 1) (by omega)
    by_cases hy : (0 : Int32) ≤ y ∧ y ≤ nI (2 ^ n - 1)
    · obtain ⟨v, hv, rfl⟩ := wi_rng (n := 2 ^ n - 1) (by omega) hy
      have hv2 : v < 2 ^ n := by omega
      cases ht : kT v with
      | true =>
        have gw : ∀ C : Bk, gX6_winningPlace (nI n) (nI v) C = some (-1, C) := fun C => by
          rw [wP_eq, bd_some (p_kT (by omega) C), ht, if_neg (by decide)]; rfl
        refine ⟨-1, A, B0, ?_, ?_, hRt⟩
        · unfold gX10_game
          rw [bd_iw, b2i_t hx]
          simp only [jn_eq]
          rw [if_neg k1', e, bd_iw, b2i_t hy, if_neg k1', bd_lf0 _ (gw _)]; rfl
        · rw [gM_eq, told0 _ hb0, ← hB0, bd_in, b2i_t hx]
          simp only [jn_eq]
          rw [if_neg k1', e, bd_in, b2i_t hy, if_neg k1', bd_some (p_kTr (by omega) B0), ht, if_neg (by decide)]; rfl
      | false =>
        obtain ⟨r, B', g1, rfl, l, hl, rfl⟩ := p_gM n1 n2 hv2 ht m36
        refine ⟨if kA n v < n then nI (kA n v) else -1, A, up B0 36 l, ?_, ?_, R_XF hRt (XF_B (k := 36) (by decide) (by rw [hl, m36]))⟩
        · unfold gX10_game
          rw [bd_iw, b2i_t hx]
          simp only [jn_eq]
          rw [if_neg k1', e, bd_iw, b2i_t hy, if_neg k1', bd_lf0 _ (p_wP n2 hv2 ht _)]; rfl
        · rw [gM_eq, told0 _ hb0, ← hB0, bd_in, b2i_t hx]
          simp only [jn_eq]
          rw [if_neg k1', e, bd_in, b2i_t hy, if_neg k1', bd_some (p_kTr (by omega) B0), ht, if_pos (show nI (Bool.toNat false) = (0 : Int32) from rfl)]
          exact g1
    · refine ⟨-1, A, B0, ?_, ?_, hRt⟩
      · unfold gX10_game
        rw [bd_iw, b2i_t hx]
        simp only [jn_eq]
        rw [if_neg k1', e, bd_iw, b2i_f hy]; rfl
      · rw [gM_eq, told0 _ hb0, ← hB0, bd_in, b2i_t hx]
        simp only [jn_eq]
        rw [if_neg k1', e, bd_in, b2i_f hy]; rfl
  · refine ⟨-1, A, B0, ?_, ?_, hRt⟩
    · unfold gX10_game
      rw [bd_iw, b2i_f hx]; rfl
    · rw [gM_eq, told0 _ hb0, ← hB0, bd_in, b2i_f hx]; rfl
