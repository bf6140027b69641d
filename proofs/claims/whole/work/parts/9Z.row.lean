/-! PURE: turnings, the digits of a row -/
def tO2B (s2 : Int32 × Int32) : (Int32 × Int32 × Int32 → MM Int32) → Int32 × Int32 × Int32 → MM Int32 := fun (self5 : Int32 × Int32 × Int32 → MM Int32) (s6 : Int32 × Int32 × Int32) =>
  (if s6.2.2 < 0 then
  jn (fun (a8 : Int32) =>
  rz a8) (fun j7 =>
  jn (fun (a10 : Unit) =>
  j7 0) (fun j9 =>
  (if s6.1 = 1 then
  (if s6.2.1 = ((1 <<< (s2.1 &&& 31)) - 1) then
  j7 1
  else
  j9 ())
  else
  j9 ())))
  else
  nz 10 (
  bd (sa 24 s6.2.2 (irm s6.1 10)) fun _ =>
  bd (la 24 s6.2.2) fun v11 =>
  lt (s6.2.1 ||| (1 <<< (v11 &&& 31))) fun y12 =>
  nz 10 (
  lt (s6.1 / 10) fun y13 =>
  lt (s6.2.2 + (-1)) fun y14 =>
  self5 (y13, y12, y14))))
def tO2 (s2 : Int32 × Int32) (x1 : Int32) (y4 : Int32) : MM Int32 := loopC 100000 (tO2B s2) (x1, 0, y4)
def tO1B (x1 : Int32) : (Int32 × Int32 → MM Int32) → Int32 × Int32 → MM Int32 := fun (self1 : Int32 × Int32 → MM Int32) (s2 : Int32 × Int32) =>
  (if s2.2 ≤ 9 then
  bd (gX11_isIn s2.1 1 7) fun r3 =>
  (if r3 = 0 then
  rz 0
  else
  bd (sv 0 46 s2.1) fun _ =>
  lt (s2.1 - 1) fun y4 =>
  (tO2 s2 x1 y4))
  else
  lt (s2.1 + 1) fun y15 =>
  nz 10 (
  lt (s2.2 / 10) fun y16 =>
  self1 (y15, y16)))
def tO1 (x1 : Int32) : MM Int32 := loopC 100000 (tO1B x1) (0, x1)
theorem tO_eq (x1 : Int32) : gX11_takesOrder x1 =
  (tO1 x1) := rfl
def dgs (r k : Nat) : List Nat := (List.range k).map fun i => r / 10 ^ (k - 1 - i) % 10
def setD (r : Nat) : Nat → Nat := fo (fun i a => a ||| 2 ^ (r / 10 ^ i % 10)) 0
def Acc (x : Int32) (k r : Nat) : Prop := 1 ≤ k ∧ k ≤ 7 ∧ x = nI r ∧ 10 ^ k ≤ r ∧ r < 2 * 10 ^ k ∧ setD r k = 2 ^ k - 1
theorem setD_lt (r : Nat) : ∀ j, setD r j < 2 ^ 10
  | 0 => by show 0 < 2 ^ 10; decide
  | j + 1 => Nat.or_lt_two_pow (setD_lt r j) (Nat.pow_lt_pow_right (by decide) (Nat.mod_lt _ (by decide)))
theorem setD_bit (r y : Nat) : ∀ j, (setD r j).testBit y = true ↔ ∃ i, i < j ∧ r / 10 ^ i % 10 = y
  | 0 => by
    show Nat.testBit 0 y = true ↔ _
    rw [Nat.zero_testBit]
    exact ⟨(fun h => by cases h), (fun ⟨i, hi, _⟩ => absurd hi (Nat.not_lt_zero i))⟩
  | j + 1 => by
    show (setD r j ||| 2 ^ (r / 10 ^ j % 10)).testBit y = true ↔ _
    rw [Nat.testBit_or, Nat.testBit_two_pow, Bool.or_eq_true, decide_eq_true_eq, setD_bit r y j]
    constructor
    · rintro (⟨i, h1, h2⟩ | h)
      · exact ⟨i, by omega, h2⟩
      · exact ⟨j, by omega, h⟩
    · rintro ⟨i, h1, h2⟩
      by_cases e : i = j
      · subst e; exact Or.inr h2
      · exact Or.inl ⟨i, by omega, h2⟩
theorem Pm_of : ∀ (n : Nat) (p : List Nat), p.length = n → (∀ y, y < n → y ∈ p) → Pm n p
  | 0, p, hl, _ => by rw [List.length_eq_zero_iff.mp hl]; exact List.Perm.refl _
  | n + 1, p, hl, h => by
    have hm := h n (by omega)
    have h1 := List.perm_cons_erase hm
    have ih := Pm_of n (p.erase n) (by rw [List.length_erase_of_mem hm, hl]; rfl) (fun y hy => (List.mem_erase_of_ne (by omega)).mpr (h y (by omega)))
    rw [show Pm (n + 1) p = p.Perm (List.range (n + 1)) from rfl, List.range_succ]
    exact h1.trans ((ih.cons n).trans (List.perm_append_singleton _ _).symm)
theorem dgs_P {r k : Nat} (h : setD r k = 2 ^ k - 1) : Pm k (dgs r k) := by
  refine Pm_of k _ (by unfold dgs; rw [List.length_map, List.length_range]) (fun y hy => ?_)
  have hb : (setD r k).testBit y = true := by rw [h, Nat.testBit_two_pow_sub_one]; exact decide_eq_true hy
  obtain ⟨i, hi, e⟩ := (setD_bit r y k).mp hb
  unfold dgs
  refine List.mem_map.mpr ⟨k - 1 - i, List.mem_range.mpr (by omega), ?_⟩
  rw [show k - 1 - (k - 1 - i) = i by omega]
  exact e
theorem dgs_get {r k q : Nat} (hq : q < k) : (dgs r k).getD q 0 = r / 10 ^ (k - 1 - q) % 10 := by
  unfold dgs
  rw [List.getD_eq_getElem?_getD, List.getElem?_map, List.getElem?_range hq]; rfl
theorem dg_sub {r k i : Nat} (h : 10 ^ k ≤ r) (hi : i < k) : (r - 10 ^ k) / 10 ^ i % 10 = r / 10 ^ i % 10 := by
  obtain ⟨s, rfl⟩ : ∃ s, r = 10 ^ k + s := ⟨r - 10 ^ k, by omega⟩
  have e : 10 ^ k = 10 ^ i * (10 * 10 ^ (k - i - 1)) := by
    rw [← Nat.pow_succ', ← Nat.pow_add]; congr 1; omega
  rw [Nat.add_sub_cancel_left, e, Nat.mul_add_div (Nat.pow_pos (by decide)), Nat.mul_add_mod]
theorem setD_sub {r k : Nat} (h : 10 ^ k ≤ r) : ∀ j, j ≤ k → setD (r - 10 ^ k) j = setD r j
  | 0, _ => rfl
  | j + 1, hj => by
    show setD (r - 10 ^ k) j ||| 2 ^ ((r - 10 ^ k) / 10 ^ j % 10) = setD r j ||| 2 ^ (r / 10 ^ j % 10)
    rw [setD_sub h j (by omega), dg_sub h (by omega)]
theorem dgs_sub {r k : Nat} (h : 10 ^ k ≤ r) : dgs (r - 10 ^ k) k = dgs r k := by
  unfold dgs
  refine List.map_congr_left (fun i hi => ?_)
  have := List.mem_range.mp hi
  exact dg_sub h (by omega)
/-- the digits laid, from the last -/
def dF (r k : Nat) (l : List Int32) : Nat → List Int32 := fo (fun i m => m.set (k - 1 - i) (nI (r / 10 ^ i % 10))) l
theorem dF_len (r k : Nat) (l : List Int32) : ∀ j, (dF r k l j).length = l.length
  | 0 => rfl
  | j + 1 => by
    show ((dF r k l j).set _ _).length = _
    rw [List.length_set, dF_len r k l j]
theorem dF_get {r k : Nat} {l : List Int32} (hl : l.length = 7) (hk : k ≤ 7) : ∀ j, j ≤ k → ∀ q, q < k → k ≤ q + j → (dF r k l j).getD q 0 = nI (r / 10 ^ (k - 1 - q) % 10)
  | 0, _, q, hq, h => by omega
  | j + 1, hj, q, hq, h => by
    show ((dF r k l j).set (k - 1 - j) (nI (r / 10 ^ j % 10))).getD q 0 = _
    have hlen := dF_len r k l j
    by_cases e : q = k - 1 - j
    · subst e
      rw [gd_set_same (by omega), show k - 1 - (k - 1 - j) = j by omega]
    · rw [gd_set_ne (fun z => e z.symm)]
      exact dF_get hl hk j (by omega) q hq (by omega)
theorem dF_RL {r k : Nat} {l : List Int32} (hl : l.length = 7) (hk : k ≤ 7) : RL k (dF r k l k) (dgs r k) := by
  refine ⟨by rw [dF_len, hl], by unfold dgs; rw [List.length_map, List.length_range], fun q hq => ?_⟩
  rw [dF_get hl hk k (Nat.le_refl _) q hq (by omega), dgs_get hq]
theorem sub_m1 (k j : Nat) : nI k - nI j + (-1) = nI k - nI (j + 1) := by
  rw [Int32.add_neg_eq_sub, Int32.sub_sub, nI_1]
theorem dg_step {r j : Nat} (hr : r < 2 ^ 31) : (nI (r / 10 ^ j) / 10 : Int32) = nI (r / 10 ^ (j + 1)) ∧ irm (nI (r / 10 ^ j)) 10 = nI (r / 10 ^ j % 10) := by
  have h : r / 10 ^ j ≤ r := Nat.div_le_self _ _
  refine ⟨?_, rem_e (d := 10) (by omega) (by decide) (by decide)⟩
  rw [show (10 : Int32) = nI 10 from rfl, pk_div (by omega) (by decide) (by decide), Nat.div_div_eq_div_mul, Nat.pow_succ]
theorem two_k {k : Nat} (hk : k ≤ 7) : ((1 : Int32) <<< (nI k &&& 31)) - 1 = nI (2 ^ k - 1) := by
  have hpos : 0 < 2 ^ k := Nat.two_pow_pos k
  rw [show (1 : Int32) <<< (nI k &&& 31) = nI (2 ^ k) from shl_n k (by omega)]
  exact pk_sub (b := 1) (by omega)
theorem setD_eq {r k : Nat} (hk : k ≤ 7) : (nI (setD r k) = nI (2 ^ k - 1)) ↔ setD r k = 2 ^ k - 1 := by
  have h1 := setD_lt r k
  have h2 : 2 ^ k ≤ 2 ^ 7 := Nat.pow_le_pow_right (by decide) hk
  exact nI_eq (by omega) (by omega)
set_option maxHeartbeats 400000 in
theorem p_lR2 {k r : Nat} {T : Bk} (h0 : (T 0).length = 4) (h2 : (T 2).length = 7) (k1 : 1 ≤ k) (hk : k ≤ 7) (hr : r < 2 ^ 31) (w : Int32) : lR2 (nI k, w) (nI r) (nI k - 1) T = some (nI (decide (setD r k = 2 ^ k - 1)).toNat, up (up T 2 (dF r k (T 2) k)) 0 ((T 0).set 2 (nI k))) := by
  unfold lR2
  refine loopF k (fun j => (nI (r / 10 ^ j), nI (setD r j), nI k - nI (j + 1))) (fun j => up T 2 (dF r k (T 2) j)) (by rw [Nat.pow_zero, Nat.div_one]; rfl) (up_self T 2) (fun j hj self => ?_) (fun self => ?_) (by omega)
  · obtain ⟨m, hm⟩ : ∃ m, dF r k (T 2) j = m := ⟨_, rfl⟩
    have hml : m.length = 7 := by rw [← hm, dF_len, h2]
    have hs : dF r k (T 2) (j + 1) = m.set (k - 1 - j) (nI (r / 10 ^ j % 10)) := by rw [← hm]; rfl
    have hU : (up T 2 m 2).length = 7 := by rw [up_same]; exact hml
    obtain ⟨d1, d2⟩ := dg_step (j := j) hr
    have hd : r / 10 ^ j % 10 < 10 := Nat.mod_lt _ (by decide)
    rw [hs, hm]
    unfold lR2B
    simp only [nz_fn (show ¬ (10 : Int32) = 0 by decide), lt_eq]
    rw [d1, d2, sub_m1, pk_sub (a := k) (b := j + 1) (by omega), if_neg (nI_pos (by omega)), show k - (j + 1) = k - 1 - j by omega, bd_sa _ (by omega) (by omega), up_up, up_same, bd_la _ (by rw [up_same, List.length_set]; omega) (by rw [up_same, List.length_set]; omega), up_same, gd_set_same (by omega), show (1 : Int32) <<< (nI (r / 10 ^ j % 10) &&& 31) = nI (2 ^ (r / 10 ^ j % 10)) from shl_n _ (by omega), fa_or]
    rfl
  · unfold lR2B
    simp only [jn_eq]
    rw [if_pos (show nI k - nI (k + 1) < 0 from pk_sneg (by omega) (by omega)), bd_sv _ (show 2 < (up T 2 (dF r k (T 2) k) 0).length by show 2 < (T 0).length; omega), two_k hk]
    by_cases c : setD r k = 2 ^ k - 1
    · rw [if_pos ((setD_eq hk).mpr c), decide_eq_true c]; rfl
    · rw [if_neg (fun q => c ((setD_eq hk).mp q)), decide_eq_false c]; rfl
theorem p10 : ∀ j, j ≤ 7 → 10 ^ j ≤ 10000000 ∧ 0 < 10 ^ j := by decide
set_option maxHeartbeats 400000 in
theorem p_lR {r : Nat} {T : Bk} (h0 : (T 0).length = 4) (h2 : (T 2).length = 7) (hr : r < 2 ^ 31) {k : Nat} (hk : fstp (fun j => decide (r < 2 * 10 ^ j)) 0 7 = k) : gX6_layRow (nI r) T = (if k = 0 ∨ r < 10 ^ k ∨ ¬ r < 2 * 10 ^ k then some (0, T) else lR2 (nI k, nI (10 ^ k)) (nI (r - 10 ^ k)) (nI k - 1) T) := by
  have tail : ∀ j, j ≤ 7 → ∀ (lR : MM Int32), (if nI j = 0 then rz 0 else if nI r < nI (10 ^ j) then rz 0 else if nI r < 2 * nI (10 ^ j) then lR else rz 0 : MM Int32) T = (if j = 0 ∨ r < 10 ^ j ∨ ¬ r < 2 * 10 ^ j then some (0, T) else lR T) := fun j hj lR => by
    obtain ⟨q1, q2⟩ := p10 j hj
    rw [show (2 : Int32) * nI (10 ^ j) = nI (2 * 10 ^ j) from pk_mul 2 _]
    by_cases c0 : j = 0
    · rw [if_pos (by rw [c0]; rfl), if_pos (Or.inl c0)]; rfl
    · rw [if_neg (fun q => c0 ((nI_0i (by omega)).mp q))]
      by_cases c1 : r < 10 ^ j
      · rw [if_pos (nI_lt c1 (by omega)), if_pos (Or.inr (Or.inl c1))]; rfl
      · rw [if_neg (nI_nlt (by omega) hr)]
        by_cases c2 : r < 2 * 10 ^ j
        · rw [if_pos (nI_lt c2 (by omega)), if_neg (fun q => by rcases q with q | q | q <;> first | exact c0 q | exact c1 q | exact q c2)]
        · rw [if_neg (nI_nlt (by omega) hr), if_pos (Or.inr (Or.inr c2))]; rfl
  have hkl := (fstp_spec (fun j => decide (r < 2 * 10 ^ j)) 7 0).2.1
  rw [hk] at hkl
  rw [lR_eq]
  unfold lR1
  have hlo := loopP (n := 7) (F := lR1B (nI r)) (fun j => (nI j, nI (10 ^ j))) (A := T) (fun j => decide (r < 2 * 10 ^ j)) (fun j => (if nI j = 0 then rz 0 else if nI r < nI (10 ^ j) then rz 0 else if nI r < 2 * nI (10 ^ j) then lR2 (nI j, nI (10 ^ j)) (nI r - nI (10 ^ j)) (nI j - 1) else rz 0 : MM Int32) T) (fun j hj f => ?_) (fun f => ?_) 7 0 100000 rfl (by omega)
  · rw [hk, tail k (by omega)] at hlo
    refine Eq.trans hlo ?_
    by_cases c : k = 0 ∨ r < 10 ^ k ∨ ¬ r < 2 * 10 ^ k
    · rw [if_pos c, if_pos c]
    · rw [if_neg c, if_neg c, pk_sub (by omega)]
  · obtain ⟨q1, q2⟩ := p10 j (by omega)
    unfold lR1B
    simp only [jn_eq, lt_eq]
    rw [bd_ln, h2, if_neg (show ¬ nI 7 ≤ nI j from nI_ge hj (by omega))]
    by_cases c2 : r < 2 * 10 ^ j
    · rw [if_pos (show nI r < 2 * nI (10 ^ j) from by rw [show (2 : Int32) * nI (10 ^ j) = nI (2 * 10 ^ j) from pk_mul 2 _]; exact nI_lt c2 (by omega)), if_pos (decide_eq_true c2)]
    · rw [if_neg (show ¬ nI r < 2 * nI (10 ^ j) from by rw [show (2 : Int32) * nI (10 ^ j) = nI (2 * 10 ^ j) from pk_mul 2 _]; exact nI_nlt (by omega) hr), if_neg (fun q => c2 (of_decide_eq_true q)), nI_1, show nI (10 ^ j) * 10 = nI (10 ^ (j + 1)) from by rw [Nat.pow_succ]; exact pk_mul _ 10]
  · unfold lR1B
    simp only [jn_eq, lt_eq]
    rw [bd_ln, h2, if_pos (show nI 7 ≤ nI 7 from Int32.le_refl _)]
theorem fstp_all {good : Nat → Bool} {m : Nat} (h : ∀ p, p < m → good p = false) : fstp good 0 m = m := by
  obtain ⟨a1, a2, a3, a4⟩ := fstp_spec good m 0
  rcases Nat.lt_or_ge (fstp good 0 m) m with c | c
  · have := a4 (by omega)
    rw [h _ c] at this; cases this
  · omega
theorem pow_2 {j k r : Nat} (hj : j < k) (h : 10 ^ k ≤ r) : ¬ r < 2 * 10 ^ j := by
  have : 10 * 10 ^ j ≤ 10 ^ k := by rw [← Nat.pow_succ']; exact Nat.pow_le_pow_right (by decide) hj
  omega
theorem pos_nat {x : Int32} (hx : 0 ≤ x) : ∃ r : Nat, r < 2 ^ 31 ∧ x = nI r := by
  have h1 := Int32.toInt_lt x
  rw [Int32.le_iff_toInt_le] at hx
  have e : (0 : Int32).toInt = 0 := by decide
  refine ⟨x.toInt.toNat, by omega, ?_⟩
  apply Int32.toInt_inj.mp
  rw [nI_toInt (by omega)]
  omega
set_option maxHeartbeats 400000 in
theorem lay_t {x : Int32} {k r : Nat} (ha : Acc x k r) {T : Bk} (h0 : (T 0).length = 4) (h2 : (T 2).length = 7) : ∃ l, gX6_layRow x T = some (1, up (up T 2 l) 0 ((T 0).set 2 (nI k))) ∧ RL k l (dgs r k) := by
  obtain ⟨k1, k7, rfl, r1, r2, r3⟩ := ha
  obtain ⟨q1, q2⟩ := p10 k k7
  have hf : fstp (fun j => decide (r < 2 * 10 ^ j)) 0 7 = k := by
    rcases Nat.lt_or_ge k 7 with c | c
    · exact fstp_at (fun p hp => decide_eq_false (pow_2 hp r1)) (decide_eq_true r2) c
    · have e : k = 7 := by omega
      subst e
      exact fstp_all (fun p hp => decide_eq_false (pow_2 hp r1))
  refine ⟨dF (r - 10 ^ k) k (T 2) k, ?_, by rw [← dgs_sub r1]; exact dF_RL h2 k7⟩
  rw [p_lR h0 h2 (by omega) hf, if_neg (fun q => by omega), p_lR2 h0 h2 k1 k7 (by omega), setD_sub r1 k (Nat.le_refl _), decide_eq_true r3]; rfl
set_option maxHeartbeats 400000 in
theorem lay_f {x : Int32} (ha : ∀ k r, ¬ Acc x k r) {T : Bk} (h0 : (T 0).length = 4) (h2 : (T 2).length = 7) : ∃ l m, l.length = 7 ∧ m.length = 4 ∧ gX6_layRow x T = some (0, up (up T 2 l) 0 m) := by
  have hid : T = up (up T 2 (T 2)) 0 (T 0) := by rw [up_self]; exact (up_self T 0).symm
  rcases Int32.lt_or_le x 0 with hx | hx
  · refine ⟨T 2, T 0, h2, h0, ?_⟩
    rw [← hid, lR_eq]
    unfold lR1
    rw [show loopC 100000 (lR1B x) (0, 1) T = lR1B x (loopC 99999 (lR1B x)) (0, 1) T from rfl]
    unfold lR1B
    simp only [jn_eq, lt_eq]
    rw [bd_ln, h2, if_neg (show ¬ nI 7 ≤ (0 : Int32) by decide), if_pos (show x < 2 * 1 from Int32.lt_trans hx (by decide)), if_pos trivial]; rfl
  · obtain ⟨r, hr, rfl⟩ := pos_nat hx
    obtain ⟨k, hk⟩ : ∃ k, fstp (fun j => decide (r < 2 * 10 ^ j)) 0 7 = k := ⟨_, rfl⟩
    have hkl := (fstp_spec (fun j => decide (r < 2 * 10 ^ j)) 7 0).2.1
    rw [hk] at hkl
    have hl := p_lR (T := T) h0 h2 hr hk
    by_cases c : k = 0 ∨ r < 10 ^ k ∨ ¬ r < 2 * 10 ^ k
    · rw [if_pos c] at hl
      exact ⟨T 2, T 0, h2, h0, by rw [← hid]; exact hl⟩
    · rw [if_neg c] at hl
      have k1 : 1 ≤ k := by omega
      have r1 : 10 ^ k ≤ r := by omega
      have r2 : r < 2 * 10 ^ k := by omega
      have hs : ¬ setD r k = 2 ^ k - 1 := fun q => ha k r ⟨k1, by omega, rfl, r1, r2, q⟩
      rw [p_lR2 h0 h2 k1 (by omega) (by omega), setD_sub r1 k (Nat.le_refl _), decide_eq_false hs] at hl
      exact ⟨_, _, by rw [dF_len, h2], by rw [List.length_set, h0], hl⟩
set_option maxHeartbeats 400000 in
theorem p_tO2 {k r : Nat} {B : Bk} (h2 : (B 24).length = 7) (k1 : 1 ≤ k) (hk : k ≤ 7) (hr : r < 2 ^ 31) (w : Int32) : tO2 (nI k, w) (nI r) (nI k - 1) B = some (nI (decide (r / 10 ^ k = 1) && decide (setD r k = 2 ^ k - 1)).toNat, up B 24 (dF r k (B 24) k)) := by
  unfold tO2
  refine loopF k (fun j => (nI (r / 10 ^ j), nI (setD r j), nI k - nI (j + 1))) (fun j => up B 24 (dF r k (B 24) j)) (by rw [Nat.pow_zero, Nat.div_one]; rfl) (up_self B 24) (fun j hj self => ?_) (fun self => ?_) (by omega)
  · obtain ⟨m, hm⟩ : ∃ m, dF r k (B 24) j = m := ⟨_, rfl⟩
    have hml : m.length = 7 := by rw [← hm, dF_len, h2]
    have hs : dF r k (B 24) (j + 1) = m.set (k - 1 - j) (nI (r / 10 ^ j % 10)) := by rw [← hm]; rfl
    have hU : (up B 24 m 24).length = 7 := by rw [up_same]; exact hml
    obtain ⟨d1, d2⟩ := dg_step (j := j) hr
    have hd : r / 10 ^ j % 10 < 10 := Nat.mod_lt _ (by decide)
    rw [hs, hm]
    unfold tO2B
    simp only [nz_fn (show ¬ (10 : Int32) = 0 by decide), lt_eq]
    rw [d1, d2, sub_m1, pk_sub (a := k) (b := j + 1) (by omega), if_neg (nI_pos (by omega)), show k - (j + 1) = k - 1 - j by omega, bd_sa _ (by omega) (by omega), up_up, up_same, bd_la _ (by rw [up_same, List.length_set]; omega) (by rw [up_same, List.length_set]; omega), up_same, gd_set_same (by omega), show (1 : Int32) <<< (nI (r / 10 ^ j % 10) &&& 31) = nI (2 ^ (r / 10 ^ j % 10)) from shl_n _ (by omega), fa_or]
    rfl
  · have hq : r / 10 ^ k ≤ r := Nat.div_le_self _ _
    unfold tO2B
    simp only [jn_eq]
    rw [if_pos (show nI k - nI (k + 1) < 0 from pk_sneg (by omega) (by omega)), two_k hk]
    by_cases a : r / 10 ^ k = 1
    · rw [if_pos (show nI (r / 10 ^ k) = 1 by rw [a]; rfl), decide_eq_true a, Bool.true_and]
      by_cases c : setD r k = 2 ^ k - 1
      · rw [if_pos ((setD_eq hk).mpr c), decide_eq_true c]; rfl
      · rw [if_neg (fun q => c ((setD_eq hk).mp q)), decide_eq_false c]; rfl
    · rw [if_neg (show ¬ nI (r / 10 ^ k) = 1 from fun q => a ((nI_eq (b := 1) (by omega) (by omega)).mp q)), decide_eq_false a, Bool.false_and]; rfl
set_option maxHeartbeats 400000 in
theorem p_tO {r : Nat} {B : Bk} (hr : r < 2 ^ 31) {k : Nat} (hk : fstp (fun j => decide (r / 10 ^ j ≤ 9)) 0 10 = k) : gX11_takesOrder (nI r) B = bd (gX11_isIn (nI k) 1 7) (fun r3 => if r3 = 0 then rz 0 else bd (sv 0 46 (nI k)) (fun _ => tO2 (nI k, nI (r / 10 ^ k)) (nI r) (nI k - 1))) B := by
  have hd : ∀ j, r / 10 ^ j ≤ r := fun j => Nat.div_le_self _ _
  rw [tO_eq]
  unfold tO1
  have hlo := loopP (n := 10) (F := tO1B (nI r)) (fun j => (nI j, nI (r / 10 ^ j))) (A := B) (fun j => decide (r / 10 ^ j ≤ 9)) (fun j => bd (gX11_isIn (nI j) 1 7) (fun r3 => if r3 = 0 then rz 0 else bd (sv 0 46 (nI j)) (fun _ => tO2 (nI j, nI (r / 10 ^ j)) (nI r) (nI j - 1))) B) (fun j hj f => ?_) (fun f => ?_) 10 0 100000 rfl (by omega)
  · rw [hk] at hlo
    rw [Nat.pow_zero, Nat.div_one] at hlo
    exact hlo
  · have := hd j
    unfold tO1B
    simp only [lt_eq, nz_fn (show ¬ (10 : Int32) = 0 by decide)]
    by_cases c : r / 10 ^ j ≤ 9
    · rw [if_pos (show nI (r / 10 ^ j) ≤ 9 from (nI_leI (b := 9) (by omega) (by omega)).mpr c), if_pos (decide_eq_true c)]
    · rw [if_neg (show ¬ nI (r / 10 ^ j) ≤ 9 from fun q => c ((nI_leI (b := 9) (by omega) (by omega)).mp q)), if_neg (fun q => c (of_decide_eq_true q)), (dg_step hr).1, nI_1]
  · have e : r / 10 ^ 10 = 0 := Nat.div_eq_of_lt (by omega)
    unfold tO1B
    rw [if_pos (show nI (r / 10 ^ 10) ≤ 9 by rw [e]; decide)]
    rfl
set_option maxHeartbeats 400000 in
theorem take_t {x : Int32} {k r : Nat} (ha : Acc x k r) {B : Bk} (h0 : (B 0).length = 68) (h2 : (B 24).length = 7) : ∃ l, gX11_takesOrder x B = some (1, up (up B 0 ((B 0).set 46 (nI k))) 24 l) ∧ RL k l (dgs r k) := by
  obtain ⟨k1, k7, rfl, r1, r2, r3⟩ := ha
  obtain ⟨q1, q2⟩ := p10 k k7
  have hdiv : r / 10 ^ k = 1 := by
    have a : r / 10 ^ k < 2 := Nat.div_lt_of_lt_mul (by omega)
    have b : 0 < r / 10 ^ k := Nat.div_pos r1 q2
    omega
  have hf : fstp (fun j => decide (r / 10 ^ j ≤ 9)) 0 10 = k := by
    refine fstp_at (fun p hp => decide_eq_false (fun q => ?_)) (decide_eq_true (by omega)) (by omega)
    have e : 10 * 10 ^ p ≤ 10 ^ k := by rw [← Nat.pow_succ']; exact Nat.pow_le_pow_right (by decide) hp
    have : 10 ≤ r / 10 ^ p := (Nat.le_div_iff_mul_le (Nat.pow_pos (by decide))).mpr (by omega)
    omega
  refine ⟨dF r k (B 24) k, ?_, dF_RL h2 k7⟩
  have hw : (1 : Int32) ≤ nI k ∧ nI k ≤ 7 := ⟨(nI_leI (a := 1) (by omega) (by omega)).mpr k1, (nI_leI (b := 7) (by omega) (by omega)).mpr k7⟩
  rw [p_tO (by omega) hf, bd_in, b2i_t hw, if_neg (by decide), bd_sv _ (by omega), p_tO2 (B := up B 0 ((B 0).set 46 (nI k))) h2 k1 k7 (by omega), decide_eq_true r3, decide_eq_true hdiv]
  rfl
set_option maxHeartbeats 400000 in
theorem take_f {x : Int32} (ha : ∀ k r, ¬ Acc x k r) {B : Bk} (h0 : (B 0).length = 68) (h2 : (B 24).length = 7) : ∃ l v, l.length = 7 ∧ gX11_takesOrder x B = some (0, up (up B 0 ((B 0).set 46 v)) 24 l) := by
  have hid : ∀ R : Option (Int32 × Bk), R = some (0, B) → ∃ l v, l.length = 7 ∧ R = some (0, up (up B 0 ((B 0).set 46 v)) 24 l) := fun R hR => by
    refine ⟨B 24, (B 0).getD 46 0, h2, ?_⟩
    rw [hR, set_self rfl, up_self B 0, up_self B 24]
  rcases Int32.lt_or_le x 0 with hx | hx
  · refine hid _ ?_
    rw [tO_eq]
    unfold tO1
    rw [show loopC 100000 (tO1B x) (0, x) B = tO1B x (loopC 99999 (tO1B x)) (0, x) B from rfl]
    unfold tO1B
    rw [if_pos (show x ≤ 9 from Int32.le_of_lt (Int32.lt_trans hx (by decide))), bd_in, b2i_f (show ¬ ((1 : Int32) ≤ 0 ∧ (0 : Int32) ≤ 7) by decide)]; rfl
  · obtain ⟨r, hr, rfl⟩ := pos_nat hx
    obtain ⟨k, hk⟩ : ∃ k, fstp (fun j => decide (r / 10 ^ j ≤ 9)) 0 10 = k := ⟨_, rfl⟩
    have hkl := (fstp_spec (fun j => decide (r / 10 ^ j ≤ 9)) 10 0).2.1
    rw [hk] at hkl
    have hl := p_tO (B := B) hr hk
    by_cases c : 1 ≤ k ∧ k ≤ 7
    · obtain ⟨k1, k7⟩ := c
      obtain ⟨q1, q2⟩ := p10 k k7
      have hw : (1 : Int32) ≤ nI k ∧ nI k ≤ 7 := ⟨(nI_leI (a := 1) (by omega) (by omega)).mpr k1, (nI_leI (b := 7) (by omega) (by omega)).mpr k7⟩
      rw [bd_in, b2i_t hw, if_neg (by decide), bd_sv _ (by omega), p_tO2 (B := up B 0 ((B 0).set 46 (nI k))) h2 k1 k7 (by omega)] at hl
      refine ⟨dF r k (B 24) k, nI k, ?_, ?_⟩
      · rw [dF_len, h2]
      · rw [hl]
        have e : (decide (r / 10 ^ k = 1) && decide (setD r k = 2 ^ k - 1)) = false := by
          rw [Bool.and_eq_false_iff]
          by_cases d : r / 10 ^ k = 1
          · refine Or.inr (decide_eq_false (fun q => ha k r ⟨k1, k7, rfl, ?_, ?_, q⟩))
            · have := Nat.div_add_mod r (10 ^ k)
              rw [d] at this
              omega
            · have := Nat.div_add_mod r (10 ^ k)
              have := Nat.mod_lt r q2
              rw [d] at *
              omega
          · exact Or.inl (decide_eq_false d)
        rw [e]; rfl
    · rw [bd_in, b2i_f (fun q => c ⟨(nI_leI (a := 1) (by omega) (by omega)).mp q.1, (nI_leI (b := 7) (by omega) (by omega)).mp q.2⟩)] at hl
      exact hid _ hl
