/-! PURE: bits (the first rows are pasted from kit/laws/BITS and NUMBERS) -/
def bt (x : Int32) (i : Nat) : Bool := x.toBitVec.getLsbD i
theorem b_ext {x y : Int32} (h : ∀ i, i < 32 → bt x i = bt y i) : x = y := Int32.toBitVec_inj.mp (BitVec.eq_of_getLsbD_eq (fun i hi => h i hi))
theorem b_or (x y : Int32) (i : Nat) : bt (x ||| y) i = (bt x i || bt y i) := by unfold bt; rw [Int32.toBitVec_or, BitVec.getLsbD_or]
theorem b_and (x y : Int32) (i : Nat) : bt (x &&& y) i = (bt x i && bt y i) := by unfold bt; rw [Int32.toBitVec_and, BitVec.getLsbD_and]
theorem b_xor (x y : Int32) (i : Nat) : bt (x ^^^ y) i = (bt x i ^^ bt y i) := by unfold bt; rw [Int32.toBitVec_xor, BitVec.getLsbD_xor]
theorem b_big {x : Int32} {i : Nat} (h : 32 ≤ i) : bt x i = false := BitVec.getLsbD_of_ge _ _ h
theorem b_m1 : ∀ i, i < 32 → bt (-1) i = true := by decide +kernel
theorem b_0 (i : Nat) : bt 0 i = false := BitVec.getLsbD_zero
theorem s_l : ∀ n, n < 32 → ((nI n &&& 31).toBitVec.smod 32).toNat = n := by decide +kernel
theorem s_u : ∀ n, n < 32 → (((nI n).toUInt32 &&& Int32.toUInt32 31).toBitVec % 32).toNat = n := by decide +kernel
theorem b_shl (n : Nat) (hn : n < 32) (x : Int32) {i : Nat} (hi : i < 32) : bt (x <<< (nI n &&& 31)) i = (decide (n ≤ i) && bt x (i - n)) := by
  unfold bt
  rw [Int32.toBitVec_shiftLeft]
  show (x.toBitVec <<< ((nI n &&& 31).toBitVec.smod 32).toNat).getLsbD i = _
  rw [s_l n hn, BitVec.getLsbD_shiftLeft]
  rcases Nat.lt_or_ge i n with h | h
  · simp [h, Nat.not_le.mpr h]
  · simp [hi, h, Nat.not_lt.mpr h]
theorem b_ushr (n : Nat) (hn : n < 32) (x : Int32) (i : Nat) : bt ((x.toUInt32 >>> ((nI n).toUInt32 &&& Int32.toUInt32 31)).toInt32) i = bt x (n + i) := by
  show (x.toUInt32 >>> ((nI n).toUInt32 &&& Int32.toUInt32 31)).toBitVec.getLsbD i = x.toUInt32.toBitVec.getLsbD (n + i)
  rw [UInt32.toBitVec_shiftRight]
  show (x.toUInt32.toBitVec >>> (((nI n).toUInt32 &&& Int32.toUInt32 31).toBitVec % 32).toNat).getLsbD i = _
  rw [s_u n hn, BitVec.getLsbD_ushiftRight]
theorem b_sshr (n : Nat) (hn : n < 32) (x : Int32) {i : Nat} (hi : i < 32) : bt (x >>> (nI n &&& 31)) i = if n + i < 32 then bt x (n + i) else bt x 31 := by
  unfold bt
  rw [Int32.toBitVec_shiftRight]
  show (x.toBitVec.sshiftRight ((nI n &&& 31).toBitVec.smod 32).toNat).getLsbD i = _
  rw [s_l n hn, BitVec.getLsbD_sshiftRight, BitVec.msb_eq_getLsbD_last]
  simp [hi]
theorem fa_and (a b : Nat) : nI a &&& nI b = nI (a &&& b) := by
  apply Int32.toBitVec_inj.1
  show BitVec.ofNat 32 a &&& BitVec.ofNat 32 b = BitVec.ofNat 32 (a &&& b)
  apply BitVec.eq_of_getLsbD_eq
  intro i hi
  simp [hi]
theorem fa_or (a b : Nat) : nI a ||| nI b = nI (a ||| b) := by
  apply Int32.toBitVec_inj.1
  show BitVec.ofNat 32 a ||| BitVec.ofNat 32 b = BitVec.ofNat 32 (a ||| b)
  apply BitVec.eq_of_getLsbD_eq
  intro i hi
  simp [hi]
theorem ish_n {x k : Nat} (hx : x < 2 ^ 32) (hk : k < 32) : ish (nI x) (nI k) = nI (x / 2 ^ k) := pk_ushrN hx (nI k) k (s_u k hk)
theorem bt_1 : ∀ i, i < 32 → bt (nI 1) i = decide (i = 0) := by decide +kernel
theorem bt_sh {b j : Nat} (hb : b < 32) (hj : j < 32) : bt (nI 1 <<< (nI b &&& nI 31)) j = decide (j = b) := by
  have h := b_shl b hb (nI 1) hj
  rw [show (nI 31 : Int32) = 31 from rfl, h]
  by_cases h1 : b ≤ j
  · rw [bt_1 _ (by omega)]
    by_cases h2 : j = b
    · subst h2; simp
    · have : ¬ j - b = 0 := by omega
      simp [h1, h2, this]
  · have h2 : ¬ j = b := by omega
    simp [h1, h2]
theorem bt_low (x : Int32) : x &&& nI 1 = if bt x 0 then nI 1 else 0 := by
  apply b_ext
  intro i hi
  rw [b_and, bt_1 i hi]
  by_cases h : i = 0
  · subst h
    cases hb : bt x 0 <;> simp [b_0, bt_1]
  · cases hb : bt x 0 <;> simp [b_0, bt_1 i hi, h]
theorem has_bit {x : Int32} {j : Nat} (hj : j < 31) : (x >>> (nI j &&& nI 31)) &&& nI 1 = if bt x j then nI 1 else 0 := by
  rw [bt_low, show (nI 31 : Int32) = 31 from rfl, b_sshr j (by omega) x (by decide), if_pos (show j + 0 < 32 by omega), Nat.add_zero]
theorem ish_bit {x : Int32} {j : Nat} (hj : j < 31) : (ish x (nI j)) &&& nI 1 = if bt x j then nI 1 else 0 := by
  rw [bt_low]
  have h := b_ushr j (by omega) x 0
  show (if bt ((x.toUInt32 >>> ((nI j).toUInt32 &&& Int32.toUInt32 31)).toInt32) 0 then _ else _) = _
  rw [h, Nat.add_zero]
theorem fr_bt {l3 l4 : List Int32} {q j : Nat} (hq : q < 12) (hj : j < 12) : ∀ n, (∀ i, i < n → ∃ a b : Nat, l3.getD i 0 = nI a ∧ l4.getD i 0 = nI b ∧ a < 12 ∧ b < 12) → (bt (frF l3 l4 (nI q) n) j = true ↔ ∃ i, i < n ∧ ((l3.getD i 0 = nI q ∧ l4.getD i 0 = nI j) ∨ (l4.getD i 0 = nI q ∧ l3.getD i 0 = nI j)))
  | 0, _ => by
    show bt 0 j = true ↔ _
    rw [b_0]
    exact ⟨fun h => (by cases h), fun ⟨i, hi, _⟩ => absurd hi (Nat.not_lt_zero i)⟩
  | n + 1, h => by
    have ih := fr_bt hq hj n (fun i hi => h i (by omega))
    obtain ⟨a, b, ha, hb, ha2, hb2⟩ := h n (by omega)
    have e : bt (frF l3 l4 (nI q) (n + 1)) j = (bt (frF l3 l4 (nI q) n) j || (decide (a = q) && decide (j = b)) || (decide (b = q) && decide (j = a))) := by
      show bt (if l4.getD n 0 = nI q then (if l3.getD n 0 = nI q then frF l3 l4 (nI q) n ||| (nI 1 <<< (l4.getD n 0 &&& nI 31)) else frF l3 l4 (nI q) n) ||| (nI 1 <<< (l3.getD n 0 &&& nI 31)) else if l3.getD n 0 = nI q then frF l3 l4 (nI q) n ||| (nI 1 <<< (l4.getD n 0 &&& nI 31)) else frF l3 l4 (nI q) n) j = _
      rw [ha, hb]
      simp only [nI_eq (show a < 2 ^ 31 by omega) (show q < 2 ^ 31 by omega), nI_eq (show b < 2 ^ 31 by omega) (show q < 2 ^ 31 by omega)]
      by_cases h1 : b = q
      · by_cases h2 : a = q
        · simp only [h1, h2, if_true, b_or, bt_sh (show q < 32 by omega) (show j < 32 by omega), decide_true, Bool.true_and]
        · simp only [h1, h2, if_true, if_false, b_or, bt_sh (show a < 32 by omega) (show j < 32 by omega), decide_true, decide_false, Bool.true_and, Bool.false_and, Bool.or_false]
      · by_cases h2 : a = q
        · simp only [h1, h2, if_true, if_false, b_or, bt_sh (show b < 32 by omega) (show j < 32 by omega), decide_true, decide_false, Bool.true_and, Bool.false_and, Bool.or_false]
        · simp only [h1, h2, if_false, decide_false, Bool.false_and, Bool.or_false]
    rw [e]
    simp only [Bool.or_eq_true, Bool.and_eq_true, decide_eq_true_eq]
    rw [ih]
    constructor
    · rintro ((⟨i, hi, hr⟩ | ⟨h1, h2⟩) | ⟨h1, h2⟩)
      · exact ⟨i, by omega, hr⟩
      · exact ⟨n, by omega, Or.inl ⟨by rw [ha, h1], by rw [hb, h2]⟩⟩
      · exact ⟨n, by omega, Or.inr ⟨by rw [hb, h1], by rw [ha, h2]⟩⟩
    · rintro ⟨i, hi, hr⟩
      by_cases hin : i = n
      · subst hin
        rw [ha, hb] at hr
        simp only [nI_eq (show a < 2 ^ 31 by omega) (show q < 2 ^ 31 by omega), nI_eq (show b < 2 ^ 31 by omega) (show q < 2 ^ 31 by omega), nI_eq (show a < 2 ^ 31 by omega) (show j < 2 ^ 31 by omega), nI_eq (show b < 2 ^ 31 by omega) (show j < 2 ^ 31 by omega)] at hr
        omega
      · exact Or.inl (Or.inl ⟨i, by omega, hr⟩)
theorem fr_sym {l3 l4 : List Int32} {n q j : Nat} (hq : q < 12) (hj : j < 12) (h : ∀ i, i < n → ∃ a b : Nat, l3.getD i 0 = nI a ∧ l4.getD i 0 = nI b ∧ a < 12 ∧ b < 12) : bt (frF l3 l4 (nI q) n) j = bt (frF l3 l4 (nI j) n) q := by
  rw [Bool.eq_iff_iff, fr_bt hq hj n h, fr_bt hj hq n h]
  constructor <;> exact fun ⟨i, hi, hr⟩ => ⟨i, hi, by rcases hr with ⟨a, b⟩ | ⟨a, b⟩ <;> first | exact Or.inr ⟨b, a⟩ | exact Or.inl ⟨b, a⟩⟩
/-- ones counted by halves -/
def c1 (b : Nat) : Nat := b - (b / 2 &&& 85)
def c2 (b : Nat) : Nat := (c1 b &&& 51) + (c1 b / 4 &&& 51)
def pc8 (b : Nat) : Nat := (c2 b + c2 b / 16) % 16
theorem pc_b : ∀ b : Nat, b < 256 → (b / 2 &&& 85) ≤ b ∧ c1 b < 256 ∧ c2 b ≤ 68 ∧ c2 b % 16 ≤ 4 ∧ pc8 b ≤ 8 ∧ ((b / 2 + 128) &&& 85) = (b / 2 &&& 85) ∧ (b / 2 &&& 85) < 256 ∧ (c1 b &&& 51) < 128 ∧ (c1 b / 4 &&& 51) < 128 := by decide +kernel
theorem pc_q : ∀ z : Nat, z < 4 → ∀ b : Nat, b < 256 → ((b / 4 + 64 * z) &&& 51) = (b / 4 &&& 51) := by decide +kernel
theorem pc_k : ∀ k : Nat, k < 8 → ∀ b : Nat, b < 2 ^ k → pc8 (b + 2 ^ k) = pc8 b + 1 := by decide +kernel
theorem land_s (a b m k : Nat) (hb : b < 256) (hk : k < 256) : (256 * a + b) &&& (256 * m + k) = 256 * (a &&& m) + (b &&& k) := by
  have h1 : ((256 * a + b) &&& (256 * m + k)) / 2 ^ 8 = (256 * a + b) / 2 ^ 8 &&& (256 * m + k) / 2 ^ 8 := Nat.and_div_two_pow
  have h2 : ((256 * a + b) &&& (256 * m + k)) % 2 ^ 8 = (256 * a + b) % 2 ^ 8 &&& (256 * m + k) % 2 ^ 8 := Nat.and_mod_two_pow
  rw [show (2 : Nat) ^ 8 = 256 from rfl, show (256 * a + b) / 256 = a by omega, show (256 * m + k) / 256 = m by omega] at h1
  rw [show (2 : Nat) ^ 8 = 256 from rfl, show (256 * a + b) % 256 = b by omega, show (256 * m + k) % 256 = k by omega] at h2
  omega
theorem land_3 (u0 u1 u2 m : Nat) (h0 : u0 < 256) (h1 : u1 < 256) (h2 : u2 < 256) (hm : m < 256) : (u0 + 256 * u1 + 65536 * u2) &&& (m + 256 * m + 65536 * m + 16777216 * m) = (u0 &&& m) + 256 * (u1 &&& m) + 65536 * (u2 &&& m) := by
  have e1 : u0 + 256 * u1 + 65536 * u2 = 256 * (256 * (256 * 0 + u2) + u1) + u0 := by omega
  have e2 : m + 256 * m + 65536 * m + 16777216 * m = 256 * (256 * (256 * m + m) + m) + m := by omega
  rw [e1, e2, land_s _ _ _ _ h0 hm, land_s _ _ _ _ h1 hm, land_s _ _ _ _ h2 hm, Nat.zero_and]
  omega
theorem pc_all {b0 b1 b2 : Nat} (h0 : b0 < 256) (h1 : b1 < 256) (h2 : b2 < 256) (A : Bk) : gJ6_bitCount_0f7a4 (nI (b0 + 256 * b1 + 65536 * b2)) A = some (nI (pc8 b0 + pc8 b1 + pc8 b2), A) := by
  obtain ⟨p1, p2, p3, p4, p5, p6, p7, p8, p9⟩ := pc_b b0 h0
  obtain ⟨q1, q2, q3, q4, q5, q6, q7, q8, q9⟩ := pc_b b1 h1
  obtain ⟨r1, r2, r3, r4, r5, r6, r7, r8, r9⟩ := pc_b b2 h2
  have e1 : (b0 + 256 * b1 + 65536 * b2) / 2 ^ 1 = (b0 / 2 + 128 * (b1 % 2)) + 256 * (b1 / 2 + 128 * (b2 % 2)) + 65536 * (b2 / 2) := by omega
  have f1 : ∀ b z, b < 256 → z < 2 → ((b / 2 + 128 * z) &&& 85) = (b / 2 &&& 85) := by
    intro b z hb hz
    rcases Nat.lt_or_ge z 1 with hz1 | hz1
    · rw [show z = 0 by omega]; rfl
    · rw [show z = 1 by omega]; exact (pc_b b hb).2.2.2.2.2.1
  have s1 : (b0 + 256 * b1 + 65536 * b2) / 2 ^ 1 &&& 1431655765 = (b0 / 2 &&& 85) + 256 * (b1 / 2 &&& 85) + 65536 * (b2 / 2 &&& 85) := by
    rw [e1, show (1431655765 : Nat) = 85 + 256 * 85 + 65536 * 85 + 16777216 * 85 from rfl, land_3 _ _ _ _ (by omega) (by omega) (by omega) (by decide), f1 _ _ h0 (by omega), f1 _ _ h1 (by omega)]
  have y1 : (b0 + 256 * b1 + 65536 * b2) - ((b0 + 256 * b1 + 65536 * b2) / 2 ^ 1 &&& 1431655765) = c1 b0 + 256 * c1 b1 + 65536 * c1 b2 := by
    rw [s1]; unfold c1; omega
  have g1 : ((b0 + 256 * b1 + 65536 * b2) / 2 ^ 1 &&& 1431655765) ≤ (b0 + 256 * b1 + 65536 * b2) := by
    rw [s1]; omega
  have s2 : (c1 b0 + 256 * c1 b1 + 65536 * c1 b2) &&& 858993459 = (c1 b0 &&& 51) + 256 * (c1 b1 &&& 51) + 65536 * (c1 b2 &&& 51) := by
    rw [show (858993459 : Nat) = 51 + 256 * 51 + 65536 * 51 + 16777216 * 51 from rfl, land_3 _ _ _ _ p2 q2 r2 (by decide)]
  have s3 : (c1 b0 + 256 * c1 b1 + 65536 * c1 b2) / 2 ^ 2 &&& 858993459 = (c1 b0 / 4 &&& 51) + 256 * (c1 b1 / 4 &&& 51) + 65536 * (c1 b2 / 4 &&& 51) := by
    rw [show (c1 b0 + 256 * c1 b1 + 65536 * c1 b2) / 2 ^ 2 = (c1 b0 / 4 + 64 * (c1 b1 % 4)) + 256 * (c1 b1 / 4 + 64 * (c1 b2 % 4)) + 65536 * (c1 b2 / 4) by omega, show (858993459 : Nat) = 51 + 256 * 51 + 65536 * 51 + 16777216 * 51 from rfl, land_3 _ _ _ _ (by omega) (by omega) (by omega) (by decide), pc_q _ (by omega) _ p2, pc_q _ (by omega) _ q2]
  have y2 : ((c1 b0 + 256 * c1 b1 + 65536 * c1 b2) &&& 858993459) + ((c1 b0 + 256 * c1 b1 + 65536 * c1 b2) / 2 ^ 2 &&& 858993459) = c2 b0 + 256 * c2 b1 + 65536 * c2 b2 := by
    rw [s2, s3]; unfold c2; omega
  have s4 : (c2 b0 + 256 * c2 b1 + 65536 * c2 b2) + (c2 b0 + 256 * c2 b1 + 65536 * c2 b2) / 2 ^ 4 = (c2 b0 + c2 b0 / 16 + 16 * (c2 b1 % 16)) + 256 * (c2 b1 + c2 b1 / 16 + 16 * (c2 b2 % 16)) + 65536 * (c2 b2 + c2 b2 / 16) := by omega
  have f15 : ∀ u z, (u + 16 * z) &&& 15 = u % 16 := fun u z => by
    rw [show (15 : Nat) = 2 ^ 4 - 1 from rfl, Nat.and_two_pow_sub_one_eq_mod]; omega
  have y3 : ((c2 b0 + 256 * c2 b1 + 65536 * c2 b2) + (c2 b0 + 256 * c2 b1 + 65536 * c2 b2) / 2 ^ 4) &&& 252645135 = pc8 b0 + 256 * pc8 b1 + 65536 * pc8 b2 := by
    rw [s4, show (252645135 : Nat) = 15 + 256 * 15 + 65536 * 15 + 16777216 * 15 from rfl, land_3 _ _ _ _ (by omega) (by omega) (by omega) (by decide), f15, f15]
    have := f15 (c2 b2 + c2 b2 / 16) 0
    rw [Nat.mul_zero, Nat.add_zero] at this
    rw [this]; rfl
  have y5 : ((pc8 b0 + 256 * pc8 b1 + 65536 * pc8 b2) + (pc8 b0 + 256 * pc8 b1 + 65536 * pc8 b2) / 2 ^ 8) + ((pc8 b0 + 256 * pc8 b1 + 65536 * pc8 b2) + (pc8 b0 + 256 * pc8 b1 + 65536 * pc8 b2) / 2 ^ 8) / 2 ^ 16 &&& 63 = pc8 b0 + pc8 b1 + pc8 b2 := by
    have a1 : (pc8 b0 + 256 * pc8 b1 + 65536 * pc8 b2) / 2 ^ 8 = pc8 b1 + 256 * pc8 b2 := by clear s1 y1 g1 s2 s3 y2 s4 y3 e1 f1; omega
    have a2 : (pc8 b0 + 256 * pc8 b1 + 65536 * pc8 b2 + (pc8 b1 + 256 * pc8 b2)) / 2 ^ 16 = pc8 b2 := by clear s1 y1 g1 s2 s3 y2 s4 y3 e1 f1 a1; omega
    rw [a1, a2, show (63 : Nat) = 2 ^ 6 - 1 from rfl, Nat.and_two_pow_sub_one_eq_mod]
    clear s1 y1 g1 s2 s3 y2 s4 y3 e1 f1 a1 a2; omega
  unfold gJ6_bitCount_0f7a4
  simp only [lt_eq, e_lit2]
  rw [ish_n (by omega) (by decide), fa_and, pk_sub g1, y1, ish_n (by omega) (by decide), fa_and, fa_and, nI_add, y2, ish_n (by omega) (by decide), nI_add, fa_and, y3, ish_n (by omega) (by decide), nI_add, ish_n (by omega) (by decide), nI_add, fa_and, y5]
  rfl
/-- a set gathered, and how many are in it -/
def setN (p : Nat → Bool) : Nat → Nat := fo (fun i a => if p i then a + 2 ^ i else a) 0
def cntN (p : Nat → Bool) : Nat → Nat := fo (fun i a => if p i then a + 1 else a) 0
theorem setN_lt (p : Nat → Bool) : ∀ n, setN p n < 2 ^ n
  | 0 => by show (0 : Nat) < 2 ^ 0; decide
  | n + 1 => by
    have h := setN_lt p n
    show (if p n then setN p n + 2 ^ n else setN p n) < _
    rw [Nat.pow_succ]
    by_cases hp : p n = true
    · rw [if_pos hp]; omega
    · rw [if_neg hp]; omega
theorem cntN_le (p : Nat → Bool) : ∀ n, cntN p n ≤ n
  | 0 => Nat.le_refl _
  | n + 1 => by
    have h := cntN_le p n
    show (if p n then cntN p n + 1 else cntN p n) ≤ _
    by_cases hp : p n = true
    · rw [if_pos hp]; omega
    · rw [if_neg hp]; omega
theorem shl_n : ∀ i, i < 31 → nI 1 <<< (nI i &&& nI 31) = nI (2 ^ i) := by decide +kernel
theorem setN_I (p : Nat → Bool) : ∀ n, n ≤ 20 → fo (fun i a => if p i = true then a ||| (nI 1 <<< (nI i &&& nI 31)) else a) 0 n = nI (setN p n)
  | 0, _ => rfl
  | n + 1, hn => by
    have h := setN_lt p n
    show (if p n = true then fo (fun i a => if p i = true then a ||| (nI 1 <<< (nI i &&& nI 31)) else a) 0 n ||| (nI 1 <<< (nI n &&& nI 31)) else fo (fun i a => if p i = true then a ||| (nI 1 <<< (nI i &&& nI 31)) else a) 0 n) = nI (if p n = true then setN p n + 2 ^ n else setN p n)
    rw [setN_I p n (by omega)]
    by_cases hp : p n = true
    · rw [if_pos hp, if_pos hp, shl_n n (by omega), fa_or]
      have := Nat.two_pow_add_eq_or_of_lt h 1
      rw [Nat.mul_one] at this
      rw [Nat.or_comm, ← this, Nat.add_comm]
    · rw [if_neg hp, if_neg hp]
def pc24 (x : Nat) : Nat := pc8 (x % 256) + pc8 (x / 256 % 256) + pc8 (x / 65536)
theorem pc24_add {x n : Nat} (hn : n < 20) (hx : x < 2 ^ n) : pc24 (x + 2 ^ n) = pc24 x + 1 := by
  unfold pc24
  have hx2 : x < 2 ^ 20 := Nat.lt_trans hx (Nat.pow_lt_pow_right (by decide) hn)
  rcases Nat.lt_or_ge n 8 with h8 | h8
  · have hp : 2 ^ n ≤ 2 ^ 7 := Nat.pow_le_pow_right (by decide) (by omega)
    have := pc_k n h8 x hx
    rw [show (x + 2 ^ n) % 256 = x + 2 ^ n by omega, show x % 256 = x by omega, show (x + 2 ^ n) / 256 % 256 = x / 256 % 256 by omega, show (x + 2 ^ n) / 65536 = x / 65536 by omega, this]
    omega
  · rcases Nat.lt_or_ge n 16 with h16 | h16
    · have e : 2 ^ n = 256 * 2 ^ (n - 8) := by rw [show (256 : Nat) = 2 ^ 8 from rfl, ← Nat.pow_add]; congr 1; omega
      have hp : 2 ^ (n - 8) ≤ 2 ^ 7 := Nat.pow_le_pow_right (by decide) (by omega)
      have := pc_k (n - 8) (by omega) (x / 256) (by omega)
      rw [e, show (x + 256 * 2 ^ (n - 8)) % 256 = x % 256 by omega, show (x + 256 * 2 ^ (n - 8)) / 256 % 256 = x / 256 + 2 ^ (n - 8) by omega, show x / 256 % 256 = x / 256 by omega, show (x + 256 * 2 ^ (n - 8)) / 65536 = x / 65536 by omega, this]
      omega
    · have e : 2 ^ n = 65536 * 2 ^ (n - 16) := by rw [show (65536 : Nat) = 2 ^ 16 from rfl, ← Nat.pow_add]; congr 1; omega
      have hp : 2 ^ (n - 16) ≤ 2 ^ 3 := Nat.pow_le_pow_right (by decide) (by omega)
      have := pc_k (n - 16) (by omega) (x / 65536) (by omega)
      rw [e, show (x + 65536 * 2 ^ (n - 16)) % 256 = x % 256 by omega, show (x + 65536 * 2 ^ (n - 16)) / 256 % 256 = x / 256 % 256 by omega, show (x + 65536 * 2 ^ (n - 16)) / 65536 = x / 65536 + 2 ^ (n - 16) by omega, this]
      omega
theorem pc24_set (p : Nat → Bool) : ∀ n, n ≤ 20 → pc24 (setN p n) = cntN p n
  | 0, _ => by show pc24 0 = 0; decide
  | n + 1, hn => by
    have ih := pc24_set p n (by omega)
    show pc24 (if p n = true then setN p n + 2 ^ n else setN p n) = if p n = true then cntN p n + 1 else cntN p n
    by_cases hp : p n = true
    · rw [if_pos hp, if_pos hp, pc24_add (by omega) (setN_lt p n), ih]
    · rw [if_neg hp, if_neg hp, ih]
theorem bc_set (p : Nat → Bool) {n : Nat} (hn : n ≤ 20) (A : Bk) : gJ6_bitCount_0f7a4 (fo (fun i a => if p i = true then a ||| (nI 1 <<< (nI i &&& nI 31)) else a) 0 n) A = some (nI (cntN p n), A) := by
  have hl := setN_lt p n
  have hl2 : setN p n < 2 ^ 20 := Nat.lt_of_lt_of_le hl (Nat.pow_le_pow_right (by decide) hn)
  rw [setN_I p n hn, ← pc24_set p n hn]
  have h := pc_all (b0 := setN p n % 256) (b1 := setN p n / 256 % 256) (b2 := setN p n / 65536) (by omega) (by omega) (by omega) A
  rw [show setN p n % 256 + 256 * (setN p n / 256 % 256) + 65536 * (setN p n / 65536) = setN p n by omega] at h
  exact h
