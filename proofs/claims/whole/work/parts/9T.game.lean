/-! PURE: game, in natural numbers -/
def kT (v : Nat) : Bool := !((v &&& v / 2) &&& v / 4 == 0)
def kP (v p : Nat) : Nat := v ||| 2 ^ p
def kI (n v : Nat) : Bool := (List.range n).any fun p => kT (kP v p)
def kN (v : Nat) : Nat := (((v ||| v * 2) ||| v * 4) ||| v / 2) ||| v / 4
def kSf (v p : Nat) : Bool := !((kN v).testBit p)
def NBn : List Nat := [0, 1, 1, 1, 2, 2, 0, 3, 3, 1, 1, 1, 0, 4]
def kM (n v : Nat) : Nat → Nat × Nat := fo (fun p s => if (decide (p < n) && kSf v p) = true then (s.1, s.2 + 1) else (s.1 ^^^ NBn.getD s.2 0, 0)) (0, 0)
def kNm (n v : Nat) : Nat := (kM n v (n + 1)).1
def kSp (v : Nat) : Bool := (v &&& v / 2 == 0) && (v &&& v / 4 == 0)
/-- whether he wins whose turn it is -/
def kW (n v : Nat) : Bool := kI n v || !(kNm n v == 0)
def kG (W : Nat → Bool) (v p : Nat) : Bool := (kP v p != v) && (kT (kP v p) || !W (kP v p))
def fstp (good : Nat → Bool) : Nat → Nat → Nat
  | j, 0 => j
  | j, m + 1 => if good j then j else fstp good (j + 1) m
theorem fstp_congr {b c : Nat → Bool} : ∀ {m j : Nat}, (∀ i, j ≤ i → i < j + m → b i = c i) → fstp b j m = fstp c j m
  | 0, _, _ => rfl
  | m + 1, j, h => by
    show (if b j = true then j else fstp b (j + 1) m) = (if c j = true then j else fstp c (j + 1) m)
    rw [h j (Nat.le_refl _) (by omega), fstp_congr (fun i h1 h2 => h i (by omega) (by omega))]
theorem fstp_spec (good : Nat → Bool) : ∀ m j, j ≤ fstp good j m ∧ fstp good j m ≤ j + m ∧ (∀ p, j ≤ p → p < fstp good j m → good p = false) ∧ (fstp good j m < j + m → good (fstp good j m) = true)
  | 0, j => ⟨Nat.le_refl _, Nat.le_refl _, fun p h1 h2 => absurd h2 (by show ¬ p < j; omega), fun h => absurd h (by show ¬ j < j + 0; omega)⟩
  | m + 1, j => by
    obtain ⟨h1, h2, h3, h4⟩ := fstp_spec good m (j + 1)
    unfold fstp
    by_cases c : good j = true
    · rw [if_pos c]
      exact ⟨Nat.le_refl _, by omega, fun p a b => by omega, fun _ => c⟩
    · rw [if_neg c]
      refine ⟨by omega, by omega, fun p a b => ?_, fun a => h4 (by omega)⟩
      by_cases e : p = j
      · subst e; exact Bool.eq_false_iff.mpr c
      · exact h3 p (by omega) b
theorem fstp_at {good : Nat → Bool} {m q : Nat} (h1 : ∀ p, p < q → good p = false) (h2 : good q = true) (hq : q < m) : fstp good 0 m = q := by
  obtain ⟨a1, a2, a3, a4⟩ := fstp_spec good m 0
  rcases Nat.lt_trichotomy (fstp good 0 m) q with h | h | h
  · have := a4 (by omega)
    rw [h1 _ h] at this; cases this
  · exact h
  · have := a3 q (by omega) h
    rw [h2] at this; cases this
theorem kT_iff (v : Nat) : kT v = true ↔ ∃ i, v.testBit i = true ∧ v.testBit (i + 1) = true ∧ v.testBit (i + 2) = true := by
  have hb : ∀ i, ((v &&& v / 2) &&& v / 4).testBit i = ((v.testBit i && v.testBit (i + 1)) && v.testBit (i + 2)) := fun i => by
    rw [Nat.testBit_and, Nat.testBit_and, Nat.testBit_div_two, show v / 4 = v / 2 ^ 2 from rfl, Nat.testBit_div_two_pow]
  unfold kT
  rw [Bool.not_eq_true', beq_eq_false_iff_ne]
  constructor
  · intro h
    obtain ⟨i, hi⟩ := Nat.exists_testBit_of_ne_zero h
    rw [hb i, Bool.and_eq_true, Bool.and_eq_true] at hi
    exact ⟨i, hi.1.1, hi.1.2, hi.2⟩
  · rintro ⟨i, h1, h2, h3⟩ h
    have := hb i
    rw [h, Nat.zero_testBit, h1, h2, h3] at this
    cases this
theorem kT_mono {v w : Nat} (h : ∀ i, v.testBit i = true → w.testBit i = true) (ht : kT v = true) : kT w = true := by
  obtain ⟨i, h1, h2, h3⟩ := (kT_iff v).mp ht
  exact (kT_iff w).mpr ⟨i, h _ h1, h _ h2, h _ h3⟩
theorem kP_bit (v p i : Nat) : (kP v p).testBit i = (v.testBit i || decide (p = i)) := by
  unfold kP
  rw [Nat.testBit_or, Nat.testBit_two_pow]
theorem kP_in {v p : Nat} (h : v.testBit p = true) : kP v p = v := by
  apply Nat.eq_of_testBit_eq
  intro i
  rw [kP_bit]
  by_cases e : p = i
  · subst e; rw [h]; rfl
  · simp [e]
theorem kP_ne {v p : Nat} (h : v.testBit p = false) : kP v p ≠ v := by
  intro e
  have := kP_bit v p p
  rw [e, h] at this
  simp at this
theorem kP_lt {v p n : Nat} (hv : v < 2 ^ n) (hp : p < n) : kP v p < 2 ^ n := Nat.or_lt_two_pow hv (Nat.pow_lt_pow_right (by decide) hp)
theorem kP_gt {v p : Nat} (h : kP v p ≠ v) : v < kP v p := by
  have : v ≤ kP v p := Nat.left_le_or
  omega
theorem kI_iff (n v : Nat) : kI n v = true ↔ ∃ p, p < n ∧ kT (kP v p) = true := by
  unfold kI
  rw [List.any_eq_true]
  constructor
  · rintro ⟨p, h1, h2⟩; exact ⟨p, List.mem_range.mp h1, h2⟩
  · rintro ⟨p, h1, h2⟩; exact ⟨p, List.mem_range.mpr h1, h2⟩
/-- with two near each other one wins at once -/
theorem kI_of {n v : Nat} (hn : 3 ≤ n) (hv : v < 2 ^ n) (hs : kSp v = false) : kI n v = true := by
  rw [kI_iff]
  have hlt : ∀ i, v.testBit i = true → i < n := fun i hi => by
    rcases Nat.lt_or_ge i n with h | h
    · exact h
    · rw [Nat.testBit_lt_two_pow (Nat.lt_of_lt_of_le hv (Nat.pow_le_pow_right (by decide) h))] at hi; cases hi
  have ht : ∀ p i, (kP v p).testBit i = true → (kP v p).testBit (i + 1) = true → (kP v p).testBit (i + 2) = true → kT (kP v p) = true := fun p i a b c => (kT_iff _).mpr ⟨i, a, b, c⟩
  unfold kSp at hs
  rw [Bool.and_eq_false_iff, beq_eq_false_iff_ne, beq_eq_false_iff_ne] at hs
  rcases hs with h | h
  · obtain ⟨i, hi⟩ := Nat.exists_testBit_of_ne_zero h
    rw [Nat.testBit_and, Nat.testBit_div_two, Bool.and_eq_true] at hi
    have h2 := hlt _ hi.2
    rcases Nat.lt_or_ge (i + 2) n with h3 | h3
    · exact ⟨i + 2, h3, ht _ i (by rw [kP_bit, hi.1]; rfl) (by rw [kP_bit, hi.2]; rfl) (by rw [kP_bit]; simp)⟩
    · obtain ⟨j, rfl⟩ : ∃ j, i = j + 1 := ⟨i - 1, by omega⟩
      exact ⟨j, by omega, ht _ j (by rw [kP_bit]; simp) (by rw [kP_bit, hi.1]; rfl) (by rw [kP_bit, hi.2]; rfl)⟩
  · obtain ⟨i, hi⟩ := Nat.exists_testBit_of_ne_zero h
    rw [Nat.testBit_and, show v / 4 = v / 2 ^ 2 from rfl, Nat.testBit_div_two_pow, Bool.and_eq_true] at hi
    have h2 := hlt _ hi.2
    exact ⟨i + 1, by omega, ht _ i (by rw [kP_bit, hi.1]; rfl) (by rw [kP_bit]; simp) (by rw [kP_bit, hi.2]; rfl)⟩
/-- all rows of places in which none are near each other -/
def allS (f : Nat → Bool) : Nat → Nat → Bool
  | 0, a => f a
  | k + 1, a => allS f k (2 * a) && (!(a % 4 == 0) || allS f k (2 * a + 1))
theorem allS_of {f : Nat → Bool} : ∀ k a, allS f k a = true → ∀ v, kSp v = true → v / 2 ^ k = a → f v = true
  | 0, a, h, v, _, he => by
    rw [Nat.pow_zero, Nat.div_one] at he
    subst he; exact h
  | k + 1, a, h, v, hs, he => by
    have h' : (allS f k (2 * a) && (!(a % 4 == 0) || allS f k (2 * a + 1))) = true := h
    rw [Bool.and_eq_true, Bool.or_eq_true, Bool.not_eq_true', beq_eq_false_iff_ne] at h'
    rw [Nat.pow_succ, ← Nat.div_div_eq_div_mul] at he
    rcases Nat.mod_two_eq_zero_or_one (v / 2 ^ k) with q | q
    · exact allS_of k (2 * a) h'.1 v hs (by omega)
    · refine allS_of k (2 * a + 1) ?_ v hs (by omega)
      rcases h'.2 with h2 | h2
      · exfalso
        have b0 : v.testBit k = true := by
          rw [Nat.testBit_eq_decide_div_mod_eq, decide_eq_true_eq]; exact q
        unfold kSp at hs
        rw [Bool.and_eq_true, beq_iff_eq, beq_iff_eq] at hs
        have e1 : (v &&& v / 2).testBit k = false := by rw [hs.1, Nat.zero_testBit]
        have e2 : (v &&& v / 4).testBit k = false := by rw [hs.2, Nat.zero_testBit]
        rw [Nat.testBit_and, Nat.testBit_div_two, b0, Bool.true_and, Nat.testBit_eq_decide_div_mod_eq, decide_eq_false_iff_not, Nat.pow_succ, ← Nat.div_div_eq_div_mul, he] at e1
        rw [Nat.testBit_and, show v / 4 = v / 2 ^ 2 from rfl, Nat.testBit_div_two_pow, b0, Bool.true_and, Nat.testBit_eq_decide_div_mod_eq, decide_eq_false_iff_not, Nat.pow_succ, Nat.pow_succ, ← Nat.div_div_eq_div_mul, ← Nat.div_div_eq_div_mul, he] at e2
        omega
      · exact h2
/-- what is so of each such row -/
def kChk (n v : Nat) : Bool := !kT v && ((List.range n).all fun p => !kT (kP v p) && (v.testBit p || (kSp (kP v p) == kSf v p))) && (v == 0 || ((!(kNm n v == 0)) == (List.range n).any fun p => (!v.testBit p && kSf v p) && (kNm n (kP v p) == 0)))
theorem kChk_all : ∀ n, n < 17 → allS (kChk n) n 0 = true := by decide +kernel
theorem kChk_of {n v : Nat} (hn : n ≤ 16) (hv : v < 2 ^ n) (hs : kSp v = true) : kChk n v = true := allS_of n 0 (kChk_all n (by omega)) v hs (Nat.div_eq_of_lt hv)
def kC2 (n v p : Nat) : Bool := (!v.testBit p && kSf v p) && (kNm n (kP v p) == 0)
/-- where one wins at once, there both win at once -/
theorem kG_imm {n v : Nat} (ht : kT v = false) (hi : kI n v = true) : fstp (kG (kW n) v) 0 n = fstp (fun p => kT (kP v p)) 0 n ∧ fstp (fun p => kT (kP v p)) 0 n < n := by
  obtain ⟨a1, a2, a3, a4⟩ := fstp_spec (fun p => kT (kP v p)) n 0
  have hq : fstp (fun p => kT (kP v p)) 0 n < n := by
    rcases Nat.lt_or_ge (fstp (fun p => kT (kP v p)) 0 n) n with h | h
    · exact h
    · obtain ⟨p, hp, hp2⟩ := (kI_iff n v).mp hi
      have := a3 p (by omega) (by omega)
      rw [hp2] at this; cases this
  obtain ⟨q, hqe⟩ : ∃ q, fstp (fun p => kT (kP v p)) 0 n = q := ⟨_, rfl⟩
  rw [hqe] at hq a3 a4 ⊢
  have h4 : kT (kP v q) = true := a4 (by omega)
  refine ⟨fstp_at (fun p hp => ?_) ?_ hq, hq⟩
  · have h3 : kT (kP v p) = false := a3 p (by omega) hp
    unfold kG
    by_cases e : kP v p = v
    · rw [e, bne_self_eq_false, Bool.false_and]
    · have hw : kW n (kP v p) = true := by
        unfold kW
        rw [(kI_iff n (kP v p)).mpr ⟨q, hq, kT_mono (fun i hx => by
          rw [kP_bit] at hx ⊢
          rw [kP_bit]
          rw [Bool.or_eq_true] at hx
          rcases hx with hx | hx
          · rw [hx]; rfl
          · rw [hx, Bool.or_true]) h4⟩, Bool.true_or]
      rw [h3, hw]; simp
  · unfold kG
    have hne : kP v q ≠ v := fun e => by rw [e, ht] at h4; cases h4
    rw [h4, Bool.true_or, Bool.and_true, bne_iff_ne]
    exact hne
/-- where none wins at once -/
theorem kG_quiet {n v : Nat} (hn : 3 ≤ n) (hn2 : n ≤ 16) (hv : v < 2 ^ n) (hi : kI n v = false) : (∀ p, p < n → kG (kW n) v p = kC2 n v p) ∧ (v ≠ 0 → (kW n v = true ↔ fstp (kC2 n v) 0 n < n)) ∧ (∀ p, p < n → kT (kP v p) = false) := by
  have hs : kSp v = true := by
    cases h : kSp v with
    | true => rfl
    | false => rw [kI_of hn hv h] at hi; cases hi
  have hc := kChk_of hn2 hv hs
  unfold kChk at hc
  rw [Bool.and_eq_true, Bool.and_eq_true, List.all_eq_true, Bool.or_eq_true, beq_iff_eq, beq_iff_eq] at hc
  obtain ⟨⟨c1, c2⟩, c3⟩ := hc
  have c2' : ∀ p, p < n → kT (kP v p) = false ∧ (v.testBit p = false → kSp (kP v p) = kSf v p) := fun p hp => by
    have := c2 p (List.mem_range.mpr hp)
    rw [Bool.and_eq_true, Bool.not_eq_true', Bool.or_eq_true, beq_iff_eq] at this
    refine ⟨this.1, fun h => ?_⟩
    rcases this.2 with h2 | h2
    · rw [h] at h2; cases h2
    · exact h2
  refine ⟨fun p hp => ?_, fun hv0 => ?_, fun p hp => (c2' p hp).1⟩
  · obtain ⟨d1, d2⟩ := c2' p hp
    unfold kG kC2
    cases hb : v.testBit p with
    | true => rw [kP_in hb]; simp
    | false =>
      have hne := kP_ne hb
      have e1 : (kP v p != v) = true := bne_iff_ne.mpr hne
      rw [e1, d1, Bool.true_and, Bool.false_or, Bool.not_false, Bool.true_and]
      unfold kW
      have hd := d2 hb
      cases hsf : kSf v p with
      | true =>
        rw [hsf] at hd
        have hc2 := kChk_of hn2 (kP_lt hv hp) hd
        unfold kChk at hc2
        rw [Bool.and_eq_true, Bool.and_eq_true, List.all_eq_true] at hc2
        have hk : kI n (kP v p) = false := by
          cases h : kI n (kP v p) with
          | false => rfl
          | true =>
            obtain ⟨q, hq, hq2⟩ := (kI_iff n _).mp h
            have := hc2.1.2 q (List.mem_range.mpr hq)
            rw [hq2] at this
            simp at this
        rw [hk]; simp
      | false =>
        rw [hsf] at hd
        rw [kI_of hn (kP_lt hv hp) hd]; simp
  · have c3 := c3.resolve_left hv0
    obtain ⟨a1, a2, a3, a4⟩ := fstp_spec (kC2 n v) n 0
    unfold kW
    rw [hi, Bool.false_or, c3, List.any_eq_true]
    constructor
    · rintro ⟨p, h1, h2⟩
      have hp := List.mem_range.mp h1
      rcases Nat.lt_or_ge (fstp (kC2 n v) 0 n) n with h | h
      · exact h
      · have := a3 p (by omega) (by omega)
        rw [show kC2 n v p = true from h2] at this; cases this
    · intro h
      exact ⟨_, List.mem_range.mpr h, a4 (by omega)⟩
/-- the place that is answered -/
def kA (n v : Nat) : Nat := if kI n v = true then fstp (fun p => kT (kP v p)) 0 n else fstp (kC2 n v) 0 n
theorem kG_all {n v : Nat} (hn : 3 ≤ n) (hn2 : n ≤ 16) (hv : v < 2 ^ n) (ht : kT v = false) : fstp (kG (kW n) v) 0 n = kA n v ∧ (v ≠ 0 → (kW n v = true ↔ kA n v < n)) := by
  unfold kA
  cases hi : kI n v with
  | true =>
    obtain ⟨h1, h2⟩ := kG_imm ht hi
    rw [if_pos rfl]
    refine ⟨h1, fun _ => ⟨fun _ => h2, fun _ => ?_⟩⟩
    unfold kW; rw [hi]; rfl
  | false =>
    obtain ⟨h1, h2, -⟩ := kG_quiet hn hn2 hv hi
    rw [if_neg (by decide)]
    exact ⟨fstp_congr (fun i _ hi2 => h1 i (by omega)), h2⟩
