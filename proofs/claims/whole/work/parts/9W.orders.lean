/-! PURE: turnings, orders and their numbers -/
def std (s : List Nat) : List Nat := s.map fun y => s.countP fun z => decide (z < y)
def rk : List Nat → Nat → Nat
  | [], v => v
  | x :: t, v => rk t (v * (t.length + 1) + t.countP fun z => decide (z < x))
def bmp (d : Nat) (L : List Nat) : List Nat := L.map fun y => if d ≤ y then y + 1 else y
def unS (j : Nat) (s : List Nat × Nat) : List Nat × Nat := (s.2 % (j + 1) :: bmp (s.2 % (j + 1)) s.1, s.2 / (j + 1))
def un (v : Nat) : Nat → List Nat × Nat := fo unS ([], v)
theorem cntP_mono {p q : Nat → Bool} : ∀ {t : List Nat}, (∀ z, z ∈ t → p z = true → q z = true) → t.countP p ≤ t.countP q
  | [], _ => Nat.le_refl _
  | x :: t, h => by
    have ih := cntP_mono (t := t) (fun z hz => h z (List.mem_cons_of_mem _ hz))
    rw [List.countP_cons, List.countP_cons]
    have hx := h x List.mem_cons_self
    cases hp : p x with
    | false => simp; omega
    | true => rw [hx hp]; simp; omega
theorem cntP_lt {p q : Nat → Bool} : ∀ {t : List Nat} {y : Nat}, (∀ z, z ∈ t → p z = true → q z = true) → y ∈ t → p y = false → q y = true → t.countP p < t.countP q
  | [], _, _, hy, _, _ => by cases hy
  | x :: t, y, h, hy, h1, h2 => by
    have hr : ∀ z, z ∈ t → p z = true → q z = true := fun z hz => h z (List.mem_cons_of_mem _ hz)
    rw [List.countP_cons, List.countP_cons]
    rcases List.mem_cons.mp hy with e | e
    · subst e
      have := cntP_mono hr
      rw [h1, h2]; simp; omega
    · have ih := cntP_lt hr e h1 h2
      have hx := h x List.mem_cons_self
      cases hp : p x with
      | false => simp; omega
      | true => rw [hx hp]; simp; omega
theorem std_cons {x : Nat} {t : List Nat} (h : (x :: t).Nodup) : std (x :: t) = (t.countP fun z => decide (z < x)) :: bmp (t.countP fun z => decide (z < x)) (std t) := by
  have hn := List.nodup_cons.mp h
  unfold std bmp
  rw [List.map_cons, List.map_map]
  congr 1
  · rw [List.countP_cons]; simp
  · refine List.map_congr_left (fun y hy => ?_)
    have hxy : x ≠ y := fun e => hn.1 (by rw [e]; exact hy)
    show (x :: t).countP (fun z => decide (z < y)) = if (t.countP fun z => decide (z < x)) ≤ (t.countP fun z => decide (z < y)) then (t.countP fun z => decide (z < y)) + 1 else (t.countP fun z => decide (z < y))
    rw [List.countP_cons]
    by_cases c : x < y
    · have : (t.countP fun z => decide (z < x)) ≤ (t.countP fun z => decide (z < y)) := cntP_mono (fun z _ hz => by
        rw [decide_eq_true_eq] at hz ⊢; omega)
      rw [if_pos this, if_pos (decide_eq_true c)]
    · have : (t.countP fun z => decide (z < y)) < (t.countP fun z => decide (z < x)) := cntP_lt (y := y) (fun z _ hz => by
        rw [decide_eq_true_eq] at hz ⊢; omega) hy (decide_eq_false (Nat.lt_irrefl y)) (decide_eq_true (by omega))
      rw [if_neg (fun q => c (of_decide_eq_true q)), Nat.add_zero, if_neg (by omega)]
theorem un_rk : ∀ (s : List Nat) (v : Nat), s.Nodup → un (rk s v) s.length = (std s, v)
  | [], v, _ => rfl
  | x :: t, v, h => by
    have hn := List.nodup_cons.mp h
    have ih := un_rk t (v * (t.length + 1) + t.countP fun z => decide (z < x)) hn.2
    have hs := std_cons h
    obtain ⟨c, hc⟩ : ∃ c, (t.countP fun z => decide (z < x)) = c := ⟨_, rfl⟩
    have hcl : c ≤ t.length := by rw [← hc]; exact List.countP_le_length
    rw [hc] at ih hs
    show unS t.length (un (rk t (v * (t.length + 1) + t.countP fun z => decide (z < x))) t.length) = _
    rw [hc, ih, hs]
    have e1 : (v * (t.length + 1) + c) % (t.length + 1) = c := by
      rw [Nat.mul_comm, Nat.mul_add_mod, Nat.mod_eq_of_lt (by omega)]
    have e2 : (v * (t.length + 1) + c) / (t.length + 1) = v := by
      rw [Nat.mul_comm, Nat.mul_add_div (by omega), Nat.div_eq_of_lt (by omega), Nat.add_zero]
    unfold unS
    show ((v * (t.length + 1) + c) % (t.length + 1) :: bmp ((v * (t.length + 1) + c) % (t.length + 1)) (std t), (v * (t.length + 1) + c) / (t.length + 1)) = _
    rw [e1, e2]
/-- an order of 0 .. n - 1 -/
abbrev Pm (n : Nat) (p : List Nat) : Prop := p.Perm (List.range n)
theorem rng_cnt (y : Nat) : ∀ n, (List.range n).countP (fun z => decide (z < y)) = if n ≤ y then n else y
  | 0 => by simp
  | n + 1 => by
    rw [List.range_succ, List.countP_append, rng_cnt y n]
    by_cases c : n + 1 ≤ y
    · rw [if_pos c, if_pos (by omega)]
      simp; omega
    · rw [if_neg c]
      by_cases d : n ≤ y
      · have e : n = y := by omega
        subst e
        rw [if_pos d]; simp
      · rw [if_neg d]; simp; omega
theorem Pm_len {n : Nat} {p : List Nat} (h : Pm n p) : p.length = n := by rw [h.length_eq, List.length_range]
theorem Pm_nd {n : Nat} {p : List Nat} (h : Pm n p) : p.Nodup := (h.nodup_iff).mpr List.nodup_range
theorem Pm_lt {n : Nat} {p : List Nat} (h : Pm n p) {y : Nat} (hy : y ∈ p) : y < n := List.mem_range.mp (h.mem_iff.mp hy)
theorem Pm_std {n : Nat} {p : List Nat} (h : Pm n p) : std p = p := by
  unfold std
  conv => rhs; rw [← List.map_id p]
  refine List.map_congr_left (fun y hy => ?_)
  have := Pm_lt h hy
  rw [h.countP_eq, rng_cnt, if_neg (by omega)]; rfl
theorem un_P {n : Nat} {p : List Nat} (h : Pm n p) : (un (rk p 0) n).1 = p := by
  have := un_rk p 0 (Pm_nd h)
  rw [Pm_len h] at this
  rw [this, Pm_std h]
theorem rk_inj {n : Nat} {p q : List Nat} (h : Pm n p) (g : Pm n q) (e : rk p 0 = rk q 0) : p = q := by rw [← un_P h, ← un_P g, e]
def fct : Nat → Nat
  | 0 => 1
  | n + 1 => (n + 1) * fct n
theorem rk_lt : ∀ (s : List Nat) (v : Nat), rk s v < (v + 1) * fct s.length
  | [], v => by show v < (v + 1) * 1; omega
  | x :: t, v => by
    have hc : t.countP (fun z => decide (z < x)) ≤ t.length := List.countP_le_length
    have ih := rk_lt t (v * (t.length + 1) + t.countP fun z => decide (z < x))
    refine Nat.lt_of_lt_of_le ih ?_
    show _ ≤ (v + 1) * ((t.length + 1) * fct t.length)
    rw [← Nat.mul_assoc]
    refine Nat.mul_le_mul_right _ ?_
    rw [Nat.add_mul, Nat.one_mul]
    omega
theorem rk_P {n : Nat} {p : List Nat} (h : Pm n p) : rk p 0 < fct n := by
  have := rk_lt p 0
  rw [Pm_len h] at this
  omega
/-- the first f turned -/
def flp {α : Type} (f : Nat) (l : List α) : List α := (l.take f).reverse ++ l.drop f
theorem flp_len {α : Type} (f : Nat) (l : List α) : (flp f l).length = l.length := by
  unfold flp
  rw [List.length_append, List.length_reverse, ← List.length_append, List.take_append_drop]
theorem flp_flp {α : Type} {f : Nat} {l : List α} (h : f ≤ l.length) : flp f (flp f l) = l := by
  have e : (l.take f).reverse.length = f := by rw [List.length_reverse, List.length_take]; omega
  unfold flp
  rw [List.take_left' e, List.drop_left' e, List.reverse_reverse, List.take_append_drop]
theorem flp_P {n f : Nat} {p : List Nat} (h : Pm n p) : Pm n (flp f p) := by
  refine List.Perm.trans ?_ h
  have h1 : (flp f p).Perm (p.take f ++ p.drop f) := (List.reverse_perm _).append_right _
  rwa [List.take_append_drop] at h1
theorem flp_get {f k : Nat} {p : List Nat} (h : f ≤ p.length) (hk : k < p.length) : (flp f p).getD k 0 = if k < f then p.getD (f - 1 - k) 0 else p.getD k 0 := by
  have e : (p.take f).length = f := by rw [List.length_take]; omega
  unfold flp
  rw [List.getD_eq_getElem?_getD, List.getD_eq_getElem?_getD, List.getD_eq_getElem?_getD]
  by_cases c : k < f
  · rw [if_pos c, List.getElem?_append_left (by rw [List.length_reverse, e]; exact c), List.getElem?_reverse (by rw [e]; exact c), e, List.getElem?_take_of_lt (by omega)]
  · rw [if_neg c, List.getElem?_append_right (by rw [List.length_reverse, e]; omega), List.length_reverse, e, List.getElem?_drop, show f + (k - f) = k by omega]
theorem flp_map {f : Nat} {p : List Nat} {tl : List Int32} (h : f ≤ p.length) : flp f (p.map nI ++ tl) = (flp f p).map nI ++ tl := by
  unfold flp
  rw [List.take_append_of_le_length (by rw [List.length_map]; exact h), List.drop_append_of_le_length (by rw [List.length_map]; exact h), ← List.map_take, ← List.map_drop, ← List.map_reverse, List.map_append, List.append_assoc]
/-- in so many turnings it is in order -/
def Rch (n : Nat) : Nat → List Nat → Prop
  | 0, p => p = List.range n
  | m + 1, p => ∃ f, 2 ≤ f ∧ f ≤ n ∧ Rch n m (flp f p)
def adj (a b : Nat) : Bool := decide (a + 1 = b) || decide (b + 1 = a)
theorem adj_c (a b : Nat) : adj a b = adj b a := by unfold adj; rw [Bool.or_comm]
def bdC (p : List Nat) (i : Nat) : Bool := !adj (p.getD i 0) (p.getD (i + 1) 0)
def wnt (n : Nat) (p : List Nat) : Nat := cntN (bdC p) (n - 1) + if p.getD (n - 1) 0 = n - 1 then 0 else 1
theorem cnt_split (p : Nat → Bool) (a : Nat) : ∀ b, cntN p (a + b) = cntN p a + cntN (fun i => p (a + i)) b
  | 0 => rfl
  | b + 1 => by
    show (if p (a + b) = true then cntN p (a + b) + 1 else cntN p (a + b)) = cntN p a + (if p (a + b) = true then cntN (fun i => p (a + i)) b + 1 else cntN (fun i => p (a + i)) b)
    rw [cnt_split p a b]
    by_cases h : p (a + b) = true
    · rw [if_pos h, if_pos h]; omega
    · rw [if_neg h, if_neg h]
theorem cnt_rev (p : Nat → Bool) : ∀ a, cntN (fun i => p (a - 1 - i)) a = cntN p a
  | 0 => rfl
  | a + 1 => by
    have h := cnt_split (fun i => p (a + 1 - 1 - i)) 1 a
    rw [Nat.add_comm a 1]
    rw [show 1 + a - 1 = a by omega]
    rw [show a + 1 - 1 = a by omega] at h
    rw [h]
    have e : cntN (fun i => p (a - (1 + i))) a = cntN p a := by
      rw [← cnt_rev p a]
      exact cnt_congr (fun i _ => by rw [show a - (1 + i) = a - 1 - i by omega])
    rw [e, Nat.add_comm 1 a]
    show (if p (a - 0) = true then 0 + 1 else 0) + cntN p a = if p a = true then cntN p a + 1 else cntN p a
    rw [Nat.sub_zero]
    by_cases q : p a = true
    · rw [if_pos q, if_pos q]; omega
    · rw [if_neg q, if_neg q]; omega
theorem wnt_flp {n f : Nat} {p : List Nat} (hl : p.length = n) (h2 : 2 ≤ f) (hf : f ≤ n) : wnt n p ≤ wnt n (flp f p) + 1 := by
  have hg : ∀ k, k < n → (flp f p).getD k 0 = if k < f then p.getD (f - 1 - k) 0 else p.getD k 0 := fun k hk => flp_get (by omega) (by omega)
  have e1 : cntN (bdC (flp f p)) (f - 1) = cntN (bdC p) (f - 1) := by
    rw [← cnt_rev (bdC p) (f - 1)]
    refine cnt_congr (fun i hi => ?_)
    unfold bdC
    rw [hg i (by omega), hg (i + 1) (by omega), if_pos (by omega), if_pos (by omega), adj_c, show f - 1 - (i + 1) = f - 1 - 1 - i by omega, show f - 1 - 1 - i + 1 = f - 1 - i by omega]
  unfold wnt
  by_cases c : f = n
  · subst c
    rw [e1]
    by_cases a : p.getD (f - 1) 0 = f - 1
    · rw [if_pos a]; omega
    · rw [if_neg a]; omega
  · have s1 := cnt_split (bdC p) (f - 1) (n - f)
    have s2 := cnt_split (bdC (flp f p)) (f - 1) (n - f)
    rw [show f - 1 + (n - f) = n - 1 by omega] at s1 s2
    have t1 := cnt_split (fun i => bdC p (f - 1 + i)) 1 (n - f - 1)
    have t2 := cnt_split (fun i => bdC (flp f p) (f - 1 + i)) 1 (n - f - 1)
    rw [show 1 + (n - f - 1) = n - f by omega] at t1 t2
    have e2 : cntN (fun i => bdC (flp f p) (f - 1 + (1 + i))) (n - f - 1) = cntN (fun i => bdC p (f - 1 + (1 + i))) (n - f - 1) := cnt_congr (fun i hi => by
      show bdC (flp f p) (f - 1 + (1 + i)) = bdC p (f - 1 + (1 + i))
      unfold bdC
      rw [hg _ (by omega), hg _ (by omega), if_neg (by omega), if_neg (by omega)])
    have o1 := cntN_le (fun i => bdC p (f - 1 + i)) 1
    have e3 : (flp f p).getD (n - 1) 0 = p.getD (n - 1) 0 := by rw [hg _ (by omega), if_neg (by omega)]
    rw [e3, s1, s2, t1, t2, e1, e2]
    omega
theorem Pm_get {n : Nat} {p : List Nat} (h : Pm n p) {i : Nat} (hi : i < n) : p.getD i 0 < n := by
  have hl := Pm_len h
  refine Pm_lt h ?_
  rw [List.getD_eq_getElem?_getD, List.getElem?_eq_getElem (by omega)]
  exact List.getElem_mem _
theorem Pm_ne {n : Nat} {p : List Nat} (h : Pm n p) {i j : Nat} (hi : i < n) (hj : j < n) (e : p.getD i 0 = p.getD j 0) : i = j := by
  have hl := Pm_len h
  refine (List.getElem?_inj (l := p) (by omega) (Pm_nd h)).mp ?_
  rw [List.getD_eq_getElem?_getD, List.getD_eq_getElem?_getD, List.getElem?_eq_getElem (by omega), List.getElem?_eq_getElem (by omega)] at e
  rw [List.getElem?_eq_getElem (by omega), List.getElem?_eq_getElem (by omega)]
  exact congrArg some e
theorem cnt_0 {p : Nat → Bool} : ∀ {n : Nat}, cntN p n = 0 → ∀ i, i < n → p i = false
  | 0, _, i, hi => absurd hi (Nat.not_lt_zero i)
  | n + 1, h, i, hi => by
    have h' : (if p n = true then cntN p n + 1 else cntN p n) = 0 := h
    by_cases c : p n = true
    · rw [if_pos c] at h'; omega
    · rw [if_neg c] at h'
      by_cases e : i = n
      · subst e; exact Bool.eq_false_iff.mpr c
      · exact cnt_0 h' i (by omega)
theorem wnt_0 {n : Nat} {p : List Nat} (hn : 1 ≤ n) (h : Pm n p) (hw : wnt n p = 0) : p = List.range n := by
  unfold wnt at hw
  have h1 := cnt_0 (show cntN (bdC p) (n - 1) = 0 by omega)
  have h2 : p.getD (n - 1) 0 = n - 1 := by
    by_cases c : p.getD (n - 1) 0 = n - 1
    · exact c
    · rw [if_neg c] at hw; omega
  have key : ∀ j, j < n → ∀ i, i < n → n - 1 - j ≤ i → p.getD i 0 = i := by
    intro j
    induction j with
    | zero => intro _ i hi hij; rw [show i = n - 1 by omega]; exact h2
    | succ j ih =>
      intro hj i hi hij
      by_cases c : n - 1 - j ≤ i
      · exact ih (by omega) i hi c
      · have hb := h1 i (by omega)
        have e1 := ih (by omega) (i + 1) (by omega) (by omega)
        unfold bdC adj at hb
        rw [e1, Bool.not_eq_false', Bool.or_eq_true, decide_eq_true_eq, decide_eq_true_eq] at hb
        have hlt := Pm_get h hi
        rcases hb with hb | hb
        · omega
        · have e2 := ih (by omega) (i + 2) (by omega) (by omega)
          have := Pm_ne h hi (show i + 2 < n by omega) (by omega)
          omega
  have hl := Pm_len h
  refine List.ext_getElem (by rw [hl, List.length_range]) (fun i h3 h4 => ?_)
  have := key (n - 1) (by omega) i (by omega) (by omega)
  rw [List.getD_eq_getElem?_getD, List.getElem?_eq_getElem h3] at this
  rw [List.getElem_range]
  exact this
theorem wnt_r : ∀ n, n < 8 → wnt n (List.range n) = 0 ∧ rk (List.range n) 0 = 0 := by decide +kernel
theorem Rch_wnt {n : Nat} (hn : n < 8) : ∀ {m : Nat} {p : List Nat}, Pm n p → Rch n m p → wnt n p ≤ m
  | 0, p, _, h => by rw [show p = List.range n from h, (wnt_r n hn).1]; omega
  | m + 1, p, hp, h => by
    obtain ⟨f, h1, h2, h3⟩ := h
    have a := Rch_wnt hn (flp_P (f := f) hp) h3
    have b := wnt_flp (Pm_len hp) h1 h2
    omega
/-- whether it can be put in order by so many -/
def okT (n : Nat) : Nat → List Nat → Bool
  | 0, p => decide (wnt n p = 0)
  | t + 1, p => decide (wnt n p = 0) || (decide (wnt n p ≤ t + 1) && anyF (fun i => okT n t (flp i p)) 2 (n - 1))
theorem anyF_iff {b : Nat → Bool} : ∀ {m j : Nat}, anyF b j m = true ↔ ∃ i, j ≤ i ∧ i < j + m ∧ b i = true
  | 0, j => ⟨(fun h => by cases h), (fun ⟨i, h1, h2, _⟩ => absurd h2 (by omega))⟩
  | m + 1, j => by
    show (b j || anyF b (j + 1) m) = true ↔ _
    rw [Bool.or_eq_true, anyF_iff]
    constructor
    · rintro (h | ⟨i, h1, h2, h3⟩)
      · exact ⟨j, Nat.le_refl _, by omega, h⟩
      · exact ⟨i, by omega, by omega, h3⟩
    · rintro ⟨i, h1, h2, h3⟩
      by_cases e : i = j
      · subst e; exact Or.inl h3
      · exact Or.inr ⟨i, by omega, by omega, h3⟩
theorem ok_iff {n : Nat} (hn : 1 ≤ n) (hn7 : n < 8) : ∀ {t : Nat} {p : List Nat}, Pm n p → (okT n t p = true ↔ ∃ m, m ≤ t ∧ Rch n m p)
  | 0, p, hp => by
    show decide (wnt n p = 0) = true ↔ _
    rw [decide_eq_true_eq]
    constructor
    · intro h; exact ⟨0, Nat.le_refl _, wnt_0 hn hp h⟩
    · rintro ⟨m, h1, h2⟩
      have := Rch_wnt hn7 hp h2
      omega
  | t + 1, p, hp => by
    show (decide (wnt n p = 0) || (decide (wnt n p ≤ t + 1) && anyF (fun i => okT n t (flp i p)) 2 (n - 1))) = true ↔ _
    rw [Bool.or_eq_true, Bool.and_eq_true, decide_eq_true_eq, decide_eq_true_eq, anyF_iff]
    constructor
    · rintro (h | ⟨h1, f, h2, h3, h4⟩)
      · exact ⟨0, Nat.zero_le _, wnt_0 hn hp h⟩
      · obtain ⟨m, q1, q2⟩ := (ok_iff hn hn7 (flp_P (f := f) hp)).mp h4
        exact ⟨m + 1, by omega, f, h2, by omega, q2⟩
    · rintro ⟨m, h1, h2⟩
      have hw := Rch_wnt hn7 hp h2
      cases m with
      | zero => exact Or.inl (by omega)
      | succ m =>
        obtain ⟨f, q1, q2, q3⟩ := h2
        exact Or.inr ⟨by omega, f, q1, by omega, (ok_iff hn hn7 (flp_P (f := f) hp)).mpr ⟨m, by omega, q3⟩⟩
