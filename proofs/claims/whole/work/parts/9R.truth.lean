/-! PURE: truth, sides -/
def iS1B (x1 : Int32) (x2 : Int32) (x0 : Int32) : (Int32 → MM Int32) → Int32 → MM Int32 := fun (self4 : Int32 → MM Int32) (s5 : Int32) =>
  (if 16 ≤ s5 then
  rz 1
  else
  jn (fun (a7 : Unit) =>
  lt (s5 * 2) fun y8 =>
  self4 y8) (fun j6 =>
  (if (x1 &&& s5) = 0 then
  j6 ()
  else
  bd (gX6_casesOf (x1 &&& (s5 ^^^ ((-1)))) (x2 &&& (s5 ^^^ ((-1))))) fun r9 =>
  (if (r9 &&& (x0 ^^^ ((-1)))) = 0 then
  rz 0
  else
  j6 ()))))
def iS1 (x1 : Int32) (x2 : Int32) (x0 : Int32) : MM Int32 := loopC 100000 (iS1B x1 x2 x0) 1
theorem iS_eq (x0 x1 x2 : Int32) : gX6_isSide x0 x1 x2 =
  jn (fun (a2 : Unit) =>
  rz 0) (fun j1 =>
  (if (x2 &&& (x1 ^^^ ((-1)))) = 0 then
  bd (gX6_casesOf x1 x2) fun r3 =>
  (if (r3 &&& (x0 ^^^ ((-1)))) = 0 then
  (iS1 x1 x2 x0)
  else
  j1 ())
  else
  j1 ())) := rfl
def jS1B (x1 : Int32) (x2 : Int32) : (Int32 → MM Int32) → Int32 → MM Int32 := fun (self2 : Int32 → MM Int32) (s3 : Int32) =>
  (if 4 ≤ s3 then
  rz 1
  else
  bd (la 33 s3) fun v4 =>
  nz v4 (
  nz 3 (
  lt (irm (x1 / v4) 3) fun y5 =>
  jn (fun (a7 : Unit) =>
  lt (s3 + 1) fun y8 =>
  self2 y8) (fun j6 =>
  (if 2 ≤ y5 then
  j6 ()
  else
  bd (la 33 s3) fun v9 =>
  bd (gX11_casesOf (x1 + ((2 - y5) * v9))) fun r10 =>
  (if (r10 &&& (x2 ^^^ ((-1)))) = 0 then
  rz 0
  else
  j6 ()))))))
def jS1 (x1 : Int32) (x2 : Int32) : MM Int32 := loopC 100000 (jS1B x1 x2) 0
theorem jS_eq (x1 x2 : Int32) : gX11_isSide x1 x2 =
  bd (gX11_casesOf x1) fun r1 =>
  (if (r1 &&& (x2 ^^^ ((-1)))) = 0 then
  (jS1 x1 x2)
  else
  rz 0) := rfl
/-- functions that read the cell 33 alone -/
def thB : Bk := fun i => if i = 33 then [1, 3, 9, 27] else []
def Sr {α : Type} (f : MM α) : Prop := ∃ x : Option α, ∀ A : Bk, A 33 = [1, 3, 9, 27] → f A = x.map (fun r => (r, A))
theorem Sr_pr {α : Type} (a : α) : Sr (pr a) := ⟨some a, fun _ _ => rfl⟩
theorem Sr_fl {α : Type} : Sr (fl : MM α) := ⟨none, fun _ _ => rfl⟩
theorem Sr_ite {α : Type} {c : Prop} [Decidable c] {f g : MM α} (hf : Sr f) (hg : Sr g) : Sr (if c then f else g) := by
  by_cases h : c
  · rw [if_pos h]; exact hf
  · rw [if_neg h]; exact hg
theorem Sr_nz {α : Type} {b : Int32} {f : MM α} (hf : Sr f) : Sr (nz b f) := by
  by_cases h : b = 0
  · exact ⟨none, fun A _ => by simp [nz, h]⟩
  · rw [nz_fn h]; exact hf
theorem Sr_la {β : Type} {j : Int32} {k : Int32 → MM β} (hk : ∀ a, Sr (k a)) : Sr (bd (la 33 j) k) := by
  by_cases h : j < 0 ∨ 4 ≤ j.toNatClampNeg
  · exact ⟨none, fun A hA => by
      have e : la 33 j A = none := by unfold la; rw [hA]; exact if_pos h
      unfold bd
      rw [e]; rfl⟩
  · obtain ⟨y, hy⟩ := hk (([1, 3, 9, 27] : List Int32).getD j.toNatClampNeg 0)
    exact ⟨y, fun A hA => by
      have e : la 33 j A = some (([1, 3, 9, 27] : List Int32).getD j.toNatClampNeg 0, A) := by unfold la; rw [hA]; exact if_neg h
      rw [bd_some e]; exact hy A hA⟩
theorem Sr_lt {α : Type} {e : Int32} {k : Int32 → MM α} (h : ∀ a, Sr (k a)) : Sr (lt e k) := h e
theorem Sr_jn {α β : Type} {J : α → MM β} {B : (α → MM β) → MM β} (hJ : ∀ a, Sr (J a)) (hB : ∀ j : α → MM β, (∀ a, Sr (j a)) → Sr (B j)) : Sr (jn J B) := hB J hJ
theorem Sr_loop {σ β : Type} {F : (σ → MM β) → σ → MM β} (h : ∀ f : σ → MM β, (∀ s, Sr (f s)) → ∀ s, Sr (F f s)) : ∀ (n : Nat) (s : σ), Sr (loopC n F s)
  | 0, _ => Sr_fl
  | n + 1, s => h _ (Sr_loop h n) s
theorem Sr_val {α : Type} {f : MM α} (h : Sr f) {r : α} (he : (f thB).map (fun q => q.1) = some r) {A : Bk} (hA : A 33 = [1, 3, 9, 27]) : f A = some (r, A) := by
  obtain ⟨x, hx⟩ := h
  have e := hx thB rfl
  cases x with
  | none => rw [e] at he; cases he
  | some a => rw [e] at he; cases he; rw [hx A hA]; rfl
theorem Sr_cases (x : Int32) : Sr (gX11_casesOf x) := by
  unfold gX11_casesOf
  repeat' (first | with_reducible exact Sr_pr _ | with_reducible apply Sr_ite | with_reducible apply Sr_nz | (with_reducible apply Sr_la; intro _) | (with_reducible apply Sr_lt; intro _) | (with_reducible apply Sr_jn) | (with_reducible apply Sr_loop) | intro _ | with_reducible apply_assumption)
theorem St_cases (x y : Int32) : St (gX6_casesOf x y) := by
  unfold gX6_casesOf
  repeat' (first | with_reducible exact St_pr _ | with_reducible exact St_lc _ _ | with_reducible apply St_ite | with_reducible apply St_nz | with_reducible apply St_bd | (with_reducible apply St_lt; intro _) | (with_reducible apply St_jn) | (with_reducible apply St_loop) | intro _ | with_reducible apply_assumption)
/-- the cases in which things told (a set) are as told -/
def tcB (t a v : Nat) : Bool := (List.range 4).all fun k => !(t.testBit k) || (v.testBit k == a.testBit k)
def tcn (t a : Nat) : Nat := setN (tcB t a) 16
def tds (s : Nat) : Nat := setN (fun k => decide (s / 3 ^ k % 3 < 2)) 4
def tas (s : Nat) : Nat := setN (fun k => decide (s / 3 ^ k % 3 = 1)) 4
def clr (t i : Nat) : Nat := if t.testBit i then t - 2 ^ i else t
theorem tc_c : ∀ t, t < 16 → ∀ a, a < 16 → (gX6_casesOf (nI t) (nI a) (fun _ => [])).map (fun q => q.1) = some (nI (tcn t a)) := by decide +kernel
theorem tc_r : ∀ s, s < 81 → (gX11_casesOf (nI s) thB).map (fun q => q.1) = some (nI (tcn (tds s) (tas s))) := by decide +kernel
set_option maxHeartbeats 400000 in
theorem p_tcC {t a : Nat} (ht : t < 16) (ha : a < 16) (A : Bk) : gX6_casesOf (nI t) (nI a) A = some (nI (tcn t a), A) := St_val (St_cases _ _) (tc_c t ht a ha) A
set_option maxHeartbeats 400000 in
theorem p_tcR {s : Nat} (hs : s < 81) {B : Bk} (hB : B 33 = [1, 3, 9, 27]) : gX11_casesOf (nI s) B = some (nI (tcn (tds s) (tas s)), B) := Sr_val (Sr_cases _) (tc_r s hs) hB
theorem clr_t : ∀ t, t < 16 → ∀ i, i < 4 → clr t i < 16 ∧ nI t &&& (nI (2 ^ i) ^^^ (-1)) = nI (clr t i) ∧ ((nI t &&& nI (2 ^ i) = 0) ↔ t.testBit i = false) := by decide +kernel
theorem sub_t : ∀ a, a < 16 → ∀ t, t < 16 → ((nI a &&& (nI t ^^^ (-1)) = 0) ↔ a &&& t = a) := by decide +kernel
theorem side_t : ∀ s, s < 81 → tds s < 16 ∧ tas s < 16 ∧ tas s &&& tds s = tas s ∧ ∀ i, i < 4 → (s / 3 ^ i % 3 < 2 ↔ (tds s).testBit i = true) ∧ (s / 3 ^ i % 3 < 2 → s + (2 - s / 3 ^ i % 3) * 3 ^ i < 81 ∧ tds (s + (2 - s / 3 ^ i % 3) * 3 ^ i) = clr (tds s) i ∧ tas (s + (2 - s / 3 ^ i % 3) * 3 ^ i) = clr (tas s) i) := by decide +kernel
/-- whether one of m is bad, from the j-th on -/
def anyF (bad : Nat → Bool) : Nat → Nat → Bool
  | _, 0 => false
  | j, m + 1 => bad j || anyF bad (j + 1) m
theorem anyF_congr {b c : Nat → Bool} : ∀ {m j : Nat}, (∀ i, j ≤ i → i < j + m → b i = c i) → anyF b j m = anyF c j m
  | 0, _, _ => rfl
  | m + 1, j, h => by
    show (b j || anyF b (j + 1) m) = (c j || anyF c (j + 1) m)
    rw [h j (Nat.le_refl _) (by omega), anyF_congr (fun i h1 h2 => h i (by omega) (by omega))]
theorem loopA {σ β : Type} {F : (σ → MM β) → σ → MM β} {n : Nat} (s : Nat → σ) {A : Bk} (bad : Nat → Bool) {r0 r1 : Option (β × Bk)} (hs : ∀ j, j < n → ∀ f : σ → MM β, F f (s j) A = if bad j = true then r0 else f (s (j + 1)) A) (he : ∀ f : σ → MM β, F f (s n) A = r1) : ∀ m j N, j + m = n → m < N → loopC N F (s j) A = if anyF bad j m = true then r0 else r1
  | 0, j, N, hj, hN => by
    obtain ⟨N, rfl⟩ : ∃ q, N = q + 1 := ⟨N - 1, by omega⟩
    rw [loopC_s, show j = n by omega, he]
    rfl
  | m + 1, j, N, hj, hN => by
    obtain ⟨N, rfl⟩ : ∃ q, N = q + 1 := ⟨N - 1, by omega⟩
    rw [loopC_s, hs j (by omega)]
    show _ = if (bad j || anyF bad (j + 1) m) = true then r0 else r1
    by_cases h : bad j = true
    · rw [if_pos h, h, if_pos (by rfl)]
    · rw [if_neg h, loopA s bad hs he m (j + 1) N (by omega) (by omega), Bool.eq_false_iff.mpr h, Bool.false_or]
def Eq0 (x : Int32) (c : Nat) : Bool := decide (nI c &&& (x ^^^ (-1)) = 0)
/-- a side whose things told are among those that are -/
def sdQ (x : Int32) (t a : Nat) : Bool := Eq0 x (tcn t a) && !(anyF (fun i => t.testBit i && Eq0 x (tcn (clr t i) (clr a i))) 0 4)
set_option maxHeartbeats 400000 in
theorem p_iS {x : Int32} {t a : Nat} (ht : t < 16) (ha : a < 16) (A : Bk) : gX6_isSide x (nI t) (nI a) A = some (nI (decide (a &&& t = a) && sdQ x t a).toNat, A) := by
  have hl : iS1 (nI t) (nI a) x A = some (nI (!(anyF (fun i => t.testBit i && Eq0 x (tcn (clr t i) (clr a i))) 0 4)).toNat, A) := by
    have h := loopA (n := 4) (F := iS1B (nI t) (nI a) x) (fun j => nI (2 ^ j)) (A := A) (fun i => t.testBit i && Eq0 x (tcn (clr t i) (clr a i))) (r0 := some ((0 : Int32), A)) (r1 := some ((1 : Int32), A)) (fun j hj f => ?_) (fun f => ?_) 4 0 100000 rfl (by omega)
    · show loopC 100000 (iS1B (nI t) (nI a) x) (nI (2 ^ 0)) A = _
      rw [h]
      cases anyF (fun i => t.testBit i && Eq0 x (tcn (clr t i) (clr a i))) 0 4 <;> rfl
    · obtain ⟨q1, q2, q3⟩ := clr_t t ht j hj
      obtain ⟨w1, w2, -⟩ := clr_t a ha j hj
      have hp : 2 ^ j < 16 := by
        have : 2 ^ j ≤ 2 ^ 3 := Nat.pow_le_pow_right (by decide) (by omega)
        omega
      unfold iS1B
      rw [if_neg (show ¬ (16 : Int32) ≤ nI (2 ^ j) from nI_ge (b := 16) hp (by omega))]
      simp only [lt_eq, jn_eq]
      rw [show (nI (2 ^ j) * 2 : Int32) = nI (2 ^ (j + 1)) from by rw [Nat.pow_succ]; exact pk_mul _ 2]
      by_cases c : t.testBit j = false
      · rw [if_pos (q3.mpr c), c]
        show f _ A = if (false && _) = true then _ else _
        rw [Bool.false_and, if_neg (by decide)]
      · rw [if_neg (fun z => c (q3.mp z)), q2, w2, bd_some (p_tcC q1 w1 A)]
        have c' : t.testBit j = true := by cases hq : t.testBit j with
          | true => rfl
          | false => exact absurd hq c
        show _ = if (t.testBit j && Eq0 x (tcn (clr t j) (clr a j))) = true then _ else _
        rw [c', Bool.true_and]
        unfold Eq0
        by_cases d : nI (tcn (clr t j) (clr a j)) &&& (x ^^^ (-1)) = 0
        · rw [if_pos d, if_pos (decide_eq_true d)]; rfl
        · rw [if_neg d, if_neg (fun z => d (of_decide_eq_true z))]
    · unfold iS1B
      rw [if_pos (show (16 : Int32) ≤ nI (2 ^ 4) from Int32.le_refl _)]; rfl
  rw [iS_eq]
  simp only [jn_eq]
  by_cases c : a &&& t = a
  · rw [if_pos ((sub_t a ha t ht).mpr c), bd_some (p_tcC ht ha A), decide_eq_true c, Bool.true_and]
    unfold sdQ Eq0
    by_cases d : nI (tcn t a) &&& (x ^^^ (-1)) = 0
    · rw [if_pos d, decide_eq_true d, Bool.true_and]
      exact hl
    · rw [if_neg d, decide_eq_false d, Bool.false_and]; rfl
  · rw [if_neg (fun z => c ((sub_t a ha t ht).mp z)), decide_eq_false c, Bool.false_and]; rfl
theorem g33 {B : Bk} (hB : B 33 = [1, 3, 9, 27]) {j : Nat} (hj : j < 4) : (B 33).length = 4 ∧ (B 33).getD j 0 = nI (3 ^ j) := by
  rw [hB]
  exact ⟨rfl, (by decide : ∀ j, j < 4 → ([1, 3, 9, 27] : List Int32).getD j 0 = nI (3 ^ j)) j hj⟩
set_option maxHeartbeats 400000 in
theorem p_jS {x : Int32} {s : Nat} (hs : s < 81) {B : Bk} (hB : B 33 = [1, 3, 9, 27]) : gX11_isSide (nI s) x B = some (nI (sdQ x (tds s) (tas s)).toNat, B) := by
  obtain ⟨s1, s2, s3, s4⟩ := side_t s hs
  obtain ⟨t, ht⟩ : ∃ t, tds s = t := ⟨_, rfl⟩
  obtain ⟨a, ha⟩ : ∃ a, tas s = a := ⟨_, rfl⟩
  have hc := p_tcR hs hB
  rw [ht, ha] at hc ⊢
  simp only [ht, ha] at s4
  have hl : jS1 (nI s) x B = some (nI (!(anyF (fun i => t.testBit i && Eq0 x (tcn (clr t i) (clr a i))) 0 4)).toNat, B) := by
    have h := loopA (n := 4) (F := jS1B (nI s) x) (fun j => nI j) (A := B) (fun i => t.testBit i && Eq0 x (tcn (clr t i) (clr a i))) (r0 := some ((0 : Int32), B)) (r1 := some ((1 : Int32), B)) (fun j hj f => ?_) (fun f => ?_) 4 0 100000 rfl (by omega)
    · show loopC 100000 (jS1B (nI s) x) (nI 0) B = _
      rw [h]
      cases anyF (fun i => t.testBit i && Eq0 x (tcn (clr t i) (clr a i))) 0 4 <;> rfl
    · obtain ⟨g1, g2⟩ := g33 hB hj
      obtain ⟨u1, u2⟩ := s4 j hj
      have hp1 : 0 < 3 ^ j := Nat.pow_pos (by decide)
      have hp : 3 ^ j ≤ 27 := by
        have : 3 ^ j ≤ 3 ^ 3 := Nat.pow_le_pow_right (by decide) (by omega)
        omega
      have hd : s / 3 ^ j ≤ s := Nat.div_le_self _ _
      unfold jS1B
      rw [if_neg (show ¬ (4 : Int32) ≤ nI j from nI_ge (b := 4) hj (by omega)), bd_la _ (by omega) (by omega), g2]
      simp only [nz_fn (nI_ne0 hp1 (by omega)), nz_fn (show ¬ (3 : Int32) = 0 by decide), lt_eq, jn_eq]
      rw [pk_div (by omega) hp1 (by omega), show (3 : Int32) = nI 3 from rfl, rem_e (by omega) (by decide) (by decide), nI_1]
      obtain ⟨d, hdd⟩ : ∃ d, s / 3 ^ j % 3 = d := ⟨_, rfl⟩
      rw [hdd] at u1 u2 ⊢
      have hd3 : d < 3 := by omega
      show _ = if (t.testBit j && Eq0 x (tcn (clr t j) (clr a j))) = true then _ else _
      by_cases c : d < 2
      · obtain ⟨v1, v2, v3⟩ := u2 c
        rw [if_neg (show ¬ (2 : Int32) ≤ nI d from nI_ge (b := 2) c (by omega)), bd_la _ (by omega) (by omega), g2, show (2 : Int32) = nI 2 from rfl, pk_sub (by omega), pk_mul, nI_add, bd_some (p_tcR v1 hB), v2, v3, u1.mp c, Bool.true_and]
        unfold Eq0
        by_cases z : nI (tcn (clr t j) (clr a j)) &&& (x ^^^ (-1)) = 0
        · rw [if_pos z, if_pos (decide_eq_true z)]; rfl
        · rw [if_neg z, if_neg (fun q => z (of_decide_eq_true q))]
      · rw [if_pos (show (2 : Int32) ≤ nI d from (nI_leI (a := 2) (by omega) (by omega)).mpr (by omega)), Bool.eq_false_iff.mpr (fun q => c (u1.mpr q)), Bool.false_and, if_neg (by decide)]
    · unfold jS1B
      rw [if_pos (show (4 : Int32) ≤ nI 4 from Int32.le_refl _)]; rfl
  rw [jS_eq, bd_some hc]
  unfold sdQ
  have e : Eq0 x (tcn t a) = decide (nI (tcn t a) &&& (x ^^^ (-1)) = 0) := rfl
  by_cases d : nI (tcn t a) &&& (x ^^^ (-1)) = 0
  · rw [if_pos d, e, decide_eq_true d, Bool.true_and]
    exact hl
  · rw [if_neg d, e, decide_eq_false d, Bool.false_and]; rfl
