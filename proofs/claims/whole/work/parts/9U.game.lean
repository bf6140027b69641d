/-! PURE: game, the class -/
def wP2B (x0 : Int32) (x1 : Int32) : (Int32 → MM Int32) → Int32 → MM Int32 := fun (self4 : Int32 → MM Int32) (s5 : Int32) =>
  (if x0 ≤ s5 then
  pr ((-1))
  else
  jn (fun (a7 : Unit) =>
  lt (s5 + 1) fun y8 =>
  self4 y8) (fun j6 =>
  (if ((ish x1 s5) &&& 1) = 0 then
  bd (gX6_isSafe x1 s5) fun r9 =>
  (if r9 = 0 then
  j6 ()
  else
  bd (gX6_nimberLeft x0 (x1 ||| (1 <<< (s5 &&& 31)))) fun r10 =>
  (if r10 = 0 then
  pr s5
  else
  j6 ()))
  else
  j6 ())))
def wP2 (x0 : Int32) (x1 : Int32) : MM Int32 := loopC 100000 (wP2B x0 x1) 0
def wP1B (x0 : Int32) (x1 : Int32) : (Int32 → MM Int32) → Int32 → MM Int32 := fun (self2 : Int32 → MM Int32) (s3 : Int32) =>
  (if x0 ≤ s3 then
  (wP2 x0 x1)
  else
  bd (gX6_hasThree (x1 ||| (1 <<< (s3 &&& 31)))) fun r11 =>
  (if r11 = 0 then
  lt (s3 + 1) fun y12 =>
  self2 y12
  else
  pr s3))
def wP1 (x0 : Int32) (x1 : Int32) : MM Int32 := loopC 100000 (wP1B x0 x1) 0
theorem wP_eq (x0 x1 : Int32) : gX6_winningPlace x0 x1 =
  bd (gX6_hasThree x1) fun r1 =>
  (if r1 = 0 then
  (wP1 x0 x1)
  else
  pr ((-1))) := rfl
def nL1B (x0 : Int32) (x1 : Int32) : (Int32 × Int32 × Int32 → MM Int32) → Int32 × Int32 × Int32 → MM Int32 := fun (self1 : Int32 × Int32 × Int32 → MM Int32) (s2 : Int32 × Int32 × Int32) =>
  (if x0 < s2.2.2 then
  pr s2.1
  else
  jn (fun (a4 : Int32 × Int32) =>
  lt (s2.2.2 + 1) fun y5 =>
  self1 (a4.1, a4.2, y5)) (fun j3 =>
  jn (fun (a7 : Unit) =>
  jn (fun (a9 : Int32) =>
  lt (s2.1 ^^^ a9) fun y10 =>
  j3 (y10, 0)) (fun j8 =>
  (if 14 ≤ s2.2.1 then
  j8 0
  else
  bd (lc NBl s2.2.1) fun v11 =>
  j8 v11))) (fun j6 =>
  (if x0 ≤ s2.2.2 then
  j6 ()
  else
  bd (gX6_isSafe x1 s2.2.2) fun r12 =>
  (if r12 = 0 then
  j6 ()
  else
  lt (s2.2.1 + 1) fun y13 =>
  j3 (s2.1, y13))))))
def nL1 (x0 : Int32) (x1 : Int32) : MM Int32 := loopC 100000 (nL1B x0 x1) (0, 0, 0)
theorem nL_eq (x0 x1 : Int32) : gX6_nimberLeft x0 x1 =
  (nL1 x0 x1) := rfl
theorem fa_xor (a b : Nat) : nI a ^^^ nI b = nI (a ^^^ b) := by
  apply Int32.toBitVec_inj.1
  show BitVec.ofNat 32 a ^^^ BitVec.ofNat 32 b = BitVec.ofNat 32 (a ^^^ b)
  apply BitVec.eq_of_getLsbD_eq
  intro i hi
  simp [hi]
theorem loopP {σ β : Type} {F : (σ → MM β) → σ → MM β} {n : Nat} (s : Nat → σ) {A : Bk} (good : Nat → Bool) (r : Nat → Option (β × Bk)) (hs : ∀ j, j < n → ∀ f : σ → MM β, F f (s j) A = if good j = true then r j else f (s (j + 1)) A) (he : ∀ f : σ → MM β, F f (s n) A = r n) : ∀ m j N, j + m = n → m < N → loopC N F (s j) A = r (fstp good j m)
  | 0, j, N, hj, hN => by
    obtain ⟨N, rfl⟩ : ∃ q, N = q + 1 := ⟨N - 1, by omega⟩
    rw [loopC_s, show j = n by omega, he]
    rfl
  | m + 1, j, N, hj, hN => by
    obtain ⟨N, rfl⟩ : ∃ q, N = q + 1 := ⟨N - 1, by omega⟩
    rw [loopC_s, hs j (by omega)]
    unfold fstp
    by_cases h : good j = true
    · rw [if_pos h, if_pos h]
    · rw [if_neg h, if_neg h, loopP s good r hs he m (j + 1) N (by omega) (by omega)]
theorem b_ish {x p : Nat} (hx : x < 2 ^ 32) (hp : p < 32) : (ish (nI x) (nI p)) &&& 1 = nI (x.testBit p).toNat := by
  rw [ish_n hx hp, show (1 : Int32) = nI 1 from rfl, fa_and, Nat.and_one_is_mod, Nat.toNat_testBit]
theorem b0_iff (b : Bool) : (nI b.toNat = 0) ↔ b = false := by cases b <;> decide
theorem nI_0i {v : Nat} (h : v < 2 ^ 31) : (nI v = 0) ↔ v = 0 := nI_eq (b := 0) h (by decide)
set_option maxHeartbeats 400000 in
theorem p_kT {v : Nat} (hv : v < 2 ^ 20) (A : Bk) : gX6_hasThree (nI v) A = some (nI (kT v).toNat, A) := by
  have e1 : ish (nI v) 1 = nI (v / 2) := ish_n (k := 1) (by omega) (by omega)
  have e2 : ish (nI v) 2 = nI (v / 4) := ish_n (k := 2) (by omega) (by omega)
  have hl : (v &&& v / 2) &&& v / 4 ≤ v := Nat.le_trans Nat.and_le_left Nat.and_le_left
  unfold gX6_hasThree kT
  simp only [jn_eq]
  rw [e1, e2, fa_and, fa_and]
  by_cases c : (v &&& v / 2) &&& v / 4 = 0
  · rw [if_pos ((nI_0i (by omega)).mpr c), c]; rfl
  · rw [if_neg (fun q => c ((nI_0i (by omega)).mp q)), beq_eq_false_iff_ne.mpr c]; rfl
set_option maxHeartbeats 400000 in
theorem p_kSf {v p : Nat} (hv : v < 2 ^ 17) (hp : p < 32) (A : Bk) : gX6_isSafe (nI v) (nI p) A = some (nI (kSf v p).toNat, A) := by
  have e1 : ish (nI v) 1 = nI (v / 2) := ish_n (k := 1) (by omega) (by omega)
  have e2 : ish (nI v) 2 = nI (v / 4) := ish_n (k := 2) (by omega) (by omega)
  have e3 : (nI v <<< (1 &&& 31) : Int32) = nI (v * 2) := pk_shlN _ 1 (by decide) (by omega)
  have e4 : (nI v <<< (2 &&& 31) : Int32) = nI (v * 4) := pk_shlN _ 2 (by decide) (by omega)
  have hl : kN v < 2 ^ 32 := by
    unfold kN
    exact Nat.or_lt_two_pow (Nat.or_lt_two_pow (Nat.or_lt_two_pow (Nat.or_lt_two_pow (by omega) (by omega)) (by omega)) (by omega)) (by omega)
  unfold gX6_isSafe kSf
  simp only [jn_eq, lt_eq]
  rw [e1, e2, e3, e4, fa_or, fa_or, fa_or, fa_or]
  show (if (ish (nI (kN v)) (nI p)) &&& 1 = 0 then rz 1 else rz 0) A = _
  rw [b_ish hl hp]
  cases (kN v).testBit p <;> rfl
theorem NB_v : ∀ r, r < 14 → NBn.getD r 0 < 8 ∧ NBl.getD r 0 = nI (NBn.getD r 0) := by decide
theorem NB_o {r : Nat} (h : 14 ≤ r) : NBn.getD r 0 = 0 := by
  rw [List.getD_eq_getElem?_getD, List.getElem?_eq_none (show NBn.length ≤ r from h)]; rfl
theorem NB_8 (r : Nat) : NBn.getD r 0 < 8 := by
  rcases Nat.lt_or_ge r 14 with h | h
  · exact (NB_v r h).1
  · rw [NB_o h]; omega
theorem kM_s (n v p : Nat) : kM n v (p + 1) = if (decide (p < n) && kSf v p) = true then ((kM n v p).1, (kM n v p).2 + 1) else ((kM n v p).1 ^^^ NBn.getD (kM n v p).2 0, 0) := rfl
theorem kM_b (n v : Nat) : ∀ p, (kM n v p).1 < 8 ∧ (kM n v p).2 ≤ p
  | 0 => ⟨by show 0 < 8; decide, Nat.le_refl _⟩
  | p + 1 => by
    obtain ⟨h1, h2⟩ := kM_b n v p
    rw [kM_s]
    by_cases c : (decide (p < n) && kSf v p) = true
    · rw [if_pos c]; exact ⟨h1, by show (kM n v p).2 + 1 ≤ p + 1; omega⟩
    · rw [if_neg c]
      refine ⟨?_, Nat.zero_le _⟩
      have := Nat.xor_lt_two_pow (n := 3) (show (kM n v p).1 < 2 ^ 3 by omega) (show NBn.getD (kM n v p).2 0 < 2 ^ 3 from NB_8 _)
      exact this
theorem kNm_b (n v : Nat) : kNm n v < 8 := (kM_b n v (n + 1)).1
set_option maxHeartbeats 400000 in
theorem p_kNm {n v : Nat} (hn : n ≤ 16) (hv : v < 2 ^ 17) (A : Bk) : gX6_nimberLeft (nI n) (nI v) A = some (nI (kNm n v), A) := by
  rw [nL_eq]
  unfold nL1
  refine loopF (n + 1) (fun j => (nI (kM n v j).1, nI (kM n v j).2, nI j)) (fun _ => A) rfl rfl (fun j hj self => ?_) (fun self => ?_) (by omega)
  · obtain ⟨h1, h2⟩ := kM_b n v j
    rw [kM_s]
    obtain ⟨s, hs⟩ : ∃ s, kM n v j = s := ⟨_, rfl⟩
    rw [hs] at h1 h2 ⊢
    have hj6 : ∀ K : Int32 × Int32 → MM Int32, (if (14 : Int32) ≤ nI s.2 then K (nI s.1 ^^^ 0, 0) else bd (lc NBl (nI s.2)) (fun v11 => K (nI s.1 ^^^ v11, 0))) A = K (nI (s.1 ^^^ NBn.getD s.2 0), 0) A := fun K => by
      rcases Nat.lt_or_ge s.2 14 with c | c
      · have e : lc NBl (nI s.2) A = some (nI (NBn.getD s.2 0), A) := by
          unfold lc
          rw [if_neg (nI_in (N := NBl.length) (show s.2 < NBl.length from c) (by decide)), nI_clamp (by omega), (NB_v _ c).2]
        rw [if_neg (show ¬ (14 : Int32) ≤ nI s.2 from nI_ge (b := 14) c (by omega)), bd_some e, fa_xor]
      · rw [if_pos (show (14 : Int32) ≤ nI s.2 from (nI_leI (a := 14) (by omega) (by omega)).mpr c), NB_o c, show (0 : Int32) = nI 0 from rfl, fa_xor]
    unfold nL1B
    rw [if_neg (show ¬ nI n < nI j from nI_nlt (by omega) (by omega))]
    simp only [jn_eq, lt_eq, nI_1]
    by_cases c : j < n
    · rw [if_neg (nI_ge c (by omega)), bd_some (p_kSf hv (by omega) A), decide_eq_true c, Bool.true_and]
      cases kSf v j with
      | true => rw [if_neg (show ¬ nI (Bool.toNat true) = (0 : Int32) by decide), if_pos rfl]
      | false =>
        rw [if_pos (show nI (Bool.toNat false) = (0 : Int32) from rfl), if_neg (show ¬ false = true by decide)]
        exact hj6 (fun a6 => self (a6.1, a6.2, nI (j + 1)))
    · rw [if_pos ((nI_leI (by omega) (by omega)).mpr (by omega)), decide_eq_false c, Bool.false_and, if_neg (show ¬ false = true by decide)]
      exact hj6 (fun a6 => self (a6.1, a6.2, nI (j + 1)))
  · unfold nL1B
    rw [if_pos (show nI n < nI (n + 1) from nI_lt (by omega) (by omega))]; rfl
set_option maxHeartbeats 400000 in
theorem p_kP (v : Nat) {p : Nat} (hp : p < 31) : nI v ||| (1 <<< (nI p &&& 31)) = nI (kP v p) := by
  have e : (1 : Int32) <<< (nI p &&& 31) = nI (2 ^ p) := shl_n p hp
  rw [e, fa_or]; rfl
theorem kP_17 {v p n : Nat} (hn : n ≤ 16) (hv : v < 2 ^ n) (hp : p < n) : kP v p < 2 ^ 16 := Nat.lt_of_lt_of_le (kP_lt hv hp) (Nat.pow_le_pow_right (by decide) hn)
theorem kI_no {n v : Nat} (h : kI n v = false) : fstp (fun p => kT (kP v p)) 0 n = n := by
  obtain ⟨a1, a2, a3, a4⟩ := fstp_spec (fun p => kT (kP v p)) n 0
  rcases Nat.lt_or_ge (fstp (fun p => kT (kP v p)) 0 n) n with c | c
  · rw [(kI_iff n v).mpr ⟨_, c, a4 (by omega)⟩] at h; cases h
  · omega
set_option maxHeartbeats 400000 in
theorem p_wP {n v : Nat} (hn : n ≤ 16) (hv : v < 2 ^ n) (ht : kT v = false) (A : Bk) : gX6_winningPlace (nI n) (nI v) A = some (if kA n v < n then nI (kA n v) else -1, A) := by
  have hv16 : v < 2 ^ 16 := Nat.lt_of_lt_of_le hv (Nat.pow_le_pow_right (by decide) hn)
  have h2 : wP2 (nI n) (nI v) A = some (if fstp (kC2 n v) 0 n < n then nI (fstp (kC2 n v) 0 n) else -1, A) := by
    have h := loopP (n := n) (F := wP2B (nI n) (nI v)) (fun j => nI j) (A := A) (kC2 n v) (fun j => some (if j < n then nI j else -1, A)) (fun j hj f => ?_) (fun f => ?_) n 0 100000 (by omega) (by omega)
    · exact h
    · show _ = if ((!v.testBit j && kSf v j) && (kNm n (kP v j) == 0)) = true then _ else _
      have hp := kP_17 hn hv hj
      have hk := kNm_b n (kP v j)
      unfold wP2B
      rw [if_neg (nI_ge hj (by omega))]
      simp only [jn_eq, lt_eq, nI_1]
      rw [b_ish (by omega) (by omega), if_pos hj]
      cases v.testBit j with
      | true => rw [if_neg (show ¬ nI (Bool.toNat true) = (0 : Int32) by decide)]; rfl
      | false =>
        rw [if_pos (show nI (Bool.toNat false) = (0 : Int32) from rfl), bd_some (p_kSf (by omega) (by omega) A), Bool.not_false, Bool.true_and]
        cases kSf v j with
        | false => rw [if_pos (show nI (Bool.toNat false) = (0 : Int32) from rfl)]; rfl
        | true =>
          rw [if_neg (show ¬ nI (Bool.toNat true) = (0 : Int32) by decide), p_kP v (by omega), bd_some (p_kNm hn (by omega) A), Bool.true_and]
          by_cases c : kNm n (kP v j) = 0
          · rw [if_pos ((nI_0i (by omega)).mpr c), c]; rfl
          · rw [if_neg (fun q => c ((nI_0i (by omega)).mp q)), beq_eq_false_iff_ne.mpr c]; rfl
    · unfold wP2B
      rw [if_pos (Int32.le_refl _), if_neg (Nat.lt_irrefl n)]; rfl
  have h1 : wP1 (nI n) (nI v) A = (if fstp (fun p => kT (kP v p)) 0 n < n then some (nI (fstp (fun p => kT (kP v p)) 0 n), A) else wP2 (nI n) (nI v) A) := by
    have h := loopP (n := n) (F := wP1B (nI n) (nI v)) (fun j => nI j) (A := A) (fun p => kT (kP v p)) (fun j => if j < n then some (nI j, A) else wP2 (nI n) (nI v) A) (fun j hj f => ?_) (fun f => ?_) n 0 100000 (by omega) (by omega)
    · exact h
    · have hp := kP_17 hn hv hj
      unfold wP1B
      rw [if_neg (nI_ge hj (by omega)), p_kP v (by omega), bd_some (p_kT (by omega) A), if_pos hj]
      simp only [lt_eq, nI_1]
      cases kT (kP v j) with
      | true => rw [if_neg (show ¬ nI (Bool.toNat true) = (0 : Int32) by decide)]; rfl
      | false => rw [if_pos (show nI (Bool.toNat false) = (0 : Int32) from rfl)]; rfl
    · unfold wP1B
      rw [if_pos (Int32.le_refl _), if_neg (Nat.lt_irrefl n)]
  rw [wP_eq, bd_some (p_kT (by omega) A), ht, if_pos (show nI (Bool.toNat false) = (0 : Int32) from rfl), h1]
  unfold kA
  cases hi : kI n v with
  | true =>
    have hlt := (kG_imm ht hi).2
    rw [if_pos hlt, if_pos rfl, if_pos hlt]
  | false =>
    rw [kI_no hi, if_neg (Nat.lt_irrefl n), h2, if_neg (show ¬ false = true by decide)]
