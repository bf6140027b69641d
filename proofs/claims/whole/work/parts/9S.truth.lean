/-! PURE: truth, the answers -/
def sW2B (s2 : Int32 × Int32) (self1 : (Int32 × Int32) → MM Int32) (x0 : Int32) (x1 : Int32) : (Int32 × Int32 → MM Int32) → Int32 × Int32 → MM Int32 := fun (self3 : Int32 × Int32 → MM Int32) (s4 : Int32 × Int32) =>
  (if 16 ≤ s4.2 then
  lt (s2.2 + 1) fun y5 =>
  self1 (s4.1, y5)
  else
  bd (gX6_isSide x0 s2.2 s4.2) fun r6 =>
  jn (fun (a8 : Int32) =>
  lt (s4.2 + 1) fun y9 =>
  self3 (a8, y9)) (fun j7 =>
  (if r6 = 0 then
  j7 s4.1
  else
  bd (gX6_casesOf s2.2 s4.2) fun r10 =>
  (if (r10 &&& x1) = 0 then
  j7 s4.1
  else
  lt (s4.1 + 1) fun y11 =>
  j7 y11))))
def sW2 (s2 : Int32 × Int32) (self1 : (Int32 × Int32) → MM Int32) (x0 : Int32) (x1 : Int32) : MM Int32 := loopC 100000 (sW2B s2 self1 x0 x1) (s2.1, 0)
def sW1B (x0 : Int32) (x1 : Int32) : (Int32 × Int32 → MM Int32) → Int32 × Int32 → MM Int32 := fun (self1 : Int32 × Int32 → MM Int32) (s2 : Int32 × Int32) =>
  (if 16 ≤ s2.2 then
  pr s2.1
  else
  (sW2 s2 self1 x0 x1))
def sW1 (x0 : Int32) (x1 : Int32) : MM Int32 := loopC 100000 (sW1B x0 x1) (0, 0)
theorem sW_eq (x0 x1 : Int32) : gX6_sidesWith x0 x1 =
  (sW1 x0 x1) := rfl
def cO2B (s2 : Int32 × Int32 × Int32) (self1 : (Int32 × Int32 × Int32) → MM Int32) (x0 : Int32) : (Int32 × Int32 × Int32 → MM Int32) → Int32 × Int32 × Int32 → MM Int32 := fun (self3 : Int32 × Int32 × Int32 → MM Int32) (s4 : Int32 × Int32 × Int32) =>
  (if 16 ≤ s4.2.2 then
  lt (s2.2.2 + 1) fun y5 =>
  self1 (s4.1, s4.2.1, y5)
  else
  bd (gX6_isSide x0 s2.2.2 s4.2.2) fun r6 =>
  jn (fun (a8 : Int32 × Int32) =>
  lt (s4.2.2 + 1) fun y9 =>
  self3 (a8.1, a8.2, y9)) (fun j7 =>
  (if r6 = 0 then
  j7 (s4.1, s4.2.1)
  else
  bd (gX6_casesOf s2.2.2 s4.2.2) fun r10 =>
  lt (s4.2.1 ||| (s4.1 &&& r10)) fun y11 =>
  lt (s4.1 ||| r10) fun y12 =>
  j7 (y12, y11))))
def cO2 (s2 : Int32 × Int32 × Int32) (self1 : (Int32 × Int32 × Int32) → MM Int32) (x0 : Int32) : MM Int32 := loopC 100000 (cO2B s2 self1 x0) (s2.1, s2.2.1, 0)
def cO1B (x0 : Int32) : (Int32 × Int32 × Int32 → MM Int32) → Int32 × Int32 × Int32 → MM Int32 := fun (self1 : Int32 × Int32 × Int32 → MM Int32) (s2 : Int32 × Int32 × Int32) =>
  (if 16 ≤ s2.2.2 then
  pr (s2.1 &&& (s2.2.1 ^^^ ((-1))))
  else
  (cO2 s2 self1 x0))
def cO1 (x0 : Int32) : MM Int32 := loopC 100000 (cO1B x0) (0, 0, 0)
theorem cO_eq (x0 : Int32) : gX6_casesOfOneSide x0 =
  (cO1 x0) := rfl
def tH2B (x1 : Int32) (s6 : Int32 × Int32 × Int32 × Int32) : (Int32 × Int32 → MM Int32) → Int32 × Int32 → MM Int32 := fun (self7 : Int32 × Int32 → MM Int32) (s8 : Int32 × Int32) =>
  (if 81 ≤ s8.2 then
  pr s8.1
  else
  bd (gX11_isSide s8.2 x1) fun r9 =>
  jn (fun (a11 : Int32) =>
  lt (s8.2 + 1) fun y12 =>
  self7 (a11, y12)) (fun j10 =>
  (if r9 = 0 then
  j10 s8.1
  else
  bd (gX11_casesOf s8.2) fun r13 =>
  (if (r13 &&& (s6.2.1 ^^^ ((-1)))) = 0 then
  j10 s8.1
  else
  lt (s8.1 + 1) fun y14 =>
  j10 y14))))
def tH2 (x1 : Int32) (s6 : Int32 × Int32 × Int32 × Int32) : MM Int32 := loopC 100000 (tH2B x1 s6) (0, 0)
def tH1B (x2 : Int32) (x1 : Int32) : (Int32 × Int32 × Int32 × Int32 → MM Int32) → Int32 × Int32 × Int32 × Int32 → MM Int32 := fun (self5 : Int32 × Int32 × Int32 × Int32 → MM Int32) (s6 : Int32 × Int32 × Int32 × Int32) =>
  (if 81 ≤ s6.2.2.2 then
  (if x2 = 0 then
  pr s6.2.2.1
  else
  (tH2 x1 s6))
  else
  bd (gX11_isSide s6.2.2.2 x1) fun r15 =>
  jn (fun (a17 : Int32 × Int32 × Int32) =>
  lt (s6.2.2.2 + 1) fun y18 =>
  self5 (a17.1, a17.2.1, a17.2.2, y18)) (fun j16 =>
  (if r15 = 0 then
  j16 (s6.1, s6.2.1, s6.2.2.1)
  else
  lt (s6.2.2.1 + 1) fun y19 =>
  bd (gX11_casesOf s6.2.2.2) fun r20 =>
  lt (s6.2.1 ||| (s6.1 &&& r20)) fun y21 =>
  bd (gX11_casesOf s6.2.2.2) fun r22 =>
  lt (s6.1 ||| r22) fun y23 =>
  j16 (y23, y21, y19))))
def tH1 (x2 : Int32) (x1 : Int32) : MM Int32 := loopC 100000 (tH1B x2 x1) (0, 0, 0, 0)
theorem tH_eq (x1 x2 : Int32) : gX11_truth x1 x2 =
  bd (sv 0 0 0) fun _ =>
  bd (gX11_isIn x1 0 65535) fun r1 =>
  jn (fun (a3 : Unit) =>
  pr ((-1))) (fun j2 =>
  (if r1 = 0 then
  j2 ()
  else
  bd (gX11_isIn x2 0 1) fun r4 =>
  (if r4 = 0 then
  j2 ()
  else
  (tH1 x2 x1)))) := rfl
theorem cntN_P (p : Nat → Bool) : ∀ n, cntN p n = (List.range n).countP p
  | 0 => rfl
  | n + 1 => by
    rw [List.range_succ, List.countP_append, ← cntN_P p n]
    show (if p n = true then cntN p n + 1 else cntN p n) = _
    by_cases h : p n = true
    · simp [h]
    · simp [h]
def inQ (q : Nat) : Bool := decide (q % 16 &&& q / 16 = q % 16)
def LC : List (Nat × Nat) := ((List.range 256).filter inQ).map (fun q => (q / 16, q % 16))
def LR : List (Nat × Nat) := (List.range 81).map (fun s => (tds s, tas s))
theorem L_perm : LC.isPerm LR = true := by decide +kernel
theorem cnt_eq (P : Nat × Nat → Bool) : cntN (fun q => inQ q && P (q / 16, q % 16)) 256 = cntN (fun s => P (tds s, tas s)) 81 := by
  have h : LC.countP P = LR.countP P := (List.isPerm_iff.mp L_perm).countP_eq P
  unfold LC LR at h
  rw [List.countP_map, List.countP_map, List.countP_filter] at h
  rw [cntN_P, cntN_P]
  refine Eq.trans ?_ h
  congr 1
  funext q
  exact Bool.and_comm _ _
theorem cnt_congr {p q : Nat → Bool} : ∀ {n : Nat}, (∀ i, i < n → p i = q i) → cntN p n = cntN q n := fun h => fo_congr (fun i hi x => by rw [h i hi])
def om (P : Nat → Bool) (c : Nat → Int32) : Nat → Int32 × Int32 := fo (fun q s => if P q = true then (s.1 ||| c q, s.2 ||| (s.1 &&& c q)) else s) (0, 0)
theorem om_bits (P : Nat → Bool) (c : Nat → Int32) (i : Nat) : ∀ n, bt (om P c n).1 i = decide (1 ≤ cntN (fun q => P q && bt (c q) i) n) ∧ bt (om P c n).2 i = decide (2 ≤ cntN (fun q => P q && bt (c q) i) n)
  | 0 => ⟨b_0 i, b_0 i⟩
  | n + 1 => by
    obtain ⟨h1, h2⟩ := om_bits P c i n
    obtain ⟨k, hk⟩ : ∃ k, cntN (fun q => P q && bt (c q) i) n = k := ⟨_, rfl⟩
    have e : cntN (fun q => P q && bt (c q) i) (n + 1) = if (P n && bt (c n) i) = true then k + 1 else k := by rw [← hk]; rfl
    have e2 : om P c (n + 1) = if P n = true then ((om P c n).1 ||| c n, (om P c n).2 ||| ((om P c n).1 &&& c n)) else om P c n := rfl
    rw [e, e2]
    rw [hk] at h1 h2
    cases hp : P n with
    | false =>
      rw [if_neg (by decide), Bool.false_and, if_neg (by decide)]
      exact ⟨h1, h2⟩
    | true =>
      rw [if_pos rfl, Bool.true_and]
      show bt ((om P c n).1 ||| c n) i = _ ∧ bt ((om P c n).2 ||| ((om P c n).1 &&& c n)) i = _
      rw [b_or, b_or, b_and, h1, h2]
      cases bt (c n) i with
      | false =>
        rw [if_neg (by decide), Bool.or_false, Bool.and_false, Bool.or_false]
        exact ⟨rfl, rfl⟩
      | true =>
        rw [if_pos rfl, Bool.or_true, Bool.and_true]
        refine ⟨?_, ?_⟩
        · simp
        · by_cases c1 : 1 ≤ k
          · simp [c1]
          · simp [c1]; omega
def cQ (q : Nat) : Int32 := nI (tcn (q / 16) (q % 16))
def cSi (s : Nat) : Int32 := nI (tcn (tds s) (tas s))
def PC (x : Int32) (q : Nat) : Bool := inQ q && sdQ x (q / 16) (q % 16)
def PR (x : Int32) (s : Nat) : Bool := sdQ x (tds s) (tas s)
set_option maxHeartbeats 400000 in
theorem p_iSq {x : Int32} {j i : Nat} (hj : j < 16) (hi : i < 16) (A : Bk) : gX6_isSide x (nI j) (nI i) A = some (nI (PC x (16 * j + i)).toNat, A) ∧ gX6_casesOf (nI j) (nI i) A = some (cQ (16 * j + i), A) := by
  have e1 : (16 * j + i) / 16 = j := by omega
  have e2 : (16 * j + i) % 16 = i := by omega
  unfold PC cQ inQ
  rw [e1, e2]
  exact ⟨p_iS hj hi A, p_tcC hj hi A⟩
set_option maxHeartbeats 400000 in
theorem p_sW (x cs : Int32) (A : Bk) : gX6_sidesWith x cs A = some (nI (cntN (fun q => PC x q && !decide (cQ q &&& cs = 0)) 256), A) := by
  obtain ⟨P, hP⟩ : ∃ P : Nat → Bool, P = (fun q => PC x q && !decide (cQ q &&& cs = 0)) := ⟨_, rfl⟩
  rw [← hP, sW_eq]
  unfold sW1
  refine loopF 16 (fun j => (nI (cntN P (16 * j)), nI j)) (fun _ => A) rfl rfl (fun j hj self => ?_) (fun self => ?_) (by omega)
  · unfold sW1B
    rw [if_neg (show ¬ (16 : Int32) ≤ nI j from nI_ge (b := 16) hj (by omega))]
    unfold sW2
    refine loopF 16 (fun i => (nI (cntN P (16 * j + i)), nI i)) (fun _ => A) rfl rfl (fun i hi self2 => ?_) (fun self2 => ?_) (by omega)
    · obtain ⟨h1, h2⟩ := p_iSq (x := x) hj hi A
      have hc : cntN P (16 * j + (i + 1)) = if P (16 * j + i) = true then cntN P (16 * j + i) + 1 else cntN P (16 * j + i) := rfl
      have hq : P (16 * j + i) = (PC x (16 * j + i) && !decide (cQ (16 * j + i) &&& cs = 0)) := by rw [hP]
      unfold sW2B
      rw [if_neg (show ¬ (16 : Int32) ≤ nI i from nI_ge (b := 16) hi (by omega)), bd_some h1]
      simp only [lt_eq, jn_eq, nI_1]
      rw [hc, hq]
      cases PC x (16 * j + i) with
      | false =>
        rw [if_pos (show nI (Bool.toNat false) = (0 : Int32) from rfl), Bool.false_and, if_neg (by decide)]
      | true =>
        rw [if_neg (show ¬ nI (Bool.toNat true) = (0 : Int32) by decide), bd_some h2, Bool.true_and]
        by_cases c : cQ (16 * j + i) &&& cs = 0
        · rw [if_pos c, decide_eq_true c, if_neg (by decide)]
        · rw [if_neg c, decide_eq_false c, if_pos (by decide)]
    · unfold sW2B
      rw [if_pos (show (16 : Int32) ≤ nI 16 from Int32.le_refl _)]
      show self (nI (cntN P (16 * j + 16)), nI j + 1) A = self (nI (cntN P (16 * (j + 1))), nI (j + 1)) A
      rw [nI_1]; rfl
  · unfold sW1B
    rw [if_pos (show (16 : Int32) ≤ nI 16 from Int32.le_refl _)]; rfl
set_option maxHeartbeats 400000 in
theorem p_cO (x : Int32) (A : Bk) : gX6_casesOfOneSide x A = some ((om (PC x) cQ 256).1 &&& ((om (PC x) cQ 256).2 ^^^ (-1)), A) := by
  obtain ⟨z, hz⟩ : ∃ z, z = om (PC x) cQ := ⟨_, rfl⟩
  rw [cO_eq, ← hz]
  unfold cO1
  refine loopF 16 (fun j => ((z (16 * j)).1, (z (16 * j)).2, nI j)) (fun _ => A) (by rw [hz]; rfl) rfl (fun j hj self => ?_) (fun self => ?_) (by omega)
  · unfold cO1B
    rw [if_neg (show ¬ (16 : Int32) ≤ nI j from nI_ge (b := 16) hj (by omega))]
    unfold cO2
    refine loopF 16 (fun i => ((z (16 * j + i)).1, (z (16 * j + i)).2, nI i)) (fun _ => A) rfl rfl (fun i hi self2 => ?_) (fun self2 => ?_) (by omega)
    · obtain ⟨h1, h2⟩ := p_iSq (x := x) hj hi A
      have hc : z (16 * j + (i + 1)) = if PC x (16 * j + i) = true then ((z (16 * j + i)).1 ||| cQ (16 * j + i), (z (16 * j + i)).2 ||| ((z (16 * j + i)).1 &&& cQ (16 * j + i))) else z (16 * j + i) := by rw [hz]; rfl
      unfold cO2B
      rw [if_neg (show ¬ (16 : Int32) ≤ nI i from nI_ge (b := 16) hi (by omega)), bd_some h1]
      simp only [lt_eq, jn_eq, nI_1]
      rw [hc]
      cases PC x (16 * j + i) with
      | false =>
        rw [if_pos (show nI (Bool.toNat false) = (0 : Int32) from rfl), if_neg (by decide)]
      | true =>
        rw [if_neg (show ¬ nI (Bool.toNat true) = (0 : Int32) by decide), bd_some h2, if_pos rfl]
    · unfold cO2B
      rw [if_pos (show (16 : Int32) ≤ nI 16 from Int32.le_refl _)]
      show self ((z (16 * j + 16)).1, (z (16 * j + 16)).2, nI j + 1) A = self ((z (16 * (j + 1))).1, (z (16 * (j + 1))).2, nI (j + 1)) A
      rw [nI_1]; rfl
  · unfold cO1B
    rw [if_pos (show (16 : Int32) ≤ nI 16 from Int32.le_refl _)]; rfl
set_option maxHeartbeats 400000 in
theorem p_tH2 (x : Int32) (s6 : Int32 × Int32 × Int32 × Int32) {B : Bk} (hB : B 33 = [1, 3, 9, 27]) : tH2 x s6 B = some (nI (cntN (fun s => PR x s && !decide (cSi s &&& (s6.2.1 ^^^ (-1)) = 0)) 81), B) := by
  obtain ⟨P, hP⟩ : ∃ P : Nat → Bool, P = (fun s => PR x s && !decide (cSi s &&& (s6.2.1 ^^^ (-1)) = 0)) := ⟨_, rfl⟩
  rw [← hP]
  unfold tH2
  refine loopF 81 (fun i => (nI (cntN P i), nI i)) (fun _ => B) rfl rfl (fun i hi self2 => ?_) (fun self2 => ?_) (by omega)
  · have h1 := p_jS (x := x) hi hB
    have h2 := p_tcR hi hB
    have hc : cntN P (i + 1) = if P i = true then cntN P i + 1 else cntN P i := rfl
    have hq : P i = (PR x i && !decide (cSi i &&& (s6.2.1 ^^^ (-1)) = 0)) := by rw [hP]
    unfold tH2B
    rw [if_neg (show ¬ (81 : Int32) ≤ nI i from nI_ge (b := 81) hi (by omega)), bd_some h1]
    simp only [lt_eq, jn_eq, nI_1]
    rw [hc, hq]
    show _ = self2 (nI (if (sdQ x (tds i) (tas i) && !decide (cSi i &&& (s6.2.1 ^^^ (-1)) = 0)) = true then _ else _), _) B
    cases sdQ x (tds i) (tas i) with
    | false =>
      rw [if_pos (show nI (Bool.toNat false) = (0 : Int32) from rfl), Bool.false_and, if_neg (by decide)]
    | true =>
      rw [if_neg (show ¬ nI (Bool.toNat true) = (0 : Int32) by decide), bd_some h2, Bool.true_and]
      by_cases c : cSi i &&& (s6.2.1 ^^^ (-1)) = 0
      · rw [if_pos (show nI (tcn (tds i) (tas i)) &&& (s6.2.1 ^^^ (-1)) = 0 from c), decide_eq_true c, if_neg (by decide)]
      · rw [if_neg (show ¬ nI (tcn (tds i) (tas i)) &&& (s6.2.1 ^^^ (-1)) = 0 from c), decide_eq_false c, if_pos (by decide)]
  · unfold tH2B
    rw [if_pos (show (81 : Int32) ≤ nI 81 from Int32.le_refl _)]; rfl
set_option maxHeartbeats 400000 in
theorem p_tH1 (w x : Int32) {B : Bk} (hB : B 33 = [1, 3, 9, 27]) : tH1 w x B = some (if w = 0 then nI (cntN (PR x) 81) else nI (cntN (fun s => PR x s && !decide (cSi s &&& ((om (PR x) cSi 81).2 ^^^ (-1)) = 0)) 81), B) := by
  obtain ⟨z, hz⟩ : ∃ z, z = om (PR x) cSi := ⟨_, rfl⟩
  rw [← hz]
  unfold tH1
  refine loopF 81 (fun i => ((z i).1, (z i).2, nI (cntN (PR x) i), nI i)) (fun _ => B) (by rw [hz]; rfl) rfl (fun i hi self2 => ?_) (fun self2 => ?_) (by omega)
  · have h1 := p_jS (x := x) hi hB
    have h2 := p_tcR hi hB
    have hc : cntN (PR x) (i + 1) = if PR x i = true then cntN (PR x) i + 1 else cntN (PR x) i := rfl
    have hd : z (i + 1) = if PR x i = true then ((z i).1 ||| cSi i, (z i).2 ||| ((z i).1 &&& cSi i)) else z i := by rw [hz]; rfl
    unfold tH1B
    rw [if_neg (show ¬ (81 : Int32) ≤ nI i from nI_ge (b := 81) hi (by omega)), bd_some h1]
    simp only [lt_eq, jn_eq, nI_1]
    rw [hc, hd]
    show (if nI (PR x i).toNat = 0 then _ else _ : MM Int32) B = _
    cases PR x i with
    | false =>
      rw [if_pos (show nI (Bool.toNat false) = (0 : Int32) from rfl), if_neg (by decide), if_neg (by decide)]
    | true =>
      rw [if_neg (show ¬ nI (Bool.toNat true) = (0 : Int32) by decide), bd_some h2, bd_some h2, if_pos rfl, if_pos rfl]
      rfl
  · unfold tH1B
    rw [if_pos (show (81 : Int32) ≤ nI 81 from Int32.le_refl _)]
    by_cases c : w = 0
    · rw [if_pos c, if_pos c]; rfl
    · rw [if_neg c, if_neg c, p_tH2 x _ hB]
theorem tc_pos : ∀ t, t < 16 → ∀ a, a < 16 → a &&& t = a → ¬ nI (tcn t a) &&& 65535 = 0 := by decide +kernel
theorem PC_PR (x : Int32) (f : Int32 → Bool) : cntN (fun q => PC x q && f (cQ q)) 256 = cntN (fun s => PR x s && f (cSi s)) 81 := by
  have h := cnt_eq (fun q => sdQ x q.1 q.2 && f (nI (tcn q.1 q.2)))
  refine Eq.trans (cnt_congr (fun q _ => ?_)) h
  show ((inQ q && sdQ x (q / 16) (q % 16)) && f (nI (tcn (q / 16) (q % 16)))) = (inQ q && (sdQ x (q / 16) (q % 16) && f (nI (tcn (q / 16) (q % 16)))))
  rw [Bool.and_assoc]
theorem om_same (x : Int32) : om (PC x) cQ 256 = om (PR x) cSi 81 := by
  refine Prod.ext (b_ext fun i _ => ?_) (b_ext fun i _ => ?_)
  · rw [(om_bits (PC x) cQ i 256).1, (om_bits (PR x) cSi i 81).1, PC_PR x (fun c => bt c i)]
  · rw [(om_bits (PC x) cQ i 256).2, (om_bits (PR x) cSi i 81).2, PC_PR x (fun c => bt c i)]
theorem cnt_pos {p : Nat → Bool} : ∀ {n i : Nat}, i < n → p i = true → 1 ≤ cntN p n
  | 0, _, h, _ => absurd h (Nat.not_lt_zero _)
  | n + 1, i, h, hp => by
    show 1 ≤ if p n = true then cntN p n + 1 else cntN p n
    by_cases e : i = n
    · subst e; rw [if_pos hp]; omega
    · have := cnt_pos (n := n) (show i < n by omega) hp
      by_cases c : p n = true
      · rw [if_pos c]; omega
      · rw [if_neg c]; exact this
theorem own_eq {P : Nat → Bool} {c : Nat → Int32} {n s : Nat} (hs : s < n) (hp : P s = true) : c s &&& ((om P c n).1 &&& ((om P c n).2 ^^^ (-1))) = c s &&& ((om P c n).2 ^^^ (-1)) := by
  apply b_ext
  intro i hi
  rw [b_and, b_and, b_and, (om_bits P c i n).1]
  cases hb : bt (c s) i with
  | false => simp
  | true =>
    have := cnt_pos (p := fun q => P q && bt (c q) i) hs (by show (P s && bt (c s) i) = true; rw [hp, hb]; rfl)
    simp [this]
set_option maxHeartbeats 400000 in
theorem op_truth {A B : Bk} (h : R A B) (x y : Int32) : ∃ r A' B', gX10_truth x y A = some (r, A') ∧ gX11_truth x y B = some (r, B') ∧ R A' B' := by
  have hb0 := R_B0 h
  have hRt := R_told h
  obtain ⟨B0, hB0⟩ : ∃ z, z = up B 0 ((B 0).set 0 0) := ⟨_, rfl⟩
  rw [← hB0] at hRt
  have z0 := R_B0 hRt
  obtain ⟨⟨np, nc, nt, ks, wh, hH, hU⟩, hT, hI, hA, hB⟩ := id hRt
  obtain ⟨hW, hw0⟩ := R_W hH
  obtain ⟨hl, ⟨hn1, hn2, hn3, hn4⟩, ⟨p1, p2, p3, p4, p5, p6⟩, he, ⟨s1, s2, s3, s4, s5, s6, s7⟩, hod, ho, hd, hw, ⟨k1, k2, k3⟩⟩ := id hW
  obtain ⟨l0, l1, l2, l3, l4, l5, l6, l7, l8, l9, l10, l11, l12⟩ := id hl
  have b6 : (B0 0).getD 6 0 = nI np := hH.1.2.2.2.1.2.2.1
  have b7 : (B0 0).getD 7 0 = nI nc := hH.1.2.2.2.1.2.2.2.1
  have b8 : (B0 0).getD 8 0 = nI nt := hH.1.2.2.2.1.2.2.2.2
  have m4 : (B0 4).length = 20 := by rw [← hod.1]; exact l8
  have m5 : (B0 5).length = 20 := by rw [← hod.2]; exact l9
  have m33 : B0 33 = [1, 3, 9, 27] := hB.2.2.2.2.2.2.2.2.2.2.1
  have k1' : ¬ nI 1 = (0 : Int32) := by decide
  by_cases hx : (0 : Int32) ≤ x ∧ x ≤ 65535
  · by_cases hy : (0 : Int32) ≤ y ∧ y ≤ 1
    · by_cases y0 : y = 0
      · refine ⟨nI (cntN (PR x) 81), A, B0, ?_, ?_, hRt⟩
        · have e : cntN (fun q => PC x q && !decide (cQ q &&& 65535 = 0)) 256 = cntN (PR x) 81 := by
            rw [PC_PR x (fun c => !decide (c &&& 65535 = 0))]
            refine cnt_congr (fun s hs => ?_)
            obtain ⟨t1, t2, t3, -⟩ := side_t s hs
            have := tc_pos _ t1 _ t2 t3
            show (PR x s && !decide (nI (tcn (tds s) (tas s)) &&& 65535 = 0)) = PR x s
            rw [decide_eq_false this]; simp
          unfold gX10_truth
          rw [bd_iw, b2i_t hx]
          simp only [jn_eq]
          rw [if_neg k1', bd_iw, b2i_t hy, if_neg k1', if_pos y0, bd_lf0 _ (p_sW x 65535 _), e]; rfl
        · rw [tH_eq, told0 _ hb0, ← hB0, bd_in, b2i_t hx]
          simp only [jn_eq]
          rw [if_neg k1', bd_in, b2i_t hy, if_neg k1', p_tH1 y x m33, if_pos y0]
      · obtain ⟨ca, hca⟩ : ∃ ca, (om (PC x) cQ 256).1 &&& ((om (PC x) cQ 256).2 ^^^ (-1)) = ca := ⟨_, rfl⟩
        refine ⟨nI (cntN (fun s => PR x s && !decide (cSi s &&& ((om (PR x) cSi 81).2 ^^^ (-1)) = 0)) 81), A, B0, ?_, ?_, hRt⟩
        · have e : cntN (fun q => PC x q && !decide (cQ q &&& ca = 0)) 256 = cntN (fun s => PR x s && !decide (cSi s &&& ((om (PR x) cSi 81).2 ^^^ (-1)) = 0)) 81 := by
            rw [PC_PR x (fun c => !decide (c &&& ca = 0))]
            refine cnt_congr (fun s hs => ?_)
            show (PR x s && !decide (cSi s &&& ca = 0)) = (PR x s && !decide (cSi s &&& ((om (PR x) cSi 81).2 ^^^ (-1)) = 0))
            cases hp : PR x s with
            | false => rfl
            | true =>
              have := own_eq (c := cSi) hs hp
              rw [← hca, om_same, this]
          have g1 : gX6_casesOfOneSide x (fun i => A (rh0 i)) = some (ca, fun i => A (rh0 i)) := by rw [← hca]; exact p_cO x _
          unfold gX10_truth
          rw [bd_iw, b2i_t hx]
          simp only [jn_eq]
          rw [if_neg k1', bd_iw, b2i_t hy, if_neg k1', if_neg y0, bd_lf0 _ g1, bd_lf0 _ (p_sW x ca _), e]; rfl
        · rw [tH_eq, told0 _ hb0, ← hB0, bd_in, b2i_t hx]
          simp only [jn_eq]
          rw [if_neg k1', bd_in, b2i_t hy, if_neg k1', p_tH1 y x m33, if_neg y0]
    · refine ⟨-1, A, B0, ?_, ?_, hRt⟩
      · unfold gX10_truth
        rw [bd_iw, b2i_t hx]
        simp only [jn_eq]
        rw [if_neg k1', bd_iw, b2i_f hy]; rfl
      · rw [tH_eq, told0 _ hb0, ← hB0, bd_in, b2i_t hx]
        simp only [jn_eq]
        rw [if_neg k1', bd_in, b2i_f hy]; rfl
  · refine ⟨-1, A, B0, ?_, ?_, hRt⟩
    · unfold gX10_truth
      rw [bd_iw, b2i_f hx]; rfl
    · rw [tH_eq, told0 _ hb0, ← hB0, bd_in, b2i_f hx]; rfl
