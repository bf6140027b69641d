/-! PURE: text, tokens; the class reads one -/
def nx3B : (Unit → MM Int32) → Unit → MM Int32 := fun (self22 : Unit → MM Int32) (s23 : Unit) =>
  bd (ld 0 5) fun v24 =>
  bd (ld 0 0) fun v25 =>
  jn (fun (a27 : Unit) =>
  bd (ld 0 5) fun v28 =>
  bd (ld 0 4) fun v29 =>
  (if v28 ≤ v29 then
  bd (ld 0 4) fun v30 =>
  bd (la 1 v30) fun v31 =>
  bd (sv 0 2 v31) fun _ =>
  bd (ld 0 5) fun v32 =>
  bd (sv 0 5 (v32 + 1)) fun _ =>
  pr 0
  else
  bd gX7_keyword fun r33 =>
  bd (sv 0 2 r33) fun _ =>
  pr 0)) (fun j26 =>
  (if v25 ≤ v24 then
  j26 ()
  else
  bd (ld 0 5) fun v34 =>
  (if 400 ≤ v34 then
  j26 ()
  else
  bd (ld 0 5) fun v35 =>
  bd (la 1 v35) fun v36 =>
  bd (lf rh0 0 (gX7_isLetter v36)) fun r37 =>
  (if r37 = 0 then
  j26 ()
  else
  bd (ld 0 5) fun v38 =>
  bd (sv 0 5 (v38 + 1)) fun _ =>
  self22 ()))))
def nx3 : MM Int32 := loopC 100000 (nx3B) ()
def nx2B : (Unit → MM Int32) → Unit → MM Int32 := fun (self14 : Unit → MM Int32) (s15 : Unit) =>
  bd (ld 0 5) fun v16 =>
  bd (ld 0 0) fun v17 =>
  jn (fun (a19 : Unit) =>
  bd (ld 0 5) fun v20 =>
  bd (ld 0 4) fun v21 =>
  (if v20 ≤ v21 then
  (nx3)
  else
  bd (ld 0 5) fun v39 =>
  bd (ld 0 4) fun v40 =>
  jn (fun (a42 : Int32) =>
  bd (sv 0 2 a42) fun _ =>
  pr 0) (fun j41 =>
  (if 4 < (v39 - v40) then
  j41 258
  else
  j41 257)))) (fun j18 =>
  (if v17 ≤ v16 then
  j18 ()
  else
  bd (ld 0 5) fun v43 =>
  (if 400 ≤ v43 then
  j18 ()
  else
  bd (ld 0 5) fun v44 =>
  bd (la 1 v44) fun v45 =>
  bd (lf rh0 0 (gX7_isDigit v45)) fun r46 =>
  (if r46 = 0 then
  j18 ()
  else
  bd (ld 0 3) fun v47 =>
  bd (ld 0 5) fun v48 =>
  bd (la 1 v48) fun v49 =>
  bd (sv 0 3 (((10 * v47) + v49) - 48)) fun _ =>
  bd (ld 0 5) fun v50 =>
  bd (sv 0 5 (v50 + 1)) fun _ =>
  self14 ()))))
def nx2 : MM Int32 := loopC 100000 (nx2B) ()
def nx1B : (Unit → MM Int32) → Unit → MM Int32 := fun (self2 : Unit → MM Int32) (s3 : Unit) =>
  bd (ld 0 4) fun v4 =>
  bd (ld 0 0) fun v5 =>
  jn (fun (a7 : Unit) =>
  bd (ld 0 4) fun v8 =>
  bd (sv 0 5 v8) fun _ =>
  bd (ld 0 4) fun v9 =>
  bd (ld 0 0) fun v10 =>
  jn (fun (a12 : Unit) =>
  bd (sv 0 2 256) fun _ =>
  pr 0) (fun j11 =>
  (if v10 ≤ v9 then
  j11 ()
  else
  bd (ld 0 4) fun v13 =>
  (if v13 < 400 then
  bd (sv 0 3 0) fun _ =>
  (nx2)
  else
  j11 ())))) (fun j6 =>
  (if v5 ≤ v4 then
  j6 ()
  else
  bd (ld 0 4) fun v51 =>
  (if 400 ≤ v51 then
  j6 ()
  else
  bd (ld 0 4) fun v52 =>
  bd (la 1 v52) fun v53 =>
  jn (fun (a55 : Unit) =>
  bd (ld 0 4) fun v56 =>
  bd (sv 0 4 (v56 + 1)) fun _ =>
  self2 ()) (fun j54 =>
  (if v53 = 32 then
  j54 ()
  else
  bd (ld 0 4) fun v57 =>
  bd (la 1 v57) fun v58 =>
  (if v58 = 10 then
  j54 ()
  else
  j6 ()))))))
def nx1 : MM Int32 := loopC 100000 (nx1B) ()
theorem nxe_eq : gX7_next =
  bd (ld 0 5) fun v1 =>
  bd (sv 0 4 v1) fun _ =>
  (nx1) := rfl
def spN (c : Nat) : Bool := decide (c = 32) || decide (c = 10)
def dgN (c : Nat) : Bool := decide (48 ≤ c) && decide (c ≤ 57)
def ltN (c : Nat) : Bool := (decide (97 ≤ c) && decide (c ≤ 122)) || (decide (65 ≤ c) && decide (c ≤ 90))
def mkN (c : Nat) : Bool := decide (c ∈ [59, 43, 45, 42, 47, 40, 41, 60, 61, 62])
def skN (ts : Nat → Nat) (n p : Nat) : Nat := fstp (fun x => !spN (ts x)) p (n - p)
def dgE (ts : Nat → Nat) (n w : Nat) : Nat := fstp (fun x => !dgN (ts x)) w (n - w)
def ltE (ts : Nat → Nat) (n w : Nat) : Nat := fstp (fun x => !ltN (ts x)) w (n - w)
def vlN (ts : Nat → Nat) (w : Nat) : Nat → Nat := fo (fun i a => 10 * a + ts (w + i) - 48) 0
/-- the token behind a place: its kind (0 end, 1 strange, 2 word, 3 number, 4 sign), what it is worth, where it starts, where it stops -/
def tkN (ts : Nat → Nat) (n p : Nat) : Nat × Nat × Nat × Nat :=
  if n ≤ skN ts n p then (0, 0, n, n)
  else if dgN (ts (skN ts n p)) = true then (if dgE ts n (skN ts n p) - skN ts n p ≤ 4 then (3, vlN ts (skN ts n p) (dgE ts n (skN ts n p) - skN ts n p), skN ts n p, dgE ts n (skN ts n p)) else (1, 258, skN ts n p, dgE ts n (skN ts n p)))
  else if ltN (ts (skN ts n p)) = true then (if kwC ts (skN ts n p) (ltE ts n (skN ts n p)) < 22 then (2, kwC ts (skN ts n p) (ltE ts n (skN ts n p)), skN ts n p, ltE ts n (skN ts n p)) else (1, 258, skN ts n p, ltE ts n (skN ts n p)))
  else if mkN (ts (skN ts n p)) = true then (4, ts (skN ts n p), skN ts n p, skN ts n p + 1)
  else (1, ts (skN ts n p), skN ts n p, skN ts n p + 1)
/-- the class's number of a token -/
def ctk (t : Nat × Nat × Nat × Nat) : Nat := if t.1 = 0 then 256 else if t.1 = 2 then 300 + t.2.1 else if t.1 = 3 then 257 else t.2.1
theorem run_spec (p : Nat → Bool) (ts : Nat → Nat) {n w : Nat} (h : w ≤ n) : w ≤ fstp (fun x => !p (ts x)) w (n - w) ∧ fstp (fun x => !p (ts x)) w (n - w) ≤ n ∧ (∀ x, w ≤ x → x < fstp (fun x => !p (ts x)) w (n - w) → p (ts x) = true) ∧ (fstp (fun x => !p (ts x)) w (n - w) < n → p (ts (fstp (fun x => !p (ts x)) w (n - w))) = false) := by
  obtain ⟨a1, a2, a3, a4⟩ := fstp_spec (fun x => !p (ts x)) (n - w) w
  refine ⟨a1, by omega, fun x h1 h2 => ?_, fun h1 => ?_⟩
  · have q := a3 x h1 h2
    rw [Bool.not_eq_false'] at q
    exact q
  · have := a4 (by omega)
    rw [Bool.not_eq_true'] at this
    exact this
theorem run_gt {p : Nat → Bool} {ts : Nat → Nat} {n w : Nat} (h : w < n) (hp : p (ts w) = true) : w < fstp (fun x => !p (ts x)) w (n - w) := by
  obtain ⟨a1, a2, a3, a4⟩ := run_spec p ts (Nat.le_of_lt h)
  rcases Nat.lt_or_ge w (fstp (fun x => !p (ts x)) w (n - w)) with c | c
  · exact c
  · have e : fstp (fun x => !p (ts x)) w (n - w) = w := by omega
    rw [e] at a4
    rw [a4 h] at hp; cases hp
theorem vlN_lt {ts : Nat → Nat} {w : Nat} : ∀ k, (∀ i, i < k → dgN (ts (w + i)) = true) → vlN ts w k < 10 ^ k
  | 0, _ => by show 0 < 10 ^ 0; decide
  | k + 1, h => by
    have ih := vlN_lt k (fun i hi => h i (by omega))
    have hk := h k (by omega)
    unfold dgN at hk
    rw [Bool.and_eq_true, decide_eq_true_eq, decide_eq_true_eq] at hk
    show 10 * vlN ts w k + ts (w + k) - 48 < 10 ^ (k + 1)
    rw [Nat.pow_succ]
    omega
theorem mk_t : ∀ c, mkN c = true → c = 59 ∨ c = 43 ∨ c = 45 ∨ c = 42 ∨ c = 47 ∨ c = 40 ∨ c = 41 ∨ c = 60 ∨ c = 61 ∨ c = 62 := fun c h => by
  unfold mkN at h
  have := of_decide_eq_true h
  simp only [List.mem_cons, List.not_mem_nil, or_false] at this
  exact this
set_option maxHeartbeats 400000 in
theorem tk_ok {ts : Nat → Nat} {n p : Nat} (hn : n ≤ 400) (h : p ≤ n) (hb : ∀ i, i < n → ts i < 256) : p ≤ (tkN ts n p).2.2.1 ∧ (tkN ts n p).2.2.1 ≤ n ∧ (tkN ts n p).2.2.2 ≤ n ∧ (tkN ts n p).1 ≤ 4 ∧
    ((tkN ts n p).1 = 0 → (tkN ts n p).2.2.1 = n ∧ (tkN ts n p).2.2.2 = n) ∧ ((tkN ts n p).1 ≠ 0 → (tkN ts n p).2.2.1 < (tkN ts n p).2.2.2) ∧
    ((tkN ts n p).1 = 2 → (tkN ts n p).2.1 < 22) ∧ ((tkN ts n p).1 = 3 → (tkN ts n p).2.1 ≤ 9999) ∧ ((tkN ts n p).1 = 4 → mkN (tkN ts n p).2.1 = true) ∧ ((tkN ts n p).1 = 1 → (tkN ts n p).2.1 < 259 ∧ (tkN ts n p).2.1 ≠ 256 ∧ (tkN ts n p).2.1 ≠ 257 ∧ mkN (tkN ts n p).2.1 = false) := by
  obtain ⟨s1, s2, s3, s4⟩ := run_spec spN ts h
  have e : skN ts n p = fstp (fun x => !spN (ts x)) p (n - p) := rfl
  rw [← e] at s1 s2 s3 s4
  unfold tkN
  obtain ⟨w, hw⟩ : ∃ w, skN ts n p = w := ⟨_, rfl⟩
  rw [hw] at s1 s2 s3 s4 ⊢
  have hm258 : mkN 258 = false := by decide
  by_cases c0 : n ≤ w
  · rw [if_pos c0]
    exact ⟨h, Nat.le_refl n, Nat.le_refl n, by show 0 ≤ 4; decide, fun _ => ⟨rfl, rfl⟩, fun q => absurd rfl q, fun q => absurd q (by show ¬ 0 = 2; decide), fun q => absurd q (by show ¬ 0 = 3; decide), fun q => absurd q (by show ¬ 0 = 4; decide), fun q => absurd q (by show ¬ 0 = 1; decide)⟩
  · rw [if_neg c0]
    have hwn : w < n := by omega
    have hbw := hb w hwn
    by_cases c1 : dgN (ts w) = true
    · rw [if_pos c1]
      obtain ⟨d1, d2, d3, d4⟩ := run_spec dgN ts (Nat.le_of_lt hwn)
      have d5 := run_gt hwn c1
      have e : dgE ts n w = fstp (fun x => !dgN (ts x)) w (n - w) := rfl
      rw [← e] at d1 d2 d3 d4 d5
      obtain ⟨z, hz⟩ : ∃ z, dgE ts n w = z := ⟨_, rfl⟩
      rw [hz] at d1 d2 d3 d4 d5 ⊢
      by_cases c2 : z - w ≤ 4
      · rw [if_pos c2]
        have hv := vlN_lt (ts := ts) (w := w) (z - w) (fun i hi => d3 (w + i) (by omega) (by omega))
        have hv2 : 10 ^ (z - w) ≤ 10 ^ 4 := Nat.pow_le_pow_right (by decide) c2
        exact ⟨s1, Nat.le_of_lt hwn, d2, by show 3 ≤ 4; decide, fun q => absurd q (by show ¬ 3 = 0; decide), fun _ => d5, fun q => absurd q (by show ¬ 3 = 2; decide), fun _ => by show vlN ts w (z - w) ≤ 9999; omega, fun q => absurd q (by show ¬ 3 = 4; decide), fun q => absurd q (by show ¬ 3 = 1; decide)⟩
      · rw [if_neg c2]
        exact ⟨s1, Nat.le_of_lt hwn, d2, by show 1 ≤ 4; decide, fun q => absurd q (by show ¬ 1 = 0; decide), fun _ => d5, fun q => absurd q (by show ¬ 1 = 2; decide), fun q => absurd q (by show ¬ 1 = 3; decide), fun q => absurd q (by show ¬ 1 = 4; decide), fun _ => ⟨by show 258 < 259; decide, by show 258 ≠ 256; decide, by show 258 ≠ 257; decide, hm258⟩⟩
    · rw [if_neg c1]
      by_cases c2 : ltN (ts w) = true
      · rw [if_pos c2]
        obtain ⟨d1, d2, d3, d4⟩ := run_spec ltN ts (Nat.le_of_lt hwn)
        have d5 := run_gt hwn c2
        have e : ltE ts n w = fstp (fun x => !ltN (ts x)) w (n - w) := rfl
        rw [← e] at d1 d2 d3 d4 d5
        obtain ⟨z, hz⟩ : ∃ z, ltE ts n w = z := ⟨_, rfl⟩
        rw [hz] at d1 d2 d3 d4 d5 ⊢
        by_cases c3 : kwC ts w z < 22
        · rw [if_pos c3]
          exact ⟨s1, Nat.le_of_lt hwn, d2, by show 2 ≤ 4; decide, fun q => absurd q (by show ¬ 2 = 0; decide), fun _ => d5, fun _ => c3, fun q => absurd q (by show ¬ 2 = 3; decide), fun q => absurd q (by show ¬ 2 = 4; decide), fun q => absurd q (by show ¬ 2 = 1; decide)⟩
        · rw [if_neg c3]
          exact ⟨s1, Nat.le_of_lt hwn, d2, by show 1 ≤ 4; decide, fun q => absurd q (by show ¬ 1 = 0; decide), fun _ => d5, fun q => absurd q (by show ¬ 1 = 2; decide), fun q => absurd q (by show ¬ 1 = 3; decide), fun q => absurd q (by show ¬ 1 = 4; decide), fun _ => ⟨by show 258 < 259; decide, by show 258 ≠ 256; decide, by show 258 ≠ 257; decide, hm258⟩⟩
      · rw [if_neg c2]
        by_cases c3 : mkN (ts w) = true
        · rw [if_pos c3]
          exact ⟨s1, Nat.le_of_lt hwn, hwn, by show 4 ≤ 4; decide, fun q => absurd q (by show ¬ 4 = 0; decide), fun _ => Nat.lt_succ_self w, fun q => absurd q (by show ¬ 4 = 2; decide), fun q => absurd q (by show ¬ 4 = 3; decide), fun _ => c3, fun q => absurd q (by show ¬ 4 = 1; decide)⟩
        · rw [if_neg c3]
          exact ⟨s1, Nat.le_of_lt hwn, hwn, by show 1 ≤ 4; decide, fun q => absurd q (by show ¬ 1 = 0; decide), fun _ => Nat.lt_succ_self w, fun q => absurd q (by show ¬ 1 = 2; decide), fun q => absurd q (by show ¬ 1 = 3; decide), fun q => absurd q (by show ¬ 1 = 4; decide), fun _ => ⟨by show ts w < 259; omega, by show ts w ≠ 256; omega, by show ts w ≠ 257; omega, Bool.eq_false_iff.mpr c3⟩⟩
theorem St_dig (x : Int32) : St (gX7_isDigit x) := by
  unfold gX7_isDigit
  repeat' (first | with_reducible exact St_rz _ | with_reducible apply St_ite | (with_reducible apply St_jn) | intro _ | with_reducible apply_assumption)
theorem St_let (x : Int32) : St (gX7_isLetter x) := by
  unfold gX7_isLetter
  repeat' (first | with_reducible exact St_rz _ | with_reducible apply St_ite | (with_reducible apply St_jn) | intro _ | with_reducible apply_assumption)
theorem dig_d : ∀ c, c < 256 → (gX7_isDigit (nI c) (fun _ => [])).map (fun q => q.1) = some (nI (dgN c).toNat) ∧ (gX7_isLetter (nI c) (fun _ => [])).map (fun q => q.1) = some (nI (ltN c).toNat) := by decide +kernel
set_option maxHeartbeats 400000 in
theorem p_digC {c : Nat} (h : c < 256) (A : Bk) : gX7_isDigit (nI c) A = some (nI (dgN c).toNat, A) := St_val (St_dig _) (dig_d c h).1 A
set_option maxHeartbeats 400000 in
theorem p_letC {c : Nat} (h : c < 256) (A : Bk) : gX7_isLetter (nI c) A = some (nI (ltN c).toNat, A) := St_val (St_let _) (dig_d c h).2 A
theorem ldo {β : Type} {T : Bk} {o : List Int32} {k : Nat} (K : Int32 → MM β) (h : k < o.length) : bd (ld 0 k) K (up T 0 o) = K (o.getD k 0) (up T 0 o) := by
  rw [bd_ld _ (by rw [up_same]; exact h), up_same]
theorem svo {β : Type} {T : Bk} {o : List Int32} {k : Nat} {v : Int32} (K : Unit → MM β) (h : k < o.length) : bd (sv 0 k v) K (up T 0 o) = K () (up T 0 (o.set k v)) := by
  rw [bd_sv _ (by rw [up_same]; exact h), up_same, up_up]
theorem lao {β : Type} {T : Bk} {o : List Int32} {i : Nat} (K : Int32 → MM β) (h : i < (T 1).length) (h2 : (T 1).length < 2 ^ 31) : bd (la 1 (nI i)) K (up T 0 o) = K ((T 1).getD i 0) (up T 0 o) := by
  have e : up T 0 o 1 = T 1 := up_ne _ _ (by decide)
  rw [bd_la _ (by rw [e]; exact h) (by rw [e]; exact h2), e]
/-- the tape's own numbers -/
def OC (o0 o : List Int32) (n : Nat) (t : Nat × Nat × Nat × Nat) : Prop := o.length = 8 ∧ o.getD 0 0 = nI n ∧ (o.getD 6 0 = o0.getD 6 0 ∧ o.getD 7 0 = o0.getD 7 0) ∧ o.getD 2 0 = nI (ctk t) ∧ (t.1 = 3 → o.getD 3 0 = nI t.2.1) ∧ o.getD 4 0 = nI t.2.2.1 ∧ o.getD 5 0 = nI t.2.2.2
def OB (o0 o : List Int32) (n w : Nat) : Prop := o.length = 8 ∧ o.getD 0 0 = nI n ∧ (o.getD 6 0 = o0.getD 6 0 ∧ o.getD 7 0 = o0.getD 7 0) ∧ o.getD 4 0 = nI w
theorem OB_set {o0 o : List Int32} {n w k : Nat} {v : Int32} (h : OB o0 o n w) (hk : k ≠ 0 ∧ k ≠ 6 ∧ k ≠ 7 ∧ k ≠ 4) : OB o0 (o.set k v) n w := by
  obtain ⟨h1, h2, ⟨h3, h4⟩, h5⟩ := h
  exact ⟨by rw [List.length_set, h1], by rw [gd_set_ne hk.1]; exact h2, ⟨by rw [gd_set_ne hk.2.1]; exact h3, by rw [gd_set_ne hk.2.2.1]; exact h4⟩, by rw [gd_set_ne hk.2.2.2]; exact h5⟩
set_option maxHeartbeats 400000 in
theorem p_nx3 {T : Bk} {ts : Nat → Nat} {n w : Nat} {o0 o : List Int32} (hb : BY (T 1) ts n) (h : OB o0 o n w) (h5 : o.getD 5 0 = nI w) (hw : w < n) (hnd : dgN (ts w) = false) {p : Nat} (hsk : skN ts n p = w) :
    Ht (nx3 (up T 0 o)) (fun r T' => r = 0 ∧ ∃ o', T' = up T 0 o' ∧ OC o0 o' n (tkN ts n p)) := by
  obtain ⟨b1, b2, b3⟩ := id hb
  obtain ⟨s1, s2, s3, s4⟩ := run_spec ltN ts (Nat.le_of_lt hw)
  have ez : ltE ts n w = fstp (fun x => !ltN (ts x)) w (n - w) := rfl
  rw [← ez] at s1 s2 s3 s4
  obtain ⟨z, hz⟩ : ∃ z, ltE ts n w = z := ⟨_, rfl⟩
  rw [hz] at s1 s2 s3 s4
  unfold nx3
  refine loopI (z - w) (fun j _ A => ∃ o, A = up T 0 o ∧ OB o0 o n w ∧ o.getD 5 0 = nI (w + j)) _ (fun j s A hj hI => ?_) (fun s A hI f => ?_) (by omega) ⟨o, rfl, h, h5⟩
  · obtain ⟨o, rfl, hO, h5⟩ := hI
    obtain ⟨o1, o2, o3, o4⟩ := id hO
    obtain ⟨c1, c2⟩ := b3 (w + j) (by omega)
    have hl := s3 (w + j) (by omega) (by omega)
    refine ⟨(), up T 0 (o.set 5 (nI (w + (j + 1)))), fun f => ?_, _, rfl, OB_set hO (by decide), by rw [gd_set_same (by omega)]⟩
    unfold nx3B
    simp only [jn_eq]
    rw [ldo _ (by omega), h5, ldo _ (by omega), o2, if_neg (nI_ge (by omega) (by omega)), ldo _ (by omega), h5, if_neg (show ¬ (400 : Int32) ≤ nI (w + j) from nI_ge (b := 400) (by omega) (by omega)), ldo _ (by omega), h5, lao _ (by omega) (by omega), c1, bd_lf0 _ (p_letC c2 _), hl, if_neg (by decide), ldo _ (by omega), h5, nI_1, svo _ (by omega)]
    rfl
  · obtain ⟨o, rfl, hO, h5⟩ := hI
    obtain ⟨o1, o2, ⟨o3, o3'⟩, o4⟩ := id hO
    rw [show w + (z - w) = z by omega] at h5
    have fin : Ht ((bd (ld 0 5) fun v28 => bd (ld 0 4) fun v29 => (if v28 ≤ v29 then bd (ld 0 4) fun v30 => bd (la 1 v30) fun v31 => bd (sv 0 2 v31) fun _ => bd (ld 0 5) fun v32 => bd (sv 0 5 (v32 + 1)) fun _ => pr (0 : Int32) else bd gX7_keyword fun r33 => bd (sv 0 2 r33) fun _ => pr 0)) (up T 0 o)) (fun r T' => r = 0 ∧ ∃ o', T' = up T 0 o' ∧ OC o0 o' n (tkN ts n p)) := by
      obtain ⟨c1, c2⟩ := b3 w hw
      have htk : tkN ts n p = if ltN (ts w) = true then (if kwC ts w z < 22 then (2, kwC ts w z, w, z) else (1, 258, w, z)) else if mkN (ts w) = true then (4, ts w, w, w + 1) else (1, ts w, w, w + 1) := by
        unfold tkN
        rw [hsk, if_neg (by omega), hnd, if_neg (by decide), hz]
      rw [ldo _ (by omega), h5, ldo _ (by omega), o4]
      by_cases c : z ≤ w
      · have ezw : z = w := by omega
        have hnl : ltN (ts w) = false := by
          have := s4 (by omega)
          rwa [ezw] at this
        rw [if_pos ((nI_leI (by omega) (by omega)).mpr c), ldo _ (by omega), o4, lao _ (by omega) (by omega), c1, svo _ (by omega), ldo _ (by rw [List.length_set]; omega), gd_set_ne (by decide), h5, nI_1, svo _ (by rw [List.length_set]; omega), ezw]
        rw [hnl, if_neg (by decide)] at htk
        refine ⟨0, _, rfl, rfl, _, rfl, ?_⟩
        rw [htk]
        have q0 : ((o.set 2 (nI (ts w))).set 5 (nI (w + 1))).length = 8 := by rw [List.length_set, List.length_set, o1]
        have q1 : ((o.set 2 (nI (ts w))).set 5 (nI (w + 1))).getD 0 0 = nI n := by rw [gd_set_ne (by decide), gd_set_ne (by decide)]; exact o2
        have q2 : ((o.set 2 (nI (ts w))).set 5 (nI (w + 1))).getD 6 0 = o0.getD 6 0 := by rw [gd_set_ne (by decide), gd_set_ne (by decide)]; exact o3
        have q3 : ((o.set 2 (nI (ts w))).set 5 (nI (w + 1))).getD 7 0 = o0.getD 7 0 := by rw [gd_set_ne (by decide), gd_set_ne (by decide)]; exact o3'
        have q4 : ((o.set 2 (nI (ts w))).set 5 (nI (w + 1))).getD 2 0 = nI (ts w) := by rw [gd_set_ne (by decide), gd_set_same (by omega)]
        have q5 : ((o.set 2 (nI (ts w))).set 5 (nI (w + 1))).getD 4 0 = nI w := by rw [gd_set_ne (by decide), gd_set_ne (by decide)]; exact o4
        have q6 : ((o.set 2 (nI (ts w))).set 5 (nI (w + 1))).getD 5 0 = nI (w + 1) := by rw [gd_set_same (by rw [List.length_set]; omega)]
        by_cases cm : mkN (ts w) = true
        · rw [if_pos cm]
          exact ⟨q0, q1, ⟨q2, q3⟩, q4, fun q => absurd q (by show ¬ 4 = 3; decide), q5, q6⟩
        · rw [if_neg cm]
          exact ⟨q0, q1, ⟨q2, q3⟩, q4, fun q => absurd q (by show ¬ 1 = 3; decide), q5, q6⟩
      · have hl : ltN (ts w) = true := s3 w (Nat.le_refl _) (by omega)
        have gk := p_keyword (T := up T 0 o) (ts := ts) (n := n) (w := w) (e := z) (by rw [up_same]; exact o1) (by rw [up_ne _ _ (by decide)]; exact hb) (by rw [up_same]; exact o4) (by rw [up_same]; exact h5) s1 s2
        rw [if_neg (nI_ge (by omega) (by omega)), bd_some gk, svo _ (by omega)]
        rw [hl, if_pos rfl] at htk
        refine ⟨0, _, rfl, rfl, _, rfl, ?_⟩
        rw [htk]
        by_cases ck : kwC ts w z < 22
        · rw [if_pos ck, if_pos ck]
          exact ⟨by rw [List.length_set, o1], by rw [gd_set_ne (by decide)]; exact o2, ⟨by rw [gd_set_ne (by decide)]; exact o3, by rw [gd_set_ne (by decide)]; exact o3'⟩, by rw [gd_set_same (by omega)]; rfl, fun q => absurd q (by show ¬ 2 = 3; decide), by rw [gd_set_ne (by decide)]; exact o4, by rw [gd_set_ne (by decide)]; exact h5⟩
        · rw [if_neg ck, if_neg ck]
          exact ⟨by rw [List.length_set, o1], by rw [gd_set_ne (by decide)]; exact o2, ⟨by rw [gd_set_ne (by decide)]; exact o3, by rw [gd_set_ne (by decide)]; exact o3'⟩, by rw [gd_set_same (by omega)]; rfl, fun q => absurd q (by show ¬ 1 = 3; decide), by rw [gd_set_ne (by decide)]; exact o4, by rw [gd_set_ne (by decide)]; exact h5⟩
    unfold nx3B
    simp only [jn_eq]
    rw [ldo _ (by omega), h5, ldo _ (by omega), o2]
    by_cases c : n ≤ z
    · rw [if_pos ((nI_leI (by omega) (by omega)).mpr c)]
      exact fin
    · have hnl := s4 (by omega)
      obtain ⟨c1, c2⟩ := b3 z (by omega)
      rw [if_neg (nI_ge (by omega) (by omega)), ldo _ (by omega), h5, if_neg (show ¬ (400 : Int32) ≤ nI z from nI_ge (b := 400) (by omega) (by omega)), ldo _ (by omega), h5, lao _ (by omega) (by omega), c1, bd_lf0 _ (p_letC c2 _), hnl, if_pos (show nI (Bool.toNat false) = (0 : Int32) from rfl)]
      exact fin
set_option maxHeartbeats 400000 in
theorem p_nx2 {T : Bk} {ts : Nat → Nat} {n w : Nat} {o0 o : List Int32} (hb : BY (T 1) ts n) (h : OB o0 o n w) (h5 : o.getD 5 0 = nI w) (h3 : o.getD 3 0 = 0) (hw : w < n) {p : Nat} (hsk : skN ts n p = w) :
    Ht (nx2 (up T 0 o)) (fun r T' => r = 0 ∧ ∃ o', T' = up T 0 o' ∧ OC o0 o' n (tkN ts n p)) := by
  obtain ⟨b1, b2, b3⟩ := id hb
  obtain ⟨s1, s2, s3, s4⟩ := run_spec dgN ts (Nat.le_of_lt hw)
  have ez : dgE ts n w = fstp (fun x => !dgN (ts x)) w (n - w) := rfl
  rw [← ez] at s1 s2 s3 s4
  obtain ⟨z, hz⟩ : ∃ z, dgE ts n w = z := ⟨_, rfl⟩
  rw [hz] at s1 s2 s3 s4
  unfold nx2
  refine loopI (z - w) (fun j _ A => ∃ o, A = up T 0 o ∧ OB o0 o n w ∧ o.getD 5 0 = nI (w + j) ∧ o.getD 3 0 = nI (vlN ts w j)) _ (fun j s A hj hI => ?_) (fun s A hI f => ?_) (by omega) ⟨o, rfl, h, h5, h3⟩
  · obtain ⟨o, rfl, hO, h5, h3⟩ := hI
    obtain ⟨o1, o2, o3, o4⟩ := id hO
    obtain ⟨c1, c2⟩ := b3 (w + j) (by omega)
    have hl := s3 (w + j) (by omega) (by omega)
    have hl2 := hl
    unfold dgN at hl2
    rw [Bool.and_eq_true, decide_eq_true_eq, decide_eq_true_eq] at hl2
    have ev : (10 * nI (vlN ts w j) + nI (ts (w + j)) - 48 : Int32) = nI (vlN ts w (j + 1)) := by
      rw [show (10 : Int32) = nI 10 from rfl, pk_mul, nI_add, show (48 : Int32) = nI 48 from rfl, pk_sub (by omega)]; rfl
    refine ⟨(), up T 0 ((o.set 3 (nI (vlN ts w (j + 1)))).set 5 (nI (w + (j + 1)))), fun f => ?_, _, rfl, OB_set (OB_set hO (by decide)) (by decide), by rw [gd_set_same (by rw [List.length_set]; omega)], by rw [gd_set_ne (by decide), gd_set_same (by omega)]⟩
    unfold nx2B
    simp only [jn_eq]
    rw [ldo _ (by omega), h5, ldo _ (by omega), o2, if_neg (nI_ge (by omega) (by omega)), ldo _ (by omega), h5, if_neg (show ¬ (400 : Int32) ≤ nI (w + j) from nI_ge (b := 400) (by omega) (by omega)), ldo _ (by omega), h5, lao _ (by omega) (by omega), c1, bd_lf0 _ (p_digC c2 _), hl, if_neg (by decide), ldo _ (by omega), h3, ldo _ (by omega), h5, lao _ (by omega) (by omega), c1, ev, svo _ (by omega), ldo _ (by rw [List.length_set]; omega), gd_set_ne (by decide), h5, nI_1, svo _ (by rw [List.length_set]; omega)]
    rfl
  · obtain ⟨o, rfl, hO, h5, h3⟩ := hI
    obtain ⟨o1, o2, ⟨o3, o3'⟩, o4⟩ := id hO
    rw [show w + (z - w) = z by omega] at h5
    have fin : Ht ((bd (ld 0 5) fun v20 => bd (ld 0 4) fun v21 => (if v20 ≤ v21 then nx3 else bd (ld 0 5) fun v39 => bd (ld 0 4) fun v40 => (if 4 < (v39 - v40) then bd (sv 0 2 258) fun _ => pr (0 : Int32) else bd (sv 0 2 257) fun _ => pr 0))) (up T 0 o)) (fun r T' => r = 0 ∧ ∃ o', T' = up T 0 o' ∧ OC o0 o' n (tkN ts n p)) := by
      rw [ldo _ (by omega), h5, ldo _ (by omega), o4]
      by_cases c : z ≤ w
      · have ezw : z = w := by omega
        have hnd : dgN (ts w) = false := by
          have := s4 (by omega)
          rwa [ezw] at this
        rw [if_pos ((nI_leI (by omega) (by omega)).mpr c)]
        exact p_nx3 hb hO (by rw [h5, ezw]) hw hnd hsk
      · have hd : dgN (ts w) = true := s3 w (Nat.le_refl _) (by omega)
        have htk : tkN ts n p = if z - w ≤ 4 then (3, vlN ts w (z - w), w, z) else (1, 258, w, z) := by
          unfold tkN
          rw [hsk, if_neg (by omega), hd, if_pos rfl, hz]
        rw [if_neg (nI_ge (by omega) (by omega)), ldo _ (by omega), h5, ldo _ (by omega), o4, pk_sub (by omega)]
        by_cases c4 : z - w ≤ 4
        · rw [if_neg (show ¬ (4 : Int32) < nI (z - w) from nI_nlt (b := z - w) (a := 4) c4 (by omega)), svo _ (by omega)]
          rw [if_pos c4] at htk
          refine ⟨0, _, rfl, rfl, _, rfl, ?_⟩
          rw [htk]
          exact ⟨by rw [List.length_set, o1], by rw [gd_set_ne (by decide)]; exact o2, ⟨by rw [gd_set_ne (by decide)]; exact o3, by rw [gd_set_ne (by decide)]; exact o3'⟩, by rw [gd_set_same (by omega)]; rfl, fun _ => by rw [gd_set_ne (by decide)]; exact h3, by rw [gd_set_ne (by decide)]; exact o4, by rw [gd_set_ne (by decide)]; exact h5⟩
        · rw [if_pos (show (4 : Int32) < nI (z - w) from nI_lt (a := 4) (by omega) (by omega)), svo _ (by omega)]
          rw [if_neg c4] at htk
          refine ⟨0, _, rfl, rfl, _, rfl, ?_⟩
          rw [htk]
          exact ⟨by rw [List.length_set, o1], by rw [gd_set_ne (by decide)]; exact o2, ⟨by rw [gd_set_ne (by decide)]; exact o3, by rw [gd_set_ne (by decide)]; exact o3'⟩, by rw [gd_set_same (by omega)]; rfl, fun q => absurd q (by show ¬ 1 = 3; decide), by rw [gd_set_ne (by decide)]; exact o4, by rw [gd_set_ne (by decide)]; exact h5⟩
    unfold nx2B
    simp only [jn_eq]
    rw [ldo _ (by omega), h5, ldo _ (by omega), o2]
    by_cases c : n ≤ z
    · rw [if_pos ((nI_leI (by omega) (by omega)).mpr c)]
      exact fin
    · have hnl := s4 (by omega)
      obtain ⟨c1, c2⟩ := b3 z (by omega)
      rw [if_neg (nI_ge (by omega) (by omega)), ldo _ (by omega), h5, if_neg (show ¬ (400 : Int32) ≤ nI z from nI_ge (b := 400) (by omega) (by omega)), ldo _ (by omega), h5, lao _ (by omega) (by omega), c1, bd_lf0 _ (p_digC c2 _), hnl, if_pos (show nI (Bool.toNat false) = (0 : Int32) from rfl)]
      exact fin
set_option maxHeartbeats 400000 in
theorem p_next0 {T : Bk} {ts : Nat → Nat} {n p : Nat} (h0 : (T 0).length = 8) (hb : BY (T 1) ts n) (hl : (T 0).getD 0 0 = nI n) (hp : (T 0).getD 5 0 = nI p) (hpn : p ≤ n) : ∃ o, gX7_next T = some (0, up T 0 o) ∧ OC (T 0) o n (tkN ts n p) := by
  obtain ⟨b1, b2, b3⟩ := id hb
  obtain ⟨s1, s2, s3, s4⟩ := run_spec spN ts hpn
  have ez : skN ts n p = fstp (fun x => !spN (ts x)) p (n - p) := rfl
  rw [← ez] at s1 s2 s3 s4
  obtain ⟨w, hw⟩ : ∃ w, skN ts n p = w := ⟨_, rfl⟩
  rw [hw] at s1 s2 s3 s4
  have key : Ht (nx1 (up T 0 ((T 0).set 4 (nI p)))) (fun r T' => r = 0 ∧ ∃ o', T' = up T 0 o' ∧ OC (T 0) o' n (tkN ts n p)) := by
    unfold nx1
    refine loopI (w - p) (fun j _ A => ∃ o, A = up T 0 o ∧ OB (T 0) o n (p + j)) _ (fun j s A hj hI => ?_) (fun s A hI f => ?_) (by omega) ⟨_, rfl, by rw [List.length_set, h0], by rw [gd_set_ne (by decide)]; exact hl, ⟨by rw [gd_set_ne (by decide)], by rw [gd_set_ne (by decide)]⟩, by rw [gd_set_same (by omega)]; rfl⟩
    · obtain ⟨o, rfl, hO⟩ := hI
      obtain ⟨o1, o2, ⟨o3, o3'⟩, o4⟩ := id hO
      obtain ⟨c1, c2⟩ := b3 (p + j) (by omega)
      have hs := s3 (p + j) (by omega) (by omega)
      unfold spN at hs
      rw [Bool.or_eq_true, decide_eq_true_eq, decide_eq_true_eq] at hs
      refine ⟨(), up T 0 (o.set 4 (nI (p + (j + 1)))), fun f => ?_, _, rfl, by rw [List.length_set, o1], by rw [gd_set_ne (by decide)]; exact o2, ⟨by rw [gd_set_ne (by decide)]; exact o3, by rw [gd_set_ne (by decide)]; exact o3'⟩, by rw [gd_set_same (by omega)]⟩
      unfold nx1B
      simp only [jn_eq]
      rw [ldo _ (by omega), o4, ldo _ (by omega), o2, if_neg (nI_ge (by omega) (by omega)), ldo _ (by omega), o4, if_neg (show ¬ (400 : Int32) ≤ nI (p + j) from nI_ge (b := 400) (by omega) (by omega)), ldo _ (by omega), o4, lao _ (by omega) (by omega), c1]
      by_cases q : ts (p + j) = 32
      · rw [if_pos (show nI (ts (p + j)) = 32 by rw [q]; rfl), ldo _ (by omega), o4, nI_1, svo _ (by omega)]; rfl
      · have q2 : ts (p + j) = 10 := by omega
        rw [if_neg (show ¬ nI (ts (p + j)) = 32 from fun z => q ((nI_eq (b := 32) (by omega) (by omega)).mp z)), ldo _ (by omega), o4, lao _ (by omega) (by omega), c1, if_pos (show nI (ts (p + j)) = 10 by rw [q2]; rfl), ldo _ (by omega), o4, nI_1, svo _ (by omega)]; rfl
    · obtain ⟨o, rfl, hO⟩ := hI
      rw [show p + (w - p) = w by omega] at hO
      obtain ⟨o1, o2, ⟨o3, o3'⟩, o4⟩ := id hO
      have fin : Ht ((bd (ld 0 4) fun v8 => bd (sv 0 5 v8) fun _ => bd (ld 0 4) fun v9 => bd (ld 0 0) fun v10 => (if v10 ≤ v9 then bd (sv 0 2 256) fun _ => pr (0 : Int32) else bd (ld 0 4) fun v13 => (if v13 < 400 then bd (sv 0 3 0) fun _ => nx2 else bd (sv 0 2 256) fun _ => pr 0))) (up T 0 o)) (fun r T' => r = 0 ∧ ∃ o', T' = up T 0 o' ∧ OC (T 0) o' n (tkN ts n p)) := by
        rw [ldo _ (by omega), o4, svo _ (by omega), ldo _ (by rw [List.length_set]; omega), gd_set_ne (by decide), o4, ldo _ (by rw [List.length_set]; omega), gd_set_ne (by decide), o2]
        by_cases c : n ≤ w
        · have ewn : w = n := by omega
          rw [if_pos ((nI_leI (by omega) (by omega)).mpr c), svo _ (by rw [List.length_set]; omega)]
          have htk : tkN ts n p = (0, 0, n, n) := by
            unfold tkN
            rw [hw, if_pos c]
          refine ⟨0, _, rfl, rfl, _, rfl, ?_⟩
          rw [htk]
          exact ⟨by rw [List.length_set, List.length_set, o1], by rw [gd_set_ne (by decide), gd_set_ne (by decide)]; exact o2, ⟨by rw [gd_set_ne (by decide), gd_set_ne (by decide)]; exact o3, by rw [gd_set_ne (by decide), gd_set_ne (by decide)]; exact o3'⟩, by rw [gd_set_same (by rw [List.length_set]; omega)]; rfl, fun q => absurd q (by show ¬ 0 = 3; decide), by rw [gd_set_ne (by decide), gd_set_ne (by decide), o4, ewn], by rw [gd_set_ne (by decide), gd_set_same (by omega), ewn]⟩
        · rw [if_neg (nI_ge (by omega) (by omega)), ldo _ (by rw [List.length_set]; omega), gd_set_ne (by decide), o4, if_pos (show nI w < 400 from nI_lt (b := 400) (by omega) (by omega)), svo _ (by rw [List.length_set]; omega)]
          exact p_nx2 hb (OB_set (OB_set hO (by decide)) (by decide)) (by rw [gd_set_ne (by decide), gd_set_same (by omega)]) (by rw [gd_set_same (by rw [List.length_set]; omega)]) (by omega) hw
      unfold nx1B
      simp only [jn_eq]
      rw [ldo _ (by omega), o4, ldo _ (by omega), o2]
      by_cases c : n ≤ w
      · rw [if_pos ((nI_leI (by omega) (by omega)).mpr c)]
        exact fin
      · have hns := s4 (by omega)
        unfold spN at hns
        rw [Bool.or_eq_false_iff, decide_eq_false_iff_not, decide_eq_false_iff_not] at hns
        obtain ⟨c1, c2⟩ := b3 w (by omega)
        rw [if_neg (nI_ge (by omega) (by omega)), ldo _ (by omega), o4, if_neg (show ¬ (400 : Int32) ≤ nI w from nI_ge (b := 400) (by omega) (by omega)), ldo _ (by omega), o4, lao _ (by omega) (by omega), c1, if_neg (show ¬ nI (ts w) = 32 from fun z => hns.1 ((nI_eq (b := 32) (by omega) (by omega)).mp z)), ldo _ (by omega), o4, lao _ (by omega) (by omega), c1, if_neg (show ¬ nI (ts w) = 10 from fun z => hns.2 ((nI_eq (b := 10) (by omega) (by omega)).mp z))]
        exact fin
  obtain ⟨r, T', g1, rfl, o, rfl, hO⟩ := key
  refine ⟨o, ?_, hO⟩
  rw [nxe_eq, bd_ld _ (by omega), hp, bd_sv _ (by omega)]
  exact g1
