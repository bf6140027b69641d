/-! PURE: text, the reference reads a token -/
def rd3B (j15 : Unit → MM Int32) : (Unit → MM Int32) → Unit → MM Int32 := fun (self34 : Unit → MM Int32) (s35 : Unit) =>
  bd (ld 0 14) fun v36 =>
  bd (gX11_raw v36) fun r37 =>
  bd (gX11_isLetter r37) fun r38 =>
  (if r38 = 0 then
  bd (ld 0 15) fun v39 =>
  bd (ld 0 14) fun v40 =>
  bd (gX11_wordAt v39 v40) fun r41 =>
  bd (sv 0 17 r41) fun _ =>
  bd (ld 0 17) fun v42 =>
  (if v42 = ((-1)) then
  j15 ()
  else
  bd (sv 0 16 2) fun _ =>
  j15 ())
  else
  bd (ld 0 14) fun v43 =>
  bd (sv 0 14 (v43 + 1)) fun _ =>
  self34 ())
def rd3 (j15 : Unit → MM Int32) : MM Int32 := loopC 100000 (rd3B j15) ()
def rd2B (j15 : Unit → MM Int32) : (Unit → MM Int32) → Unit → MM Int32 := fun (self19 : Unit → MM Int32) (s20 : Unit) =>
  bd (ld 0 14) fun v21 =>
  bd (gX11_raw v21) fun r22 =>
  bd (gX11_isDigit r22) fun r23 =>
  (if r23 = 0 then
  bd (ld 0 14) fun v24 =>
  bd (ld 0 15) fun v25 =>
  (if 5 ≤ (v24 - v25) then
  j15 ()
  else
  bd (sv 0 16 3) fun _ =>
  j15 ())
  else
  bd (ld 0 17) fun v26 =>
  jn (fun (a28 : Int32) =>
  bd (sv 0 17 a28) fun _ =>
  bd (ld 0 14) fun v29 =>
  bd (sv 0 14 (v29 + 1)) fun _ =>
  self19 ()) (fun j27 =>
  (if 10000 ≤ v26 then
  bd (ld 0 17) fun v30 =>
  j27 v30
  else
  bd (ld 0 17) fun v31 =>
  bd (ld 0 14) fun v32 =>
  bd (gX11_raw v32) fun r33 =>
  j27 (((10 * v31) + r33) - 48))))
def rd2 (j15 : Unit → MM Int32) : MM Int32 := loopC 100000 (rd2B j15) ()
def rd1B : (Unit → MM Int32) → Unit → MM Int32 := fun (self1 : Unit → MM Int32) (s2 : Unit) =>
  bd (ld 0 14) fun v3 =>
  bd (gX11_raw v3) fun r4 =>
  jn (fun (a6 : Unit) =>
  bd (ld 0 14) fun v7 =>
  bd (sv 0 14 (v7 + 1)) fun _ =>
  self1 ()) (fun j5 =>
  (if r4 = 32 then
  j5 ()
  else
  bd (ld 0 14) fun v8 =>
  bd (gX11_raw v8) fun r9 =>
  (if r9 = 10 then
  j5 ()
  else
  bd (ld 0 14) fun v10 =>
  bd (sv 0 15 v10) fun _ =>
  bd (sv 0 16 1) fun _ =>
  bd (ld 0 14) fun v11 =>
  bd (gX11_raw v11) fun r12 =>
  (if r12 = ((-1)) then
  bd (sv 0 16 0) fun _ =>
  pr 0
  else
  bd (ld 0 14) fun v13 =>
  bd (sv 0 14 (v13 + 1)) fun _ =>
  bd (sv 0 17 r12) fun _ =>
  bd (gX11_isLetter r12) fun r14 =>
  jn (fun (a16 : Unit) =>
  pr 0) (fun j15 =>
  (if r14 = 0 then
  bd (gX11_isDigit r12) fun r17 =>
  (if r17 = 0 then
  bd (gX11_isMarkSign r12) fun r18 =>
  (if r18 = 0 then
  j15 ()
  else
  bd (sv 0 16 4) fun _ =>
  j15 ())
  else
  bd (sv 0 17 (r12 - 48)) fun _ =>
  (rd2 j15))
  else
  (rd3 j15)))))))
def rd1 : MM Int32 := loopC 100000 (rd1B) ()
theorem rde_eq : gX11_reads =
  (rd1) := rfl
theorem St_inR (v lo hi : Int32) : St (gX11_isIn v lo hi) := ⟨some (b2i (lo ≤ v ∧ v ≤ hi)), fun A => p_isIn v lo hi A⟩
theorem St_digR (x : Int32) : St (gX11_isDigit x) := by
  unfold gX11_isDigit
  repeat' (first | with_reducible exact St_inR _ _ _ | with_reducible exact St_rz _ | with_reducible apply St_bd | with_reducible apply St_ite | (with_reducible apply St_jn) | intro _ | with_reducible apply_assumption)
theorem St_letR (x : Int32) : St (gX11_isLetter x) := by
  unfold gX11_isLetter
  repeat' (first | with_reducible exact St_inR _ _ _ | with_reducible exact St_rz _ | with_reducible apply St_bd | with_reducible apply St_ite | (with_reducible apply St_jn) | intro _ | with_reducible apply_assumption)
theorem St_mkR (x : Int32) : St (gX11_isMarkSign x) := by
  unfold gX11_isMarkSign
  repeat' (first | with_reducible exact St_rz _ | with_reducible apply St_ite | (with_reducible apply St_jn) | intro _ | with_reducible apply_assumption)
theorem digR_d : ∀ c, c < 256 → (gX11_isDigit (nI c) (fun _ => [])).map (fun q => q.1) = some (nI (dgN c).toNat) ∧ (gX11_isLetter (nI c) (fun _ => [])).map (fun q => q.1) = some (nI (ltN c).toNat) ∧ (gX11_isMarkSign (nI c) (fun _ => [])).map (fun q => q.1) = some (nI (mkN c).toNat) := by decide +kernel
theorem digR_m : (gX11_isDigit (-1) (fun _ => [])).map (fun q => q.1) = some 0 ∧ (gX11_isLetter (-1) (fun _ => [])).map (fun q => q.1) = some 0 := by decide +kernel
/-- the byte at a place; none behind the last -/
def rwV (ts : Nat → Nat) (n q : Nat) : Int32 := if q < n then nI (ts q) else -1
set_option maxHeartbeats 400000 in
theorem p_raw {B : Bk} {ts : Nat → Nat} {n : Nat} (h0 : (B 0).length = 68) (h13 : (B 0).getD 13 0 = nI n) (hb : BY (B 7) ts n) {q : Nat} (hq : q ≤ n) : gX11_raw (nI q) B = some (rwV ts n q, B) := by
  obtain ⟨b1, b2, b3⟩ := hb
  unfold gX11_raw rwV
  simp only [jn_eq]
  rw [bd_ld _ (by omega), h13]
  by_cases c : q < n
  · rw [if_neg (nI_ge c (by omega)), bd_la _ (by omega) (by omega), (b3 q c).1, if_pos c]; rfl
  · rw [if_pos ((nI_leI (by omega) (by omega)).mpr (by omega)), if_neg c]; rfl
set_option maxHeartbeats 400000 in
theorem p_digR {ts : Nat → Nat} {n q : Nat} (h : q < n → ts q < 256) (B : Bk) : gX11_isDigit (rwV ts n q) B = some (nI (decide (q < n) && dgN (ts q)).toNat, B) := by
  unfold rwV
  by_cases c : q < n
  · rw [if_pos c, decide_eq_true c, Bool.true_and]; exact St_val (St_digR _) (digR_d _ (h c)).1 B
  · rw [if_neg c, decide_eq_false c, Bool.false_and]; exact St_val (St_digR _) digR_m.1 B
set_option maxHeartbeats 400000 in
theorem p_letR {ts : Nat → Nat} {n q : Nat} (h : q < n → ts q < 256) (B : Bk) : gX11_isLetter (rwV ts n q) B = some (nI (decide (q < n) && ltN (ts q)).toNat, B) := by
  unfold rwV
  by_cases c : q < n
  · rw [if_pos c, decide_eq_true c, Bool.true_and]; exact St_val (St_letR _) (digR_d _ (h c)).2.1 B
  · rw [if_neg c, decide_eq_false c, Bool.false_and]; exact St_val (St_letR _) digR_m.2 B
set_option maxHeartbeats 400000 in
theorem p_mkR {c : Nat} (h : c < 256) (B : Bk) : gX11_isMarkSign (nI c) B = some (nI (mkN c).toNat, B) := St_val (St_mkR _) (digR_d c h).2.2 B
/-- the reference's own numbers, when a token is read -/
def OR (z0 z : List Int32) (t : Nat × Nat × Nat × Nat) : Prop := z.length = 68 ∧ (∀ k, k ∉ [14, 15, 16, 17] → z.getD k 0 = z0.getD k 0) ∧ z.getD 14 0 = nI t.2.2.2 ∧ z.getD 15 0 = nI t.2.2.1 ∧ z.getD 16 0 = nI t.1 ∧ (t.1 = 2 → z.getD 17 0 = nI (rhoW t.2.1)) ∧ (t.1 = 3 → z.getD 17 0 = nI t.2.1) ∧ (t.1 = 4 → z.getD 17 0 = nI t.2.1)
def OZ (z0 z : List Int32) (n : Nat) : Prop := z.length = 68 ∧ (∀ k, k ∉ [14, 15, 16, 17] → z.getD k 0 = z0.getD k 0) ∧ z0.getD 13 0 = nI n
theorem OZ_set {z0 z : List Int32} {n k : Nat} {v : Int32} (h : OZ z0 z n) (hk : k ∈ [14, 15, 16, 17]) : OZ z0 (z.set k v) n := by
  obtain ⟨h1, h2, h3⟩ := h
  exact ⟨by rw [List.length_set, h1], fun i hi => by rw [gd_set_ne (fun q => hi (by rw [← q]; exact hk))]; exact h2 i hi, h3⟩
theorem OZ_raw {B : Bk} {z : List Int32} {ts : Nat → Nat} {n : Nat} (hb : BY (B 7) ts n) (h : OZ (B 0) z n) {β : Type} (K : Int32 → MM β) {q : Nat} (hq : q ≤ n) : bd (gX11_raw (nI q)) K (up B 0 z) = K (rwV ts n q) (up B 0 z) := by
  obtain ⟨h1, h2, h3⟩ := h
  exact bd_some (p_raw (B := up B 0 z) (by rw [up_same]; exact h1) (by rw [up_same, h2 13 (by decide)]; exact h3) (by rw [up_ne _ _ (by decide)]; exact hb) hq)
set_option maxHeartbeats 400000 in
theorem p_rd3 {B : Bk} {ts : Nat → Nat} {n w : Nat} {z : List Int32} (h8 : B 8 = sb_X11_init 8) (hb : BY (B 7) ts n) (h : OZ (B 0) z n) (h14 : z.getD 14 0 = nI (w + 1)) (h15 : z.getD 15 0 = nI w) (h16 : z.getD 16 0 = nI 1) (hw : w < n) (hl : ltN (ts w) = true) (hnd : dgN (ts w) = false) {p : Nat} (hsk : skN ts n p = w) :
    Ht (rd3 (fun _ => pr 0) (up B 0 z)) (fun r B' => r = 0 ∧ ∃ z', B' = up B 0 z' ∧ OR (B 0) z' (tkN ts n p)) := by
  obtain ⟨b1, b2, b3⟩ := id hb
  obtain ⟨s1, s2, s3, s4⟩ := run_spec ltN ts (Nat.le_of_lt hw)
  have s5 := run_gt hw hl
  have ez : ltE ts n w = fstp (fun x => !ltN (ts x)) w (n - w) := rfl
  rw [← ez] at s1 s2 s3 s4 s5
  obtain ⟨e, he⟩ : ∃ e, ltE ts n w = e := ⟨_, rfl⟩
  rw [he] at s1 s2 s3 s4 s5
  have htk : tkN ts n p = if kwC ts w e < 22 then (2, kwC ts w e, w, e) else (1, 258, w, e) := by
    unfold tkN
    rw [hsk, if_neg (by omega), hnd, if_neg (by decide), hl, if_pos rfl, he]
  unfold rd3
  refine loopI (e - (w + 1)) (fun j _ A => ∃ z, A = up B 0 z ∧ OZ (B 0) z n ∧ z.getD 14 0 = nI (w + 1 + j) ∧ z.getD 15 0 = nI w ∧ z.getD 16 0 = nI 1) _ (fun j s A hj hI => ?_) (fun s A hI f => ?_) (by omega) ⟨z, rfl, h, h14, h15, h16⟩
  · obtain ⟨z, rfl, hO, h14, h15, h16⟩ := hI
    have zl := hO.1
    have hlj := s3 (w + 1 + j) (by omega) (by omega)
    refine ⟨(), up B 0 (z.set 14 (nI (w + 1 + (j + 1)))), fun f => ?_, _, rfl, OZ_set hO (by decide), by rw [gd_set_same (by omega)], by rw [gd_set_ne (by decide)]; exact h15, by rw [gd_set_ne (by decide)]; exact h16⟩
    unfold rd3B
    rw [ldo _ (by omega), h14, OZ_raw hb hO _ (by omega), bd_some (p_letR (fun q => (b3 _ q).2) _), decide_eq_true (show w + 1 + j < n by omega), hlj, if_neg (by decide), ldo _ (by omega), h14, nI_1, svo _ (by omega)]
    rfl
  · obtain ⟨z, rfl, hO, h14, h15, h16⟩ := hI
    rw [show w + 1 + (e - (w + 1)) = e by omega] at h14
    have zl := hO.1
    have hno : (decide (e < n) && ltN (ts e)) = false := by
      by_cases c : e < n
      · rw [s4 c, Bool.and_false]
      · rw [decide_eq_false c, Bool.false_and]
    have gw := p_wordAt (B := up B 0 z) (ts := ts) (n := n) (w := w) (e := e) (by rw [up_ne _ _ (by decide)]; exact h8) (by rw [up_ne _ _ (by decide)]; exact hb) s1 s2 (fun i i1 i2 => by
      have := s3 i i1 i2
      intro q
      rw [q] at this
      exact absurd this (by decide))
    unfold rd3B
    rw [ldo _ (by omega), h14, OZ_raw hb hO _ (by omega), bd_some (p_letR (fun q => (b3 _ q).2) _), hno, if_pos (show nI (Bool.toNat false) = (0 : Int32) from rfl), ldo _ (by omega), h15, ldo _ (by omega), h14, bd_some gw, svo _ (by omega), ldo _ (by rw [List.length_set]; omega), gd_set_same (by omega), kwR_eq, htk]
    have hle := kwC_le ts w e
    by_cases c : kwC ts w e < 22
    · have hr := (rho_t _ c).1
      rw [if_pos c, if_pos c, if_pos hr, if_neg (show ¬ nI (rhoW (kwC ts w e)) = (-1 : Int32) from fun q => (e_nm1 (j := rhoW (kwC ts w e)) (by omega)).mp q), svo _ (by rw [List.length_set]; omega)]
      obtain ⟨o1, o2, o3⟩ := OZ_set (v := nI 2) (OZ_set (v := nI (rhoW (kwC ts w e))) hO (show 17 ∈ [14, 15, 16, 17] by decide)) (show 16 ∈ [14, 15, 16, 17] by decide)
      refine ⟨0, _, rfl, rfl, _, rfl, o1, o2, ?_, ?_, ?_, fun _ => ?_, fun q => absurd q (by show ¬ 2 = 3; decide), fun q => absurd q (by show ¬ 2 = 4; decide)⟩
      · rw [gd_set_ne (by decide), gd_set_ne (by decide)]; exact h14
      · rw [gd_set_ne (by decide), gd_set_ne (by decide)]; exact h15
      · exact gd_set_same (by rw [List.length_set]; omega)
      · rw [gd_set_ne (by decide), gd_set_same (by omega)]
    · rw [if_neg c, if_neg c, if_neg (show ¬ 22 < 22 by decide), if_pos rfl]
      obtain ⟨o1, o2, o3⟩ := OZ_set (v := (-1 : Int32)) hO (show 17 ∈ [14, 15, 16, 17] by decide)
      refine ⟨0, _, rfl, rfl, _, rfl, o1, o2, ?_, ?_, ?_, fun q => absurd q (by show ¬ 1 = 2; decide), fun q => absurd q (by show ¬ 1 = 3; decide), fun q => absurd q (by show ¬ 1 = 4; decide)⟩
      · rw [gd_set_ne (by decide)]; exact h14
      · rw [gd_set_ne (by decide)]; exact h15
      · rw [gd_set_ne (by decide)]; exact h16
set_option maxHeartbeats 400000 in
theorem p_rd2 {B : Bk} {ts : Nat → Nat} {n w : Nat} {z : List Int32} (hb : BY (B 7) ts n) (h : OZ (B 0) z n) (h14 : z.getD 14 0 = nI (w + 1)) (h15 : z.getD 15 0 = nI w) (h16 : z.getD 16 0 = nI 1) (h17 : z.getD 17 0 = nI (ts w - 48)) (hw : w < n) (hd : dgN (ts w) = true) {p : Nat} (hsk : skN ts n p = w) :
    Ht (rd2 (fun _ => pr 0) (up B 0 z)) (fun r B' => r = 0 ∧ ∃ z', B' = up B 0 z' ∧ OR (B 0) z' (tkN ts n p)) := by
  obtain ⟨b1, b2, b3⟩ := id hb
  obtain ⟨s1, s2, s3, s4⟩ := run_spec dgN ts (Nat.le_of_lt hw)
  have s5 := run_gt hw hd
  have ez : dgE ts n w = fstp (fun x => !dgN (ts x)) w (n - w) := rfl
  rw [← ez] at s1 s2 s3 s4 s5
  obtain ⟨e, he⟩ : ∃ e, dgE ts n w = e := ⟨_, rfl⟩
  rw [he] at s1 s2 s3 s4 s5
  have htk : tkN ts n p = if e - w ≤ 4 then (3, vlN ts w (e - w), w, e) else (1, 258, w, e) := by
    unfold tkN
    rw [hsk, if_neg (by omega), hd, if_pos rfl, he]
  have hv1 : vlN ts w 1 = ts w - 48 := by
    show 10 * 0 + ts (w + 0) - 48 = ts w - 48
    rw [Nat.add_zero]; omega
  unfold rd2
  refine loopI (e - (w + 1)) (fun j _ A => ∃ z, A = up B 0 z ∧ OZ (B 0) z n ∧ z.getD 14 0 = nI (w + 1 + j) ∧ z.getD 15 0 = nI w ∧ z.getD 16 0 = nI 1 ∧ (j + 1 ≤ 4 → z.getD 17 0 = nI (vlN ts w (j + 1)))) _ (fun j s A hj hI => ?_) (fun s A hI f => ?_) (by omega) ⟨z, rfl, h, h14, h15, h16, fun _ => by rw [h17, hv1]⟩
  · obtain ⟨z, rfl, hO, h14, h15, h16, h17⟩ := hI
    have zl := hO.1
    have hlj := s3 (w + 1 + j) (by omega) (by omega)
    have hl2 := hlj
    unfold dgN at hl2
    rw [Bool.and_eq_true, decide_eq_true_eq, decide_eq_true_eq] at hl2
    have hrv : rwV ts n (w + 1 + j) = nI (ts (w + 1 + j)) := if_pos (by omega)
    obtain ⟨v, hv⟩ : ∃ v, (if (10000 : Int32) ≤ z.getD 17 0 then z.getD 17 0 else 10 * z.getD 17 0 + nI (ts (w + 1 + j)) - 48) = v := ⟨_, rfl⟩
    have hstep : ∀ f, rd2B (fun _ => pr 0) f () (up B 0 z) = f () (up B 0 ((z.set 17 v).set 14 (nI (w + 1 + (j + 1))))) := fun f => by
      unfold rd2B
      simp only [jn_eq]
      rw [ldo _ (by omega), h14, OZ_raw hb hO _ (by omega), bd_some (p_digR (fun q => (b3 _ q).2) _), decide_eq_true (show w + 1 + j < n by omega), hlj, if_neg (by decide), ldo _ (by omega)]
      by_cases c : (10000 : Int32) ≤ z.getD 17 0
      · rw [if_pos c] at hv
        rw [if_pos c, ldo _ (by omega), hv, svo _ (by omega), ldo _ (by rw [List.length_set]; omega), gd_set_ne (by decide), h14, nI_1, svo _ (by rw [List.length_set]; omega)]; rfl
      · rw [if_neg c] at hv
        rw [if_neg c, ldo _ (by omega), ldo _ (by omega), h14, OZ_raw hb hO _ (by omega), hrv, hv, svo _ (by omega), ldo _ (by rw [List.length_set]; omega), gd_set_ne (by decide), h14, nI_1, svo _ (by rw [List.length_set]; omega)]; rfl
    refine ⟨(), _, hstep, _, rfl, OZ_set (OZ_set hO (by decide)) (by decide), by rw [gd_set_same (by rw [List.length_set]; omega)], by rw [gd_set_ne (by decide), gd_set_ne (by decide)]; exact h15, by rw [gd_set_ne (by decide), gd_set_ne (by decide)]; exact h16, fun hj4 => ?_⟩
    rw [gd_set_ne (by decide), gd_set_same (by omega), ← hv]
    have h17' := h17 (by omega)
    have hlt := vlN_lt (ts := ts) (w := w) (j + 1) (fun i hi => s3 (w + i) (by omega) (by omega))
    have hp : 10 ^ (j + 1) ≤ 10 ^ 3 := Nat.pow_le_pow_right (by decide) (by omega)
    rw [h17', if_neg (show ¬ (10000 : Int32) ≤ nI (vlN ts w (j + 1)) from nI_ge (b := 10000) (by omega) (by omega)), show (10 : Int32) = nI 10 from rfl, pk_mul, nI_add, show (48 : Int32) = nI 48 from rfl, pk_sub (by omega)]
    show nI (10 * vlN ts w (j + 1) + ts (w + 1 + j) - 48) = nI (10 * vlN ts w (j + 1) + ts (w + (j + 1)) - 48)
    rw [show w + 1 + j = w + (j + 1) by omega]
  · obtain ⟨z, rfl, hO, h14, h15, h16, h17⟩ := hI
    rw [show w + 1 + (e - (w + 1)) = e by omega] at h14
    rw [show e - (w + 1) + 1 = e - w by omega] at h17
    have zl := hO.1
    have hno : (decide (e < n) && dgN (ts e)) = false := by
      by_cases c : e < n
      · rw [s4 c, Bool.and_false]
      · rw [decide_eq_false c, Bool.false_and]
    unfold rd2B
    rw [ldo _ (by omega), h14, OZ_raw hb hO _ (by omega), bd_some (p_digR (fun q => (b3 _ q).2) _), hno, if_pos (show nI (Bool.toNat false) = (0 : Int32) from rfl), ldo _ (by omega), h14, ldo _ (by omega), h15, pk_sub (by omega), htk]
    by_cases c : e - w ≤ 4
    · rw [if_pos c, if_neg (show ¬ (5 : Int32) ≤ nI (e - w) from nI_ge (b := 5) (by omega) (by omega)), svo _ (by omega)]
      obtain ⟨o1, o2, o3⟩ := OZ_set (v := nI 3) hO (show 16 ∈ [14, 15, 16, 17] by decide)
      refine ⟨0, _, rfl, rfl, _, rfl, o1, o2, ?_, ?_, gd_set_same (by omega), fun q => absurd q (by show ¬ 3 = 2; decide), fun _ => ?_, fun q => absurd q (by show ¬ 3 = 4; decide)⟩
      · rw [gd_set_ne (by decide)]; exact h14
      · rw [gd_set_ne (by decide)]; exact h15
      · rw [gd_set_ne (by decide)]; exact h17 c
    · rw [if_neg c, if_pos (show (5 : Int32) ≤ nI (e - w) from (nI_leI (a := 5) (by omega) (by omega)).mpr (by omega))]
      obtain ⟨o1, o2, o3⟩ := hO
      exact ⟨0, _, rfl, rfl, _, rfl, o1, o2, h14, h15, h16, fun q => absurd q (by show ¬ 1 = 2; decide), fun q => absurd q (by show ¬ 1 = 3; decide), fun q => absurd q (by show ¬ 1 = 4; decide)⟩
set_option maxHeartbeats 400000 in
theorem p_reads0 {B : Bk} {ts : Nat → Nat} {n p : Nat} (h0 : (B 0).length = 68) (h8 : B 8 = sb_X11_init 8) (hb : BY (B 7) ts n) (h13 : (B 0).getD 13 0 = nI n) (h14 : (B 0).getD 14 0 = nI p) (hpn : p ≤ n) : ∃ z, gX11_reads B = some (0, up B 0 z) ∧ OR (B 0) z (tkN ts n p) := by
  obtain ⟨b1, b2, b3⟩ := id hb
  obtain ⟨s1, s2, s3, s4⟩ := run_spec spN ts hpn
  have ez : skN ts n p = fstp (fun x => !spN (ts x)) p (n - p) := rfl
  rw [← ez] at s1 s2 s3 s4
  obtain ⟨w, hw⟩ : ∃ w, skN ts n p = w := ⟨_, rfl⟩
  rw [hw] at s1 s2 s3 s4
  have key : Ht (rd1 (up B 0 (B 0))) (fun r B' => r = 0 ∧ ∃ z', B' = up B 0 z' ∧ OR (B 0) z' (tkN ts n p)) := by
    unfold rd1
    refine loopI (w - p) (fun j _ A => ∃ z, A = up B 0 z ∧ OZ (B 0) z n ∧ z.getD 14 0 = nI (p + j)) _ (fun j s A hj hI => ?_) (fun s A hI f => ?_) (by omega) ⟨B 0, rfl, ⟨h0, fun _ _ => rfl, h13⟩, h14⟩
    · obtain ⟨z, rfl, hO, h14⟩ := hI
      have zl := hO.1
      have hs := s3 (p + j) (by omega) (by omega)
      unfold spN at hs
      rw [Bool.or_eq_true, decide_eq_true_eq, decide_eq_true_eq] at hs
      have hrv : rwV ts n (p + j) = nI (ts (p + j)) := if_pos (by omega)
      have hb256 := (b3 (p + j) (by omega)).2
      refine ⟨(), up B 0 (z.set 14 (nI (p + (j + 1)))), fun f => ?_, _, rfl, OZ_set hO (by decide), by rw [gd_set_same (by omega)]⟩
      unfold rd1B
      simp only [jn_eq]
      rw [ldo _ (by omega), h14, OZ_raw hb hO _ (by omega), hrv]
      by_cases q : ts (p + j) = 32
      · rw [if_pos (show nI (ts (p + j)) = 32 by rw [q]; rfl), ldo _ (by omega), h14, nI_1, svo _ (by omega)]; rfl
      · have q2 : ts (p + j) = 10 := by omega
        rw [if_neg (show ¬ nI (ts (p + j)) = 32 from fun z => q ((nI_eq (b := 32) (by omega) (by omega)).mp z)), ldo _ (by omega), h14, OZ_raw hb hO _ (by omega), hrv, if_pos (show nI (ts (p + j)) = 10 by rw [q2]; rfl), ldo _ (by omega), h14, nI_1, svo _ (by omega)]; rfl
    · obtain ⟨z, rfl, hO, h14⟩ := hI
      rw [show p + (w - p) = w by omega] at h14
      have zl := hO.1
      have hn32 : ¬ rwV ts n w = 32 ∧ ¬ rwV ts n w = 10 := by
        unfold rwV
        by_cases c : w < n
        · have hns := s4 c
          unfold spN at hns
          rw [Bool.or_eq_false_iff, decide_eq_false_iff_not, decide_eq_false_iff_not] at hns
          have hb256 := (b3 w c).2
          rw [if_pos c]
          exact ⟨fun z => hns.1 ((nI_eq (b := 32) (by omega) (by omega)).mp z), fun z => hns.2 ((nI_eq (b := 10) (by omega) (by omega)).mp z)⟩
        · rw [if_neg c]; exact ⟨by decide, by decide⟩
      have hO2 := OZ_set (v := nI 1) (OZ_set (v := nI w) hO (show 15 ∈ [14, 15, 16, 17] by decide)) (show 16 ∈ [14, 15, 16, 17] by decide)
      obtain ⟨y, hy⟩ : ∃ y, (z.set 15 (nI w)).set 16 (nI 1) = y := ⟨_, rfl⟩
      have y14 : y.getD 14 0 = nI w := by rw [← hy, gd_set_ne (by decide), gd_set_ne (by decide)]; exact h14
      have y15 : y.getD 15 0 = nI w := by rw [← hy, gd_set_ne (by decide), gd_set_same (by omega)]
      have y16 : y.getD 16 0 = nI 1 := by rw [← hy, gd_set_same (by rw [List.length_set]; omega)]
      rw [hy] at hO2
      have yl := hO2.1
      unfold rd1B
      simp only [jn_eq]
      rw [ldo _ (by omega), h14, OZ_raw hb hO _ (by omega), if_neg hn32.1, ldo _ (by omega), h14, OZ_raw hb hO _ (by omega), if_neg hn32.2, ldo _ (by omega), h14, svo _ (by omega), svo _ (by rw [List.length_set]; omega)]
      show Ht ((bd (ld 0 14) _) (up B 0 ((z.set 15 (nI w)).set 16 (nI 1)))) _
      rw [hy, ldo _ (by omega), y14, OZ_raw hb hO2 _ (by omega)]
      by_cases c : w < n
      · have hrv : rwV ts n w = nI (ts w) := if_pos c
        have hb256 := (b3 w c).2
        have hn1 : ¬ rwV ts n w = (-1 : Int32) := by rw [hrv]; exact fun q => (e_nm1 (j := ts w) (by omega)).mp q
        have hO3 := OZ_set (v := nI (ts w)) (OZ_set (v := nI (w + 1)) hO2 (show 14 ∈ [14, 15, 16, 17] by decide)) (show 17 ∈ [14, 15, 16, 17] by decide)
        obtain ⟨x, hx⟩ : ∃ x, (y.set 14 (nI (w + 1))).set 17 (nI (ts w)) = x := ⟨_, rfl⟩
        rw [hx] at hO3
        have xl := hO3.1
        have x14 : x.getD 14 0 = nI (w + 1) := by rw [← hx, gd_set_ne (by decide), gd_set_same (by omega)]
        have x15 : x.getD 15 0 = nI w := by rw [← hx, gd_set_ne (by decide), gd_set_ne (by decide)]; exact y15
        have x16 : x.getD 16 0 = nI 1 := by rw [← hx, gd_set_ne (by decide), gd_set_ne (by decide)]; exact y16
        have x17 : x.getD 17 0 = nI (ts w) := by rw [← hx, gd_set_same (by rw [List.length_set]; omega)]
        rw [if_neg hn1, ldo _ (by omega), y14, nI_1, svo _ (by omega), svo _ (by rw [List.length_set]; omega), hrv, hx, ← hrv, bd_some (p_letR (fun q => (b3 _ q).2) _), decide_eq_true c, Bool.true_and]
        by_cases cl : ltN (ts w) = true
        · have hnd : dgN (ts w) = false := by
            unfold ltN at cl
            unfold dgN
            rw [Bool.and_eq_false_iff, decide_eq_false_iff_not, decide_eq_false_iff_not]
            rw [Bool.or_eq_true, Bool.and_eq_true, Bool.and_eq_true, decide_eq_true_eq, decide_eq_true_eq, decide_eq_true_eq, decide_eq_true_eq] at cl
            omega
          rw [cl, if_neg (by decide)]
          exact p_rd3 h8 hb hO3 x14 x15 x16 c cl hnd hw
        · have cl' := Bool.eq_false_iff.mpr cl
          rw [cl', if_pos (show nI (Bool.toNat false) = (0 : Int32) from rfl), bd_some (p_digR (fun q => (b3 _ q).2) _), decide_eq_true c, Bool.true_and]
          by_cases cd : dgN (ts w) = true
          · have hd2 := cd
            unfold dgN at hd2
            rw [Bool.and_eq_true, decide_eq_true_eq, decide_eq_true_eq] at hd2
            rw [cd, if_neg (by decide), hrv, show (nI (ts w) - 48 : Int32) = nI (ts w - 48) from by rw [show (48 : Int32) = nI 48 from rfl, pk_sub (by omega)], svo _ (by omega)]
            exact p_rd2 hb (OZ_set hO3 (by decide)) (by rw [gd_set_ne (by decide)]; exact x14) (by rw [gd_set_ne (by decide)]; exact x15) (by rw [gd_set_ne (by decide)]; exact x16) (by rw [gd_set_same (by omega)]) c cd hw
          · have cd' := Bool.eq_false_iff.mpr cd
            have htk : tkN ts n p = if mkN (ts w) = true then (4, ts w, w, w + 1) else (1, ts w, w, w + 1) := by
              unfold tkN
              rw [hw, if_neg (by omega), cd', if_neg (by decide), cl', if_neg (by decide)]
            rw [cd', if_pos (show nI (Bool.toNat false) = (0 : Int32) from rfl), hrv, bd_some (p_mkR hb256 _), htk]
            by_cases cm : mkN (ts w) = true
            · rw [cm, if_neg (by decide), if_pos rfl, svo _ (by omega)]
              obtain ⟨o1, o2, o3⟩ := OZ_set (v := nI 4) hO3 (show 16 ∈ [14, 15, 16, 17] by decide)
              exact ⟨0, _, rfl, rfl, _, rfl, o1, o2, by rw [gd_set_ne (by decide)]; exact x14, by rw [gd_set_ne (by decide)]; exact x15, gd_set_same (by omega), fun q => absurd q (by show ¬ 4 = 2; decide), fun q => absurd q (by show ¬ 4 = 3; decide), fun _ => by rw [gd_set_ne (by decide)]; exact x17⟩
            · have cm' := Bool.eq_false_iff.mpr cm
              rw [cm', if_pos (show nI (Bool.toNat false) = (0 : Int32) from rfl), if_neg (by decide)]
              obtain ⟨o1, o2, o3⟩ := hO3
              exact ⟨0, _, rfl, rfl, _, rfl, o1, o2, x14, x15, x16, fun q => absurd q (by show ¬ 1 = 2; decide), fun q => absurd q (by show ¬ 1 = 3; decide), fun q => absurd q (by show ¬ 1 = 4; decide)⟩
      · have ewn : w = n := by omega
        have hrv : rwV ts n w = -1 := if_neg c
        have htk : tkN ts n p = (0, 0, n, n) := by
          unfold tkN
          rw [hw, if_pos (by omega)]
        rw [hrv, if_pos rfl, svo _ (by omega), htk]
        obtain ⟨o1, o2, o3⟩ := OZ_set (v := (0 : Int32)) hO2 (show 16 ∈ [14, 15, 16, 17] by decide)
        exact ⟨0, _, rfl, rfl, _, rfl, o1, o2, by rw [gd_set_ne (by decide), y14, ewn], by rw [gd_set_ne (by decide), y15, ewn], by rw [gd_set_same (by omega)]; rfl, fun q => absurd q (by show ¬ 0 = 2; decide), fun q => absurd q (by show ¬ 0 = 3; decide), fun q => absurd q (by show ¬ 0 = 4; decide)⟩
  rw [up_self] at key
  obtain ⟨r, B', g1, rfl, z, rfl, hO⟩ := key
  exact ⟨z, by rw [rde_eq]; exact g1, hO⟩
