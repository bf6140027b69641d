/-! PURE: text, words -/
def kw1B : (Int32 × Int32 × Int32 × Int32 → MM Int32) → Int32 × Int32 × Int32 × Int32 → MM Int32 := fun (self2 : Int32 × Int32 × Int32 × Int32 → MM Int32) (s3 : Int32 × Int32 × Int32 × Int32) =>
  bd (lf rh0 0 gJ0_length_8abf5) fun r4 =>
  (if r4 ≤ s3.2.2.2 then
  pr 258
  else
  bd (lf rh0 0 (gJ0_charAt_5068e s3.2.2.2)) fun r5 =>
  jn (fun (a7 : Int32 × Int32 × Int32) =>
  lt (s3.2.2.2 + 1) fun y8 =>
  self2 (a7.1, a7.2.1, a7.2.2, y8)) (fun j6 =>
  (if r5 = 32 then
  jn (fun (a10 : Unit) =>
  lt (s3.1 + 1) fun y11 =>
  bd (ld 0 4) fun v12 =>
  j6 (y11, v12, 1)) (fun j9 =>
  (if s3.2.2.1 = 0 then
  j9 ()
  else
  bd (ld 0 5) fun v13 =>
  (if s3.2.1 = v13 then
  pr s3.1
  else
  j9 ())))
  else
  jn (fun (a15 : Int32) =>
  lt (s3.2.1 + 1) fun y16 =>
  j6 (s3.1, y16, a15)) (fun j14 =>
  jn (fun (a18 : Unit) =>
  j14 0) (fun j17 =>
  (if s3.2.2.1 = 0 then
  j17 ()
  else
  bd (ld 0 5) fun v19 =>
  (if v19 ≤ s3.2.1 then
  j17 ()
  else
  (if 400 ≤ s3.2.1 then
  j17 ()
  else
  bd (la 1 s3.2.1) fun v20 =>
  (if v20 = r5 then
  j14 1
  else
  j17 ())))))))))
def kw1 (v1 : Int32) : MM Int32 := loopC 100000 (kw1B) (300, v1, 1, 0)
theorem kwe_eq : gX7_keyword =
  bd (ld 0 4) fun v1 =>
  (kw1 v1) := rfl
def wa3B (self1 : (Int32 × Int32) → MM Int32) (y3 : Int32) : (Int32 → MM Int32) → Int32 → MM Int32 := fun (self11 : Int32 → MM Int32) (s12 : Int32) =>
  bd (la 8 s12) fun v13 =>
  (if v13 = 32 then
  self1 (y3, s12)
  else
  lt (s12 + 1) fun y14 =>
  self11 y14)
def wa3 (self1 : (Int32 × Int32) → MM Int32) (y3 : Int32) (y10 : Int32) : MM Int32 := loopC 100000 (wa3B self1 y3) y10
def wa2B (s2 : Int32 × Int32) (self1 : (Int32 × Int32) → MM Int32) (y3 : Int32) (x1 : Int32) (x2 : Int32) : (Int32 → MM Int32) → Int32 → MM Int32 := fun (self4 : Int32 → MM Int32) (s5 : Int32) =>
  jn (fun (a7 : Unit) =>
  jn (fun (a9 : Unit) =>
  lt (s2.2 + 1) fun y10 =>
  (wa3 self1 y3 y10)) (fun j8 =>
  (if (x1 + s5) = x2 then
  bd (la 8 ((s2.2 + 1) + s5)) fun v15 =>
  (if v15 = 32 then
  pr y3
  else
  j8 ())
  else
  j8 ()))) (fun j6 =>
  (if x2 ≤ (x1 + s5) then
  j6 ()
  else
  bd (la 8 ((s2.2 + 1) + s5)) fun v16 =>
  bd (la 7 (x1 + s5)) fun v17 =>
  (if v16 = v17 then
  lt (s5 + 1) fun y18 =>
  self4 y18
  else
  j6 ())))
def wa2 (s2 : Int32 × Int32) (self1 : (Int32 × Int32) → MM Int32) (y3 : Int32) (x1 : Int32) (x2 : Int32) : MM Int32 := loopC 100000 (wa2B s2 self1 y3 x1 x2) 0
def wa1B (x1 : Int32) (x2 : Int32) : (Int32 × Int32 → MM Int32) → Int32 × Int32 → MM Int32 := fun (self1 : Int32 × Int32 → MM Int32) (s2 : Int32 × Int32) =>
  (if 111 ≤ s2.2 then
  pr ((-1))
  else
  lt (s2.1 + 1) fun y3 =>
  (wa2 s2 self1 y3 x1 x2))
def wa1 (x1 : Int32) (x2 : Int32) : MM Int32 := loopC 100000 (wa1B x1 x2) (((-1)), 0)
theorem wae_eq (x1 x2 : Int32) : gX11_wordAt x1 x2 =
  (wa1 x1 x2) := rfl
def CWn : List (List Nat) := [[116, 105, 101, 115], [115, 108, 105, 112, 115], [116, 101, 108, 108, 115], [109, 105, 110, 100], [116, 105, 103, 104, 116], [119, 111, 114, 110], [107, 110, 111, 116, 115], [107, 110, 111, 119, 115], [107, 101, 112, 116], [102, 111, 114, 103, 111, 116], [111, 112, 101, 110], [100, 97, 121], [116, 105, 101], [108, 101, 110, 100], [119, 97, 115, 104], [112, 117, 108, 108], [119, 104, 101, 110], [111, 114], [97, 110, 100], [110, 111, 116], [111, 110], [112, 101, 114, 115, 111, 110]]
def RWn : List (List Nat) := [[116, 105, 101, 115], [115, 108, 105, 112, 115], [116, 101, 108, 108, 115], [119, 104, 101, 110], [111, 114], [97, 110, 100], [110, 111, 116], [109, 105, 110, 100], [116, 105, 103, 104, 116], [119, 111, 114, 110], [107, 110, 111, 116, 115], [107, 110, 111, 119, 115], [107, 101, 112, 116], [102, 111, 114, 103, 111, 116], [111, 112, 101, 110], [100, 97, 121], [111, 110], [116, 105, 101], [108, 101, 110, 100], [119, 97, 115, 104], [112, 117, 108, 108], [112, 101, 114, 115, 111, 110]]
def ofC (i : Nat) : Nat := ([0, 5, 11, 17, 22, 28, 33, 39, 45, 50, 57, 62, 66, 70, 75, 80, 85, 90, 93, 97, 101, 104, 111] : List Nat).getD i 0
def ofR (i : Nat) : Nat := ([0, 5, 11, 17, 22, 25, 29, 33, 38, 44, 49, 55, 61, 66, 73, 78, 82, 85, 89, 94, 99, 104, 111] : List Nat).getD i 0
def cwW (i : Nat) : List Nat := CWn.getD i []
def rwW (i : Nat) : List Nat := RWn.getD i []
/-- the reference's number of a word of the class -/
def rhoW (i : Nat) : Nat := ([0, 1, 2, 7, 8, 9, 10, 11, 12, 13, 14, 15, 17, 18, 19, 20, 3, 4, 5, 6, 16, 21] : List Nat).getD i 22
def rinW (i : Nat) : Nat := ([0, 1, 2, 16, 17, 18, 19, 3, 4, 5, 6, 7, 8, 9, 10, 11, 20, 12, 13, 14, 15, 21] : List Nat).getD i 22
theorem cw_t : ∀ i, i < 22 → (∀ j, j < (cwW i).length → WDl.getD (ofC i + j) 0 = nI ((cwW i).getD j 0) ∧ (cwW i).getD j 0 < 256 ∧ (cwW i).getD j 0 ≠ 32) ∧ WDl.getD (ofC i + (cwW i).length) 0 = nI 32 ∧ ofC (i + 1) = ofC i + (cwW i).length + 1 ∧ (cwW i).length ≤ 6 ∧ ofC (i + 1) ≤ 111 ∧ 0 < (cwW i).length := by decide +kernel
theorem rw_t : ∀ i, i < 22 → (∀ j, j < (rwW i).length → (sb_X11_init 8).getD (ofR i + 1 + j) 0 = nI ((rwW i).getD j 0) ∧ (rwW i).getD j 0 < 256 ∧ (rwW i).getD j 0 ≠ 32) ∧ (sb_X11_init 8).getD (ofR i + 1 + (rwW i).length) 0 = nI 32 ∧ ofR (i + 1) = ofR i + (rwW i).length + 1 ∧ (rwW i).length ≤ 6 ∧ ofR (i + 1) ≤ 111 ∧ 0 < (rwW i).length := by decide +kernel
theorem rho_t : ∀ i, i < 22 → rhoW i < 22 ∧ rwW (rhoW i) = cwW i ∧ ∀ p, p < rhoW i → rwW p ≠ cwW i := by decide +kernel
theorem rin_t : ∀ i, i < 22 → rinW i < 22 ∧ cwW (rinW i) = rwW i := by decide +kernel
theorem w8_len : (sb_X11_init 8).length = 112 := by decide +kernel
theorem of_0 : ofC 0 = 0 ∧ ofR 0 = 0 ∧ ofC 22 = 111 ∧ ofR 22 = 111 := by decide
/-- the bytes from one place up to another -/
def sgW (ts : Nat → Nat) (w e : Nat) : List Nat := (List.range (e - w)).map fun m => ts (w + m)
def kwC (ts : Nat → Nat) (w e : Nat) : Nat := fstp (fun i => decide (sgW ts w e = cwW i)) 0 22
def kwR (ts : Nat → Nat) (w e : Nat) : Nat := fstp (fun i => decide (sgW ts w e = rwW i)) 0 22
theorem kwR_eq (ts : Nat → Nat) (w e : Nat) : kwR ts w e = if kwC ts w e < 22 then rhoW (kwC ts w e) else 22 := by
  obtain ⟨a1, a2, a3, a4⟩ := fstp_spec (fun i => decide (sgW ts w e = cwW i)) 22 0
  by_cases c : kwC ts w e < 22
  · rw [if_pos c]
    have h := of_decide_eq_true (a4 (by have : fstp (fun i => decide (sgW ts w e = cwW i)) 0 22 < 22 := c; omega))
    obtain ⟨b1, b2, b3⟩ := rho_t _ c
    exact fstp_at (fun p hp => decide_eq_false (fun q => b3 p hp (q.symm.trans h))) (decide_eq_true (h.trans b2.symm)) b1
  · rw [if_neg c]
    refine fstp_all (fun p hp => decide_eq_false (fun q => ?_))
    obtain ⟨b1, b2⟩ := rin_t p hp
    have : kwC ts w e = fstp (fun i => decide (sgW ts w e = cwW i)) 0 22 := rfl
    have h := a3 (rinW p) (by omega) (by omega)
    exact of_decide_eq_false h (q.trans b2.symm)
theorem kwC_le (ts : Nat → Nat) (w e : Nat) : kwC ts w e ≤ 22 := (fstp_spec (fun i => decide (sgW ts w e = cwW i)) 22 0).2.1
/-- so far alike -/
def alW (ts : Nat → Nat) (w e : Nat) (W : List Nat) : Nat → Bool
  | 0 => true
  | j + 1 => alW ts w e W j && (decide (w + j < e) && decide (ts (w + j) = W.getD j 0))
theorem alW_iff (ts : Nat → Nat) (w e : Nat) (W : List Nat) : ∀ j, alW ts w e W j = true ↔ ∀ m, m < j → w + m < e ∧ ts (w + m) = W.getD m 0
  | 0 => ⟨(fun _ m hm => absurd hm (Nat.not_lt_zero m)), (fun _ => rfl)⟩
  | j + 1 => by
    show (alW ts w e W j && (decide (w + j < e) && decide (ts (w + j) = W.getD j 0))) = true ↔ _
    rw [Bool.and_eq_true, Bool.and_eq_true, decide_eq_true_eq, decide_eq_true_eq, alW_iff ts w e W j]
    constructor
    · rintro ⟨h1, h2, h3⟩ m hm
      by_cases q : m = j
      · subst q; exact ⟨h2, h3⟩
      · exact h1 m (by omega)
    · intro h
      exact ⟨fun m hm => h m (by omega), (h j (by omega)).1, (h j (by omega)).2⟩
theorem sgW_get {ts : Nat → Nat} {w e m : Nat} (h : m < e - w) : (sgW ts w e).getD m 0 = ts (w + m) := by
  unfold sgW
  rw [List.getD_eq_getElem?_getD, List.getElem?_map, List.getElem?_range h]; rfl
theorem sgW_len (ts : Nat → Nat) (w e : Nat) : (sgW ts w e).length = e - w := by unfold sgW; rw [List.length_map, List.length_range]
theorem sgW_eq {ts : Nat → Nat} {w e : Nat} {W : List Nat} (h : w ≤ e) : (sgW ts w e = W) ↔ (w + W.length = e ∧ ∀ m, m < W.length → ts (w + m) = W.getD m 0) := by
  constructor
  · intro q
    have hl := sgW_len ts w e
    rw [q] at hl
    refine ⟨by omega, fun m hm => ?_⟩
    rw [← q, sgW_get (by omega)]
  · rintro ⟨h1, h2⟩
    have hl := sgW_len ts w e
    refine List.ext_getElem (by omega) (fun i i1 i2 => ?_)
    have a := sgW_get (ts := ts) (w := w) (e := e) (m := i) (by omega)
    have b := h2 i i2
    rw [List.getD_eq_getElem?_getD, List.getElem?_eq_getElem i1] at a
    rw [List.getD_eq_getElem?_getD, List.getElem?_eq_getElem i2] at b
    exact (a.trans b)
theorem al_sg {ts : Nat → Nat} {w e : Nat} {W : List Nat} (h : w ≤ e) : (alW ts w e W W.length = true ∧ w + W.length = e) ↔ sgW ts w e = W := by
  rw [alW_iff, sgW_eq h]
  constructor
  · rintro ⟨h1, h2⟩; exact ⟨h2, fun m hm => (h1 m hm).2⟩
  · rintro ⟨h1, h2⟩; exact ⟨fun m hm => ⟨by omega, h2 m hm⟩, h1⟩
theorem St_rch (v : Int32) : St (rch v) := by
  by_cases h : v.toUInt32.toUInt16.toUInt32.toInt32 = v
  · exact ⟨some v, fun A => by simp only [rch, if_pos h]; rfl⟩
  · exact ⟨none, fun A => by simp only [rch, if_neg h]; rfl⟩
theorem St_rby (v : Int32) : St (rby v) := by
  by_cases h : v.toInt8.toInt32 = v
  · exact ⟨some v, fun A => by simp only [rby, if_pos h]; rfl⟩
  · exact ⟨none, fun A => by simp only [rby, if_neg h]; rfl⟩
theorem St_char (x : Int32) : St (gJ0_charAt_5068e x) := by
  unfold gJ0_charAt_5068e gJ0_isLatin1_aae02 gJ1_charAt_3b067 gJ0_checkIndex_df160 gJ3_checkIndex_8e157
  repeat' (first | with_reducible exact St_pr _ | with_reducible exact St_fl | with_reducible exact St_rz _ | with_reducible exact St_rch _ | with_reducible exact St_lc _ _ | with_reducible apply St_ite | with_reducible apply St_nz | with_reducible apply St_bd | (with_reducible apply St_lt; intro _) | (with_reducible apply St_jn) | intro _ | with_reducible apply_assumption)
theorem St_length : St gJ0_length_8abf5 := by
  unfold gJ0_length_8abf5 gJ0_coder_7d493
  repeat' (first | with_reducible exact St_pr _ | with_reducible exact St_rby _ | with_reducible apply St_ite | with_reducible apply St_bd | (with_reducible apply St_lt; intro _) | (with_reducible apply St_jn) | intro _ | with_reducible apply_assumption)
theorem char_d : ∀ i, i < 111 → (gJ0_charAt_5068e (nI i) (fun _ => [])).map (fun q => q.1) = some (WDl.getD i 0) := by decide +kernel
set_option maxHeartbeats 400000 in
theorem p_char {i : Nat} (h : i < 111) (A : Bk) : gJ0_charAt_5068e (nI i) A = some (WDl.getD i 0, A) := St_val (St_char _) (char_d i h) A
set_option maxHeartbeats 400000 in
theorem p_length (A : Bk) : gJ0_length_8abf5 A = some (111, A) := St_val St_length (by decide +kernel) A
/-- bytes on the tape, in the class -/
def BY (l : List Int32) (ts : Nat → Nat) (n : Nat) : Prop := l.length = 400 ∧ n ≤ 400 ∧ ∀ i, i < n → l.getD i 0 = nI (ts i) ∧ ts i < 256
set_option maxHeartbeats 400000 in
theorem p_kwc {T : Bk} {ts : Nat → Nat} {n w e : Nat} (h0 : (T 0).length = 8) (hb : BY (T 1) ts n) (h4 : (T 0).getD 4 0 = nI w) (h5 : (T 0).getD 5 0 = nI e) (hwe : w ≤ e) (hen : e ≤ n) {i : Nat} (hi : i < 22) (f : Int32 × Int32 × Int32 × Int32 → MM Int32) {j : Nat} (hj : j < (cwW i).length) (a : Bool) :
    kw1B f (nI (300 + i), nI (w + j), nI a.toNat, nI (ofC i + j)) T = f (nI (300 + i), nI (w + (j + 1)), nI (a && (decide (w + j < e) && decide (ts (w + j) = (cwW i).getD j 0))).toNat, nI (ofC i + (j + 1))) T := by
  obtain ⟨t1, t2, t3, t4, t5, t6⟩ := cw_t i hi
  obtain ⟨u1, u2, u3⟩ := t1 j hj
  obtain ⟨b1, b2, b3⟩ := hb
  unfold kw1B
  rw [bd_lf0 _ (p_length _), if_neg (show ¬ (111 : Int32) ≤ nI (ofC i + j) from nI_ge (b := 111) (by omega) (by omega)), bd_lf0 _ (p_char (by omega) _), u1]
  simp only [jn_eq, lt_eq, nI_1]
  rw [if_neg (show ¬ nI ((cwW i).getD j 0) = (32 : Int32) from fun q => u3 ((nI_eq (b := 32) (by omega) (by omega)).mp q))]
  show (if nI a.toNat = 0 then _ else _ : MM Int32) T = _
  cases a with
  | false =>
    rw [if_pos (show nI (Bool.toNat false) = (0 : Int32) from rfl)]; rfl
  | true =>
    rw [if_neg (show ¬ nI (Bool.toNat true) = (0 : Int32) by decide), Bool.true_and, bd_ld _ (by omega), h5]
    by_cases c : w + j < e
    · obtain ⟨c1, c2⟩ := b3 (w + j) (by omega)
      rw [if_neg (show ¬ nI e ≤ nI (w + j) from nI_ge c (by omega)), if_neg (show ¬ (400 : Int32) ≤ nI (w + j) from nI_ge (b := 400) (by omega) (by omega)), bd_la _ (by omega) (by omega), c1, decide_eq_true c, Bool.true_and]
      by_cases d : ts (w + j) = (cwW i).getD j 0
      · rw [if_pos (by rw [d]), decide_eq_true d]; rfl
      · rw [if_neg (fun q => d ((nI_eq (by omega) (by omega)).mp q)), decide_eq_false d]; rfl
    · rw [if_pos (show nI e ≤ nI (w + j) from (nI_leI (by omega) (by omega)).mpr (by omega)), decide_eq_false c, Bool.false_and]; rfl
set_option maxHeartbeats 400000 in
theorem p_kws {T : Bk} {w e : Nat} (h0 : (T 0).length = 8) (h4 : (T 0).getD 4 0 = nI w) (h5 : (T 0).getD 5 0 = nI e) (hw : w ≤ 400) (he : e ≤ 400) {i : Nat} (hi : i < 22) (f : Int32 × Int32 × Int32 × Int32 → MM Int32) (a : Bool) :
    kw1B f (nI (300 + i), nI (w + (cwW i).length), nI a.toNat, nI (ofC i + (cwW i).length)) T = if a = true ∧ w + (cwW i).length = e then some (nI (300 + i), T) else f (nI (300 + (i + 1)), nI w, 1, nI (ofC (i + 1))) T := by
  obtain ⟨t1, t2, t3, t4, t5, t6⟩ := cw_t i hi
  unfold kw1B
  rw [bd_lf0 _ (p_length _), if_neg (show ¬ (111 : Int32) ≤ nI (ofC i + (cwW i).length) from nI_ge (b := 111) (by omega) (by omega)), bd_lf0 _ (p_char (by omega) _), t2]
  simp only [jn_eq, lt_eq, nI_1]
  rw [if_pos (show nI 32 = (32 : Int32) from rfl)]
  have e1 : ofC i + (cwW i).length + 1 = ofC (i + 1) := t3.symm
  have k9 : bd (ld 0 4) (fun v12 => f (nI (300 + i + 1), v12, 1, nI (ofC i + (cwW i).length + 1))) T = f (nI (300 + (i + 1)), nI w, 1, nI (ofC (i + 1))) T := by
    rw [bd_ld _ (by omega), h4, e1]; rfl
  show (if nI a.toNat = 0 then _ else _ : MM Int32) T = _
  cases a with
  | false =>
    rw [if_pos (show nI (Bool.toNat false) = (0 : Int32) from rfl), if_neg (fun q => by cases q.1)]
    exact k9
  | true =>
    rw [if_neg (show ¬ nI (Bool.toNat true) = (0 : Int32) by decide), bd_ld _ (by omega), h5]
    by_cases c : w + (cwW i).length = e
    · rw [if_pos (show nI (w + (cwW i).length) = nI e by rw [c]), if_pos ⟨rfl, c⟩]; rfl
    · rw [if_neg (show ¬ nI (w + (cwW i).length) = nI e from fun q => c ((nI_eq (by omega) (by omega)).mp q)), if_neg (fun q => c q.2)]
      exact k9
set_option maxHeartbeats 400000 in
theorem p_kww {T : Bk} {ts : Nat → Nat} {n w e : Nat} (h0 : (T 0).length = 8) (hb : BY (T 1) ts n) (h4 : (T 0).getD 4 0 = nI w) (h5 : (T 0).getD 5 0 = nI e) (hwe : w ≤ e) (hen : e ≤ n) {i : Nat} (hi : i < 22) : ∀ m j N, j + m = (cwW i).length →
    loopC (N + m + 1) kw1B (nI (300 + i), nI (w + j), nI (alW ts w e (cwW i) j).toNat, nI (ofC i + j)) T = if sgW ts w e = cwW i then some (nI (300 + i), T) else loopC N kw1B (nI (300 + (i + 1)), nI w, 1, nI (ofC (i + 1))) T
  | 0, j, N, hj => by
    rw [loopC_s, show j = (cwW i).length by omega, p_kws h0 h4 h5 (by have := hb.2.1; omega) (by have := hb.2.1; omega) hi]
    by_cases c : sgW ts w e = cwW i
    · rw [if_pos c, if_pos ((al_sg hwe).mpr c)]
    · rw [if_neg c, if_neg (fun q => c ((al_sg hwe).mp q))]
  | m + 1, j, N, hj => by
    rw [loopC_s, p_kwc h0 hb h4 h5 hwe hen hi _ (show j < (cwW i).length by omega)]
    exact p_kww h0 hb h4 h5 hwe hen hi m (j + 1) N (by omega)
set_option maxHeartbeats 400000 in
theorem p_kwa {T : Bk} {ts : Nat → Nat} {n w e : Nat} (h0 : (T 0).length = 8) (hb : BY (T 1) ts n) (h4 : (T 0).getD 4 0 = nI w) (h5 : (T 0).getD 5 0 = nI e) (hwe : w ≤ e) (hen : e ≤ n) : ∀ m i N, i + m = 22 →
    loopC (N + (111 - ofC i) + 1) kw1B (nI (300 + i), nI w, 1, nI (ofC i)) T = some (if fstp (fun i => decide (sgW ts w e = cwW i)) i m < 22 then nI (300 + fstp (fun i => decide (sgW ts w e = cwW i)) i m) else 258, T)
  | 0, i, N, hi => by
    have e22 : i = 22 := by omega
    subst e22
    rw [loopC_s]
    unfold kw1B
    rw [bd_lf0 _ (p_length _), of_0.2.2.1, if_pos (show (111 : Int32) ≤ nI 111 from Int32.le_refl _)]; rfl
  | m + 1, i, N, hi => by
    obtain ⟨t1, t2, t3, t4, t5, t6⟩ := cw_t i (by omega)
    have hw := p_kww h0 hb h4 h5 hwe hen (i := i) (by omega) (cwW i).length 0 (N + (111 - ofC (i + 1)) + 1) (by omega)
    rw [show N + (111 - ofC i) + 1 = N + (111 - ofC (i + 1)) + 1 + (cwW i).length + 1 by omega]
    refine Eq.trans hw ?_
    unfold fstp
    by_cases c : sgW ts w e = cwW i
    · rw [if_pos c, if_pos (decide_eq_true c), if_pos (by omega)]
    · rw [if_neg c, if_neg (fun q => c (of_decide_eq_true q))]
      exact p_kwa h0 hb h4 h5 hwe hen m (i + 1) N (by omega)
set_option maxHeartbeats 400000 in
theorem p_keyword {T : Bk} {ts : Nat → Nat} {n w e : Nat} (h0 : (T 0).length = 8) (hb : BY (T 1) ts n) (h4 : (T 0).getD 4 0 = nI w) (h5 : (T 0).getD 5 0 = nI e) (hwe : w ≤ e) (hen : e ≤ n) : gX7_keyword T = some (if kwC ts w e < 22 then nI (300 + kwC ts w e) else 258, T) := by
  rw [kwe_eq, bd_ld _ (by omega), h4]
  unfold kw1
  have h := p_kwa h0 hb h4 h5 hwe hen 22 0 99888 (by omega)
  rw [of_0.1, show 99888 + (111 - 0) + 1 = 100000 from by decide] at h
  exact h
set_option maxHeartbeats 400000 in
theorem p_wordAt {B : Bk} {ts : Nat → Nat} {n w e : Nat} (h8 : B 8 = sb_X11_init 8) (hb : BY (B 7) ts n) (hwe : w ≤ e) (hen : e ≤ n) (hl : ∀ i, w ≤ i → i < e → ts i ≠ 32) : gX11_wordAt (nI w) (nI e) B = some (if kwR ts w e < 22 then nI (kwR ts w e) else -1, B) := by
  obtain ⟨b1, b2, b3⟩ := hb
  have l8 : (B 8).length = 112 := by rw [h8]; exact w8_len
  rw [wae_eq]
  unfold wa1
  have hlo := loopP (n := 22) (F := wa1B (nI w) (nI e)) (fun i => (nI i - 1, nI (ofR i))) (A := B) (fun i => decide (sgW ts w e = rwW i)) (fun i => some (if i < 22 then nI i else -1, B)) (fun i hi f => ?_) (fun f => ?_) 22 0 100000 rfl (by omega)
  · rw [of_0.2.1] at hlo
    exact hlo
  · obtain ⟨t1, t2, t3, t4, t5, t6⟩ := rw_t i hi
    rw [← h8] at t1 t2
    have scan : ∀ y3 : Int32, loopC 100000 (wa3B f y3) (nI (ofR i + 1)) B = f (y3, nI (ofR (i + 1))) B := fun y3 => by
      refine loopF (rwW i).length (fun j => nI (ofR i + 1 + j)) (fun _ => B) rfl rfl (fun j hj self => ?_) (fun self => ?_) (by omega)
      · obtain ⟨u1, u2, u3⟩ := t1 j hj
        unfold wa3B
        rw [bd_la _ (by omega) (by omega), u1, if_neg (show ¬ nI ((rwW i).getD j 0) = (32 : Int32) from fun q => u3 ((nI_eq (b := 32) (by omega) (by omega)).mp q)), lt_eq, nI_1]; rfl
      · unfold wa3B
        rw [bd_la _ (by omega) (by omega), t2, if_pos (show nI 32 = (32 : Int32) from rfl), t3, show ofR i + 1 + (rwW i).length = ofR i + (rwW i).length + 1 by omega]
    have inner := loopP (n := (rwW i).length) (F := wa2B (nI i - 1, nI (ofR i)) f (nI i) (nI w) (nI e)) nI (A := B) (fun j => !(decide (w + j < e) && decide (ts (w + j) = (rwW i).getD j 0))) (fun j => if w + j = e ∧ j = (rwW i).length then some (nI i, B) else f (nI i, nI (ofR (i + 1))) B) (fun j hj g => ?_) (fun g => ?_) (rwW i).length 0 100000 (by omega) (by omega)
    · unfold wa1B
      rw [if_neg (show ¬ (111 : Int32) ≤ (nI i - 1, nI (ofR i)).2 from nI_ge (b := 111) (by omega) (by omega)), lt_eq, show (nI i - 1, nI (ofR i)).1 + 1 = nI i from Int32.sub_add_cancel _ _]
      have inner' : wa2 (nI i - 1, nI (ofR i)) f (nI i) (nI w) (nI e) B = if w + fstp (fun j => !(decide (w + j < e) && decide (ts (w + j) = (rwW i).getD j 0))) 0 (rwW i).length = e ∧ fstp (fun j => !(decide (w + j < e) && decide (ts (w + j) = (rwW i).getD j 0))) 0 (rwW i).length = (rwW i).length then some (nI i, B) else f (nI i, nI (ofR (i + 1))) B := inner
      rw [inner', if_pos hi]
      obtain ⟨a1, a2, a3, a4⟩ := fstp_spec (fun j => !(decide (w + j < e) && decide (ts (w + j) = (rwW i).getD j 0))) (rwW i).length 0
      by_cases c : sgW ts w e = rwW i
      · obtain ⟨c1, c2⟩ := (sgW_eq hwe).mp c
        have hall : fstp (fun j => !(decide (w + j < e) && decide (ts (w + j) = (rwW i).getD j 0))) 0 (rwW i).length = (rwW i).length := fstp_all (fun p hp => by
          show (!(decide (w + p < e) && decide (ts (w + p) = (rwW i).getD p 0))) = false
          rw [decide_eq_true (show w + p < e by omega), decide_eq_true (c2 p hp)]; rfl)
        rw [hall, if_pos ⟨c1, rfl⟩, if_pos (decide_eq_true c)]
      · have hne : ¬ (w + fstp (fun j => !(decide (w + j < e) && decide (ts (w + j) = (rwW i).getD j 0))) 0 (rwW i).length = e ∧ fstp (fun j => !(decide (w + j < e) && decide (ts (w + j) = (rwW i).getD j 0))) 0 (rwW i).length = (rwW i).length) := fun q => c ((sgW_eq hwe).mpr ⟨by rw [← q.2]; exact q.1, fun m hm => by
          have := a3 m (by omega) (by omega)
          rw [Bool.not_eq_false', Bool.and_eq_true, decide_eq_true_eq, decide_eq_true_eq] at this
          exact this.2⟩)
        rw [if_neg (fun q => c (of_decide_eq_true q)), if_neg hne, show (nI (i + 1) - 1 : Int32) = nI i from nI_pred2 i]
    · obtain ⟨u1, u2, u3⟩ := t1 j hj
      have no : (if nI (w + j) = nI e then bd (la 8 (nI (ofR i + 1 + j))) (fun v15 => if v15 = 32 then pr (nI i) else lt (nI (ofR i + 1)) (fun y10 => wa3 f (nI i) y10)) else lt (nI (ofR i + 1)) (fun y10 => wa3 f (nI i) y10) : MM Int32) B = f (nI i, nI (ofR (i + 1))) B := by
        have sc : lt (nI (ofR i + 1)) (fun y10 => wa3 f (nI i) y10) B = f (nI i, nI (ofR (i + 1))) B := by
          rw [lt_eq]
          exact scan (nI i)
        by_cases q : nI (w + j) = nI e
        · rw [if_pos q, bd_la _ (by omega) (by omega), u1, if_neg (show ¬ nI ((rwW i).getD j 0) = (32 : Int32) from fun q => u3 ((nI_eq (b := 32) (by omega) (by omega)).mp q))]
          exact sc
        · rw [if_neg q]; exact sc
      rw [if_neg (show ¬ (w + j = e ∧ j = (rwW i).length) from fun q => by omega)]
      unfold wa2B
      simp only [jn_eq, nI_1, nI_add]
      by_cases c : w + j < e
      · obtain ⟨c1, c2⟩ := b3 (w + j) (by omega)
        rw [if_neg (show ¬ nI e ≤ nI (w + j) from nI_ge c (by omega)), bd_la _ (by omega) (by omega), u1, bd_la _ (by omega) (by omega), c1, decide_eq_true c, Bool.true_and]
        by_cases d : ts (w + j) = (rwW i).getD j 0
        · rw [if_pos (by rw [d]), decide_eq_true d, lt_eq, if_neg (show ¬ (!true) = true by decide)]
        · rw [if_neg (fun q => d ((nI_eq (by omega) (by omega)).mp q.symm)), decide_eq_false d, if_pos (show (!false) = true by decide)]
          exact no
      · rw [if_pos (show nI e ≤ nI (w + j) from (nI_leI (by omega) (by omega)).mpr (by omega)), decide_eq_false c, Bool.false_and, if_pos (show (!false) = true by decide)]
        exact no
    · have fin : (if nI (w + (rwW i).length) = nI e then bd (la 8 (nI (ofR i + 1 + (rwW i).length))) (fun v15 => if v15 = 32 then pr (nI i) else lt (nI (ofR i + 1)) (fun y10 => wa3 f (nI i) y10)) else lt (nI (ofR i + 1)) (fun y10 => wa3 f (nI i) y10) : MM Int32) B = if w + (rwW i).length = e then some (nI i, B) else f (nI i, nI (ofR (i + 1))) B := by
        by_cases q : w + (rwW i).length = e
        · rw [if_pos (show nI (w + (rwW i).length) = nI e by rw [q]), if_pos q, bd_la _ (by omega) (by omega), t2, if_pos (show nI 32 = (32 : Int32) from rfl)]; rfl
        · rw [if_neg (show ¬ nI (w + (rwW i).length) = nI e from fun z => q ((nI_eq (by omega) (by omega)).mp z)), if_neg q, lt_eq]
          exact scan (nI i)
      unfold wa2B
      simp only [jn_eq, nI_1, nI_add, and_true]
      by_cases c : w + (rwW i).length < e
      · obtain ⟨c1, c2⟩ := b3 (w + (rwW i).length) (by omega)
        rw [if_neg (show ¬ nI e ≤ nI (w + (rwW i).length) from nI_ge c (by omega)), bd_la _ (by omega) (by omega), t2, bd_la _ (by omega) (by omega), c1, if_neg (show ¬ nI 32 = nI (ts (w + (rwW i).length)) from fun q => hl (w + (rwW i).length) (by omega) c ((nI_eq (by omega) (by omega)).mp q).symm)]
        exact fin
      · rw [if_pos (show nI e ≤ nI (w + (rwW i).length) from (nI_leI (by omega) (by omega)).mpr (by omega))]
        exact fin
  · unfold wa1B
    rw [if_pos (show (111 : Int32) ≤ (nI 22 - 1, nI (ofR 22)).2 from by rw [of_0.2.2.2]; exact Int32.le_refl _)]; rfl
