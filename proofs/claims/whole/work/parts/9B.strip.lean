/-! PURE: strip -/
def fd4B (x1 : Int32) (s4 : Int32 × Int32) (self3 : (Int32 × Int32) → MM Int32) : (Int32 → MM Int32) → Int32 → MM Int32 := fun (self11 : Int32 → MM Int32) (s12 : Int32) =>
  (if (1 <<< (x1 &&& 31)) ≤ s12 then
  lt (2 * s4.1) fun y13 =>
  lt (s4.2 + 1) fun y14 =>
  self3 (y13, y14)
  else
  bd (la 28 s12) fun v15 =>
  bd (sa 27 s12 v15) fun _ =>
  lt (s12 + 1) fun y16 =>
  self11 y16)
def fd4 (x1 : Int32) (s4 : Int32 × Int32) (self3 : (Int32 × Int32) → MM Int32) : MM Int32 := loopC 100000 (fd4B x1 s4 self3) 0
def fd5B (s4 : Int32 × Int32) (s10 : Int32) (self9 : Int32 → MM Int32) (a18 : Int32) (a20 : Int32) : (Int32 → MM Int32) → Int32 → MM Int32 := fun (self21 : Int32 → MM Int32) (s22 : Int32) =>
  (if s4.1 ≤ s22 then
  lt (s10 + 1) fun y23 =>
  self9 y23
  else
  bd (la 27 ((((s4.1 * a18) + s4.1) - 1) - s22)) fun v24 =>
  bd (sa 28 (((2 * s4.1) * s10) + s22) (-v24)) fun _ =>
  bd (la 27 ((s4.1 * a20) + s22)) fun v25 =>
  bd (sa 28 ((((2 * s4.1) * s10) + s4.1) + s22) v25) fun _ =>
  lt (s22 + 1) fun y26 =>
  self21 y26)
def fd5 (s4 : Int32 × Int32) (s10 : Int32) (self9 : Int32 → MM Int32) (a18 : Int32) (a20 : Int32) : MM Int32 := loopC 100000 (fd5B s4 s10 self9 a18 a20) 0
def fd3B (y5 : Int32) (x1 : Int32) (s4 : Int32 × Int32) (self3 : (Int32 × Int32) → MM Int32) (a8 : Int32) : (Int32 → MM Int32) → Int32 → MM Int32 := fun (self9 : Int32 → MM Int32) (s10 : Int32) =>
  nz 2 (
  (if (y5 / 2) ≤ s10 then
  (fd4 x1 s4 self3)
  else
  jn (fun (a18 : Int32) =>
  jn (fun (a20 : Int32) =>
  (fd5 s4 s10 self9 a18 a20)) (fun j19 =>
  (if a8 = 0 then
  nz 2 (
  j19 ((y5 / 2) + s10))
  else
  j19 s10))) (fun j17 =>
  (if a8 = 0 then
  nz 2 (
  j17 (((y5 / 2) - 1) - s10))
  else
  j17 ((y5 - 1) - s10)))))
def fd3 (y5 : Int32) (x1 : Int32) (s4 : Int32 × Int32) (self3 : (Int32 × Int32) → MM Int32) (a8 : Int32) : MM Int32 := loopC 100000 (fd3B y5 x1 s4 self3 a8) 0
def fd2B (x1 : Int32) (x2 : Int32) : (Int32 × Int32 → MM Int32) → Int32 × Int32 → MM Int32 := fun (self3 : Int32 × Int32 → MM Int32) (s4 : Int32 × Int32) =>
  (if x1 ≤ s4.2 then
  pr 0
  else
  nz s4.1 (
  lt ((1 <<< (x1 &&& 31)) / s4.1) fun y5 =>
  bd (gX11_has x2 s4.2) fun r6 =>
  jn (fun (a8 : Int32) =>
  (fd3 y5 x1 s4 self3 a8)) (fun j7 =>
  (if r6 = 0 then
  j7 1
  else
  j7 0))))
def fd2 (x1 : Int32) (x2 : Int32) : MM Int32 := loopC 100000 (fd2B x1 x2) (1, 0)
def fd1B (x1 : Int32) (x2 : Int32) : (Int32 → MM Int32) → Int32 → MM Int32 := fun (self1 : Int32 → MM Int32) (s2 : Int32) =>
  (if (1 <<< (x1 &&& 31)) ≤ s2 then
  (fd2 x1 x2)
  else
  bd (sa 27 s2 (s2 + 1)) fun _ =>
  lt (s2 + 1) fun y27 =>
  self1 y27)
def fd1 (x1 : Int32) (x2 : Int32) : MM Int32 := loopC 100000 (fd1B x1 x2) 0
theorem fd_eq (x1 x2 : Int32) : gX11_folds x1 x2 =
  (fd1 x1 x2) := rfl
def sg1B (x3 : Int32) (x2 : Int32) : (Int32 → MM Int32) → Int32 → MM Int32 := fun (self7 : Int32 → MM Int32) (s8 : Int32) =>
  bd (la 27 s8) fun v9 =>
  jn (fun (a11 : Unit) =>
  jn (fun (a13 : Int32) =>
  pr a13) (fun j12 =>
  (if x3 = 1 then
  j12 s8
  else
  bd (la 27 s8) fun v14 =>
  (if v14 ≤ 0 then
  j12 0
  else
  j12 1)))) (fun j10 =>
  (if v9 = (x2 + 1) then
  j10 ()
  else
  bd (la 27 s8) fun v15 =>
  (if v15 = ((-x2) - 1) then
  j10 ()
  else
  lt (s8 + 1) fun y16 =>
  self7 y16)))
def sg1 (x3 : Int32) (x2 : Int32) : MM Int32 := loopC 100000 (sg1B x3 x2) 0
theorem sg_eq (x1 x2 x3 : Int32) : gX11_strip x1 x2 x3 =
  bd (sv 0 0 0) fun _ =>
  bd (gX11_isIn x1 0 447) fun r1 =>
  jn (fun (a3 : Unit) =>
  (pr ((-1)) : MM Int32)) (fun j2 =>
  (if r1 = 0 then
  j2 ()
  else
  nz 64 (
  bd (gX11_isIn x2 0 ((1 <<< ((x1 / 64) &&& 31)) - 1)) fun r4 =>
  (if r4 = 0 then
  j2 ()
  else
  bd (gX11_isIn x3 0 2) fun r5 =>
  (if r5 = 0 then
  j2 ()
  else
  nz 64 (
  nz 64 (
  bd (gX11_folds (x1 / 64) (irm x1 64)) fun r6 =>
  (if x3 = 0 then
  bd (la 27 x2) fun v17 =>
  jn (fun (a19 : Int32) =>
  pr (a19 - 1)) (fun j18 =>
  (if 0 ≤ v17 then
  bd (la 27 x2) fun v20 =>
  j18 v20
  else
  bd (la 27 x2) fun v21 =>
  j18 (-v21)))
  else
  (sg1 x3 x2))))))))) := rfl
def sgn (x : Nat × Bool) : Int32 := if x.2 then nI (x.1 + 1) else -nI (x.1 + 1)
theorem sgn_neg (x : Nat × Bool) : -sgn x = sgn (x.1, !x.2) := by
  obtain ⟨a, b⟩ := x
  cases b
  · exact Int32.neg_neg
  · rfl
/-- where the paper's place q lies after i folds, and which side is up -/
def fN (k m : Nat) : Nat → Nat → Nat × Bool
  | 0, q => (q, true)
  | i + 1, q =>
    let b := q / (2 * 2 ^ i)
    let r := q % (2 * 2 ^ i)
    let h := 2 ^ (k - i - 1)
    if r < 2 ^ i then let x := fN k m i (2 ^ i * (if m.testBit i then h - 1 - b else 2 * h - 1 - b) + 2 ^ i - 1 - r); (x.1, !x.2) else fN k m i (2 ^ i * (if m.testBit i then h + b else b) + (r - 2 ^ i))
def BS (B : Bk) (l t : List Int32) : Bk := up (up B 27 l) 28 t
theorem BS_27 (B : Bk) (l t l' : List Int32) : up (BS B l t) 27 l' = BS B l' t := by unfold BS; rw [up_comm _ (by decide), up_up]
theorem BS_28 (B : Bk) (l t t' : List Int32) : up (BS B l t) 28 t' = BS B l t' := by unfold BS; rw [up_up]
theorem BS_a (B : Bk) (l t : List Int32) : BS B l t 27 = l := rfl
theorem BS_b (B : Bk) (l t : List Int32) : BS B l t 28 = t := rfl
theorem pw : ∀ k, k < 7 → (1 <<< (nI k &&& 31) : Int32) = nI (2 ^ k) := by decide +kernel
theorem hasd : ∀ m, m < 64 → ∀ i, i < 6 → ((nI m >>> (nI i &&& 31)) &&& 1 : Int32) = if m.testBit i then 1 else 0 := by decide +kernel
set_option maxHeartbeats 400000 in
theorem p_hasN {m i : Nat} (hm : m < 64) (hi : i < 6) (B : Bk) : gX11_has (nI m) (nI i) B = some (if m.testBit i then nI 1 else 0, B) := by
  unfold gX11_has
  rw [hasd m hm i hi]
  cases m.testBit i <;> rfl
def f5 (l : List Int32) (w b a c : Nat) (t : List Int32) : Nat → List Int32 := fo (fun j t => (t.set (2 * w * b + j) (-(l.getD (w * a + w - 1 - j) 0))).set (2 * w * b + w + j) (l.getD (w * c + j) 0)) t
theorem f5_len (l : List Int32) (w b a c : Nat) (t : List Int32) : ∀ j, (f5 l w b a c t j).length = t.length
  | 0 => rfl
  | j + 1 => by show ((_ : List Int32).set _ _).length = _; rw [List.length_set, List.length_set]; exact f5_len l w b a c t j
theorem f5_s (l : List Int32) (w b a c : Nat) (t : List Int32) (j : Nat) : f5 l w b a c t (j + 1) = ((f5 l w b a c t j).set (2 * w * b + j) (-(l.getD (w * a + w - 1 - j) 0))).set (2 * w * b + w + j) (l.getD (w * c + j) 0) := rfl
theorem f5_v {l t : List Int32} {w b a c : Nat} (ht : t.length = 64) (hb : 2 * w * b + 2 * w ≤ 64) : ∀ j, j ≤ w → ∀ q, (f5 l w b a c t j).getD q 0 = if 2 * w * b ≤ q ∧ q < 2 * w * b + j then -(l.getD (w * a + w - 1 - (q - 2 * w * b)) 0) else if 2 * w * b + w ≤ q ∧ q < 2 * w * b + w + j then l.getD (w * c + (q - 2 * w * b - w)) 0 else t.getD q 0
  | 0, _, q => by
    rw [if_neg (by omega), if_neg (by omega)]; rfl
  | j + 1, hj, q => by
    have ih := f5_v (l := l) (a := a) (c := c) ht hb j (by omega) q
    have hl := f5_len l w b a c t j
    rw [f5_s]
    by_cases e1 : q = 2 * w * b + w + j
    · subst e1
      rw [gd_set_same (by rw [List.length_set]; omega), if_neg (by omega), if_pos ⟨by omega, by omega⟩, show 2 * w * b + w + j - 2 * w * b - w = j by omega]
    · rw [gd_set_ne (fun z => e1 z.symm)]
      by_cases e2 : q = 2 * w * b + j
      · subst e2
        rw [gd_set_same (by omega), if_pos ⟨by omega, by omega⟩, show 2 * w * b + j - 2 * w * b = j by omega]
      · rw [gd_set_ne (fun z => e2 z.symm), ih]
        by_cases c1 : 2 * w * b ≤ q ∧ q < 2 * w * b + j
        · rw [if_pos c1, if_pos ⟨c1.1, by omega⟩]
        · rw [if_neg c1, if_neg (show ¬ (2 * w * b ≤ q ∧ q < 2 * w * b + (j + 1)) from fun z => c1 ⟨z.1, by omega⟩)]
          by_cases c2 : 2 * w * b + w ≤ q ∧ q < 2 * w * b + w + j
          · rw [if_pos c2, if_pos ⟨c2.1, by omega⟩]
          · rw [if_neg c2, if_neg (show ¬ (2 * w * b + w ≤ q ∧ q < 2 * w * b + w + (j + 1)) from fun z => c2 ⟨z.1, by omega⟩)]
set_option maxHeartbeats 400000 in
theorem fd5_go {B : Bk} {l t : List Int32} {w b a c : Nat} {s : Int32} (hl : l.length = 64) (ht : t.length = 64) (hb : 2 * w * b + 2 * w ≤ 64) (ha : w * a + w ≤ 64) (hc : w * c + w ≤ 64) (hw : w ≤ 64) (hbb : b ≤ 64) (haa : a ≤ 128) (hcc : c ≤ 128) (g : Int32 → MM Int32) :
    fd5 (nI w, s) (nI b) g (nI a) (nI c) (BS B l t) = g (nI (b + 1)) (BS B l (f5 l w b a c t w)) := by
  unfold fd5
  refine loopF w nI (fun j => BS B l (f5 l w b a c t j)) rfl rfl (fun j hj f => ?_) (fun f => ?_) (by omega)
  · have n1 : ¬ w ≤ j := by omega
    have h5 := f5_len l w b a c t j
    have m1 : 2 * w * b < 2 ^ 31 := by omega
    unfold fd5B
    rw [f5_s]
    simp (disch := first | omega | (simp only [up_ap, List.length_set, Nat.reduceEqDiff, reduceIte, BS_a, BS_b, h5] <;> omega)) only [Int32.le_refl, bd_pr, pr_ap, jn_eq, lt_eq, bd_bd, bd_ite, ite_ap, bd_ld, bd_sv, bd_la, bd_sa, bd_ln, bd_rz0, bd_rz1, rz_n0, rz_n1, e_lit2, nI_z, nI_eq0, nI_0eq, nI_le0, nI_lt0, nI_0lt, nI_0le, e_001, e_n10, e_n1lt, bd_la0, bd_sa0, bd_rz00, rz_0, rz_1, b2i_0, Int32.add_zero, Int32.zero_add, nI_add, nI_pred2, pk_sub, pk_mul, pk_div, e_nz, nI_eq, nI_leI, nI_ltI, e_nm1, e_nm2, up_ap, gd_set_ne, gd_set_same, List.length_set, Nat.add_sub_cancel, Nat.reduceEqDiff, Nat.reduceAdd, Nat.reduceMul, Nat.reduceSub, Nat.reduceLT, Nat.reduceLeDiff, reduceIte, Nat.not_lt_zero, not_true_eq_false, not_false_eq_true, and_true, true_and, and_false, false_and, n1, BS_27, BS_28, BS_a, BS_b]
  · unfold fd5B
    simp (disch := first | omega | (simp only [up_ap, List.length_set, Nat.reduceEqDiff, reduceIte] <;> omega)) only [Int32.le_refl, bd_pr, pr_ap, jn_eq, lt_eq, bd_bd, bd_ite, ite_ap, bd_ld, bd_sv, bd_la, bd_sa, bd_ln, bd_rz0, bd_rz1, rz_n0, rz_n1, e_lit2, nI_z, nI_eq0, nI_0eq, nI_le0, nI_lt0, nI_0lt, nI_0le, e_001, e_n10, e_n1lt, bd_la0, bd_sa0, bd_rz00, rz_0, rz_1, b2i_0, Int32.add_zero, Int32.zero_add, nI_add, nI_pred2, pk_sub, pk_mul, pk_div, e_nz, nI_eq, nI_leI, nI_ltI, e_nm1, e_nm2, up_ap, gd_set_ne, gd_set_same, List.length_set, Nat.add_sub_cancel, Nat.reduceEqDiff, Nat.reduceAdd, Nat.reduceMul, Nat.reduceSub, Nat.reduceLT, Nat.reduceLeDiff, reduceIte, Nat.not_lt_zero, not_true_eq_false, not_false_eq_true, and_true, true_and, and_false, false_and, BS_a]
def f4 (t l : List Int32) : Nat → List Int32 := fo (fun j l => l.set j (t.getD j 0)) l
theorem f4_v {t l : List Int32} (hl : l.length = 64) : ∀ j, j ≤ 64 → (f4 t l j).length = 64 ∧ ∀ q, q < j → (f4 t l j).getD q 0 = t.getD q 0
  | 0, _ => ⟨hl, fun q hq => absurd hq (Nat.not_lt_zero q)⟩
  | j + 1, hj => by
    obtain ⟨h1, h2⟩ := f4_v (t := t) hl j (by omega)
    have e : f4 t l (j + 1) = (f4 t l j).set j (t.getD j 0) := rfl
    rw [e]
    refine ⟨by rw [List.length_set]; exact h1, fun q hq => ?_⟩
    by_cases e2 : q = j
    · subst e2; rw [gd_set_same (by omega)]
    · rw [gd_set_ne (fun z => e2 z.symm)]; exact h2 q (by omega)
set_option maxHeartbeats 400000 in
theorem fd4_go {B : Bk} {l t : List Int32} {k w i : Nat} (hk : k < 7) (hl : l.length = 64) (ht : t.length = 64) (hw : w ≤ 64) (hi : i ≤ 64) (hn : 2 ^ k ≤ 64) (g : Int32 × Int32 → MM Int32) :
    fd4 (nI k) (nI w, nI i) g (BS B l t) = g (nI (2 * w), nI (i + 1)) (BS B (f4 t l (2 ^ k)) t) := by
  unfold fd4
  refine loopF (2 ^ k) nI (fun j => BS B (f4 t l j) t) rfl rfl (fun j hj f => ?_) (fun f => ?_) (by omega)
  · have n1 : ¬ 2 ^ k ≤ j := by omega
    have h4 := (f4_v (t := t) hl j (by omega)).1
    have e : f4 t l (j + 1) = (f4 t l j).set j (t.getD j 0) := rfl
    unfold fd4B
    rw [pw k hk, e]
    simp (disch := first | omega | (simp only [up_ap, List.length_set, Nat.reduceEqDiff, reduceIte, BS_a, BS_b, h4] <;> omega)) only [Int32.le_refl, bd_pr, pr_ap, jn_eq, lt_eq, bd_bd, bd_ite, ite_ap, bd_ld, bd_sv, bd_la, bd_sa, bd_ln, bd_rz0, bd_rz1, rz_n0, rz_n1, e_lit2, nI_z, nI_eq0, nI_0eq, nI_le0, nI_lt0, nI_0lt, nI_0le, e_001, e_n10, e_n1lt, bd_la0, bd_sa0, bd_rz00, rz_0, rz_1, b2i_0, Int32.add_zero, Int32.zero_add, nI_add, nI_pred2, pk_sub, pk_mul, pk_div, e_nz, nI_eq, nI_leI, nI_ltI, e_nm1, e_nm2, up_ap, gd_set_ne, gd_set_same, List.length_set, Nat.add_sub_cancel, Nat.reduceEqDiff, Nat.reduceAdd, Nat.reduceMul, Nat.reduceSub, Nat.reduceLT, Nat.reduceLeDiff, reduceIte, Nat.not_lt_zero, not_true_eq_false, not_false_eq_true, and_true, true_and, and_false, false_and, n1, BS_27, BS_28, BS_a, BS_b]
  · unfold fd4B
    rw [pw k hk]
    simp (disch := first | omega | (simp only [up_ap, List.length_set, Nat.reduceEqDiff, reduceIte] <;> omega)) only [Int32.le_refl, bd_pr, pr_ap, jn_eq, lt_eq, bd_bd, bd_ite, ite_ap, bd_ld, bd_sv, bd_la, bd_sa, bd_ln, bd_rz0, bd_rz1, rz_n0, rz_n1, e_lit2, nI_z, nI_eq0, nI_0eq, nI_le0, nI_lt0, nI_0lt, nI_0le, e_001, e_n10, e_n1lt, bd_la0, bd_sa0, bd_rz00, rz_0, rz_1, b2i_0, Int32.add_zero, Int32.zero_add, nI_add, nI_pred2, pk_sub, pk_mul, pk_div, e_nz, nI_eq, nI_leI, nI_ltI, e_nm1, e_nm2, up_ap, gd_set_ne, gd_set_same, List.length_set, Nat.add_sub_cancel, Nat.reduceEqDiff, Nat.reduceAdd, Nat.reduceMul, Nat.reduceSub, Nat.reduceLT, Nat.reduceLeDiff, reduceIte, Nat.not_lt_zero, not_true_eq_false, not_false_eq_true, and_true, true_and, and_false, false_and, BS_a]
theorem pws : ∀ k, k < 7 → ∀ i, i < k → 2 * 2 ^ i * 2 ^ (k - i - 1) = 2 ^ k ∧ 2 ^ k ≤ 64 ∧ 2 ^ k / 2 ^ i = 2 * 2 ^ (k - i - 1) ∧ 0 < 2 ^ i ∧ 2 ^ i ≤ 64 ∧ 2 ^ (k - i - 1) ≤ 64 := by decide +kernel
def fA (bi : Bool) (h b : Nat) : Nat := if bi then h - 1 - b else 2 * h - 1 - b
def fC (bi : Bool) (h b : Nat) : Nat := if bi then h + b else b
theorem fAC {bi : Bool} {h b w n : Nat} (hb : b < h) (hn : 2 * w * h = n) : 2 * w * b + 2 * w ≤ n ∧ w * fA bi h b + w ≤ n ∧ w * fC bi h b + w ≤ n ∧ fA bi h b ≤ 2 * h ∧ fC bi h b ≤ 2 * h := by
  have e : w * (2 * h) = n := by rw [← hn, Nat.mul_comm 2 w, Nat.mul_assoc]
  have hA : fA bi h b + 1 ≤ 2 * h := by unfold fA; cases bi <;> simp <;> omega
  have hC : fC bi h b + 1 ≤ 2 * h := by unfold fC; cases bi <;> simp <;> omega
  refine ⟨?_, ?_, ?_, by omega, by omega⟩
  · rw [← Nat.mul_succ, ← hn]; exact Nat.mul_le_mul_left _ hb
  · rw [← Nat.mul_succ, ← e]; exact Nat.mul_le_mul_left _ hA
  · rw [← Nat.mul_succ, ← e]; exact Nat.mul_le_mul_left _ hC
def f3 (bi : Bool) (h w : Nat) (l t : List Int32) : Nat → List Int32 := fo (fun b t => f5 l w b (fA bi h b) (fC bi h b) t w) t
theorem f3_len (bi : Bool) (h w : Nat) (l t : List Int32) : ∀ j, (f3 bi h w l t j).length = t.length
  | 0 => rfl
  | j + 1 => (f5_len _ _ _ _ _ _ _).trans (f3_len bi h w l t j)
theorem fN_s {k m i q w h : Nat} (hw : 2 ^ i = w) (hh : 2 ^ (k - i - 1) = h) : fN k m (i + 1) q = if q % (2 * w) < w then ((fN k m i (w * fA (m.testBit i) h (q / (2 * w)) + w - 1 - q % (2 * w))).1, !(fN k m i (w * fA (m.testBit i) h (q / (2 * w)) + w - 1 - q % (2 * w))).2) else fN k m i (w * fC (m.testBit i) h (q / (2 * w)) + (q % (2 * w) - w)) := by
  subst hw; subst hh; rfl
set_option maxHeartbeats 400000 in
theorem f3_v {k m i w h n : Nat} {l t : List Int32} (hw : 2 ^ i = w) (hh : 2 ^ (k - i - 1) = h) (hn : 2 * w * h = n) (hn64 : n ≤ 64) (w0 : 0 < w) (ht : t.length = 64) (hl : ∀ q, q < n → l.getD q 0 = sgn (fN k m i q)) :
    ∀ j, j ≤ h → ∀ q, q < 2 * w * j → (f3 (m.testBit i) h w l t j).getD q 0 = sgn (fN k m (i + 1) q)
  | 0, _, q, hq => absurd hq (by simp)
  | j + 1, hj, q, hq => by
    obtain ⟨b1, b2, b3, -, -⟩ := fAC (bi := m.testBit i) (show j < h by omega) hn
    have e := f5_v (l := l) (t := f3 (m.testBit i) h w l t j) (w := w) (b := j) (a := fA (m.testBit i) h j) (c := fC (m.testBit i) h j) (by rw [f3_len, ht]) (by omega) w (Nat.le_refl _) q
    have e2 : f3 (m.testBit i) h w l t (j + 1) = f5 l w j (fA (m.testBit i) h j) (fC (m.testBit i) h j) (f3 (m.testBit i) h w l t j) w := rfl
    rw [e2, e]
    rw [Nat.mul_succ] at hq
    by_cases hq2 : q < 2 * w * j
    · rw [if_neg (by omega), if_neg (by omega)]
      exact f3_v hw hh hn hn64 w0 ht hl j (by omega) q hq2
    · obtain ⟨r, rfl⟩ : ∃ r, q = 2 * w * j + r := ⟨q - 2 * w * j, by omega⟩
      have hr : r < 2 * w := by omega
      have d1 : (2 * w * j + r) / (2 * w) = j := by rw [Nat.mul_add_div (by omega), Nat.div_eq_of_lt hr, Nat.add_zero]
      have d2 : (2 * w * j + r) % (2 * w) = r := by rw [Nat.mul_add_mod, Nat.mod_eq_of_lt hr]
      rw [fN_s hw hh, d1, d2, show 2 * w * j + r - 2 * w * j = r by omega]
      by_cases h1 : r < w
      · rw [if_pos ⟨by omega, by omega⟩, if_pos h1, hl _ (by omega), sgn_neg]
      · rw [if_neg (by omega), if_pos ⟨by omega, by omega⟩, if_neg h1, hl _ (by omega)]
set_option maxHeartbeats 400000 in
theorem fd3_go {B : Bk} {l t : List Int32} {k m i w h n : Nat} (hk : k < 7) (hi : i < k) (hw : 2 ^ i = w) (hh : 2 ^ (k - i - 1) = h) (hn : 2 * w * h = n) (hkn : 2 ^ k = n) (hn64 : n ≤ 64) (w0 : 0 < w) (w6 : w ≤ 64) (h6 : h ≤ 64) (hl : l.length = 64) (ht : t.length = 64) (g : Int32 × Int32 → MM Int32) :
    fd3 (nI (2 * h)) (nI k) (nI w, nI i) g (if m.testBit i then 0 else nI 1) (BS B l t) = g (nI (2 * w), nI (i + 1)) (BS B (f4 (f3 (m.testBit i) h w l t h) l n) (f3 (m.testBit i) h w l t h)) := by
  have hd : 2 * h / 2 = h := by omega
  unfold fd3
  refine loopF h nI (fun j => BS B l (f3 (m.testBit i) h w l t j)) rfl rfl (fun j hj f => ?_) (fun f => ?_) (by omega)
  · have n1 : ¬ h ≤ j := by omega
    obtain ⟨b1, b2, b3, b4, b5⟩ := fAC (bi := m.testBit i) hj hn
    have e2 : f3 (m.testBit i) h w l t (j + 1) = f5 l w j (fA (m.testBit i) h j) (fC (m.testBit i) h j) (f3 (m.testBit i) h w l t j) w := rfl
    rw [e2]
    refine Eq.trans ?_ (fd5_go (B := B) (s := nI i) hl (by rw [f3_len, ht]) (by omega) (by omega) (by omega) w6 (by omega) (by omega) (by omega) f)
    unfold fd3B fA fC
    cases m.testBit i
    · simp (disch := first | omega | (simp only [up_ap, List.length_set, Nat.reduceEqDiff, reduceIte] <;> omega)) only [Int32.le_refl, bd_pr, pr_ap, jn_eq, lt_eq, bd_bd, bd_ite, ite_ap, bd_ld, bd_sv, bd_la, bd_sa, bd_ln, bd_rz0, bd_rz1, rz_n0, rz_n1, e_lit2, nI_z, nI_eq0, nI_0eq, nI_le0, nI_lt0, nI_0lt, nI_0le, e_001, e_n10, e_n1lt, bd_la0, bd_sa0, bd_rz00, rz_0, rz_1, b2i_0, Int32.add_zero, Int32.zero_add, nI_add, nI_pred2, pk_sub, pk_mul, pk_div, e_nz, nI_eq, nI_leI, nI_ltI, e_nm1, e_nm2, up_ap, gd_set_ne, gd_set_same, List.length_set, Nat.add_sub_cancel, Nat.reduceEqDiff, Nat.reduceAdd, Nat.reduceMul, Nat.reduceSub, Nat.reduceLT, Nat.reduceLeDiff, reduceIte, Nat.not_lt_zero, not_true_eq_false, not_false_eq_true, and_true, true_and, and_false, false_and, n1, hd, Bool.false_eq_true]
    · simp (disch := first | omega | (simp only [up_ap, List.length_set, Nat.reduceEqDiff, reduceIte] <;> omega)) only [Int32.le_refl, bd_pr, pr_ap, jn_eq, lt_eq, bd_bd, bd_ite, ite_ap, bd_ld, bd_sv, bd_la, bd_sa, bd_ln, bd_rz0, bd_rz1, rz_n0, rz_n1, e_lit2, nI_z, nI_eq0, nI_0eq, nI_le0, nI_lt0, nI_0lt, nI_0le, e_001, e_n10, e_n1lt, bd_la0, bd_sa0, bd_rz00, rz_0, rz_1, b2i_0, Int32.add_zero, Int32.zero_add, nI_add, nI_pred2, pk_sub, pk_mul, pk_div, e_nz, nI_eq, nI_leI, nI_ltI, e_nm1, e_nm2, up_ap, gd_set_ne, gd_set_same, List.length_set, Nat.add_sub_cancel, Nat.reduceEqDiff, Nat.reduceAdd, Nat.reduceMul, Nat.reduceSub, Nat.reduceLT, Nat.reduceLeDiff, reduceIte, Nat.not_lt_zero, not_true_eq_false, not_false_eq_true, and_true, true_and, and_false, false_and, n1, hd]
  · unfold fd3B
    rw [← hkn]
    refine Eq.trans ?_ (fd4_go (B := B) (w := w) (i := i) hk hl (by rw [f3_len, ht]) w6 (by omega) (by omega) g)
    simp (disch := first | omega | (simp only [up_ap, List.length_set, Nat.reduceEqDiff, reduceIte] <;> omega)) only [Int32.le_refl, bd_pr, pr_ap, jn_eq, lt_eq, bd_bd, bd_ite, ite_ap, bd_ld, bd_sv, bd_la, bd_sa, bd_ln, bd_rz0, bd_rz1, rz_n0, rz_n1, e_lit2, nI_z, nI_eq0, nI_0eq, nI_le0, nI_lt0, nI_0lt, nI_0le, e_001, e_n10, e_n1lt, bd_la0, bd_sa0, bd_rz00, rz_0, rz_1, b2i_0, Int32.add_zero, Int32.zero_add, nI_add, nI_pred2, pk_sub, pk_mul, pk_div, e_nz, nI_eq, nI_leI, nI_ltI, e_nm1, e_nm2, up_ap, gd_set_ne, gd_set_same, List.length_set, Nat.add_sub_cancel, Nat.reduceEqDiff, Nat.reduceAdd, Nat.reduceMul, Nat.reduceSub, Nat.reduceLT, Nat.reduceLeDiff, reduceIte, Nat.not_lt_zero, not_true_eq_false, not_false_eq_true, and_true, true_and, and_false, false_and, hd]
set_option maxHeartbeats 400000 in
theorem folds_go {B : Bk} {k m : Nat} (hk : k < 7) (hm : m < 64) (h27 : (B 27).length = 64) (h28 : (B 28).length = 64) : ∃ l t, gX11_folds (nI k) (nI m) B = some (0, BS B l t) ∧ l.length = 64 ∧ t.length = 64 ∧ ∀ q, q < 2 ^ k → l.getD q 0 = sgn (fN k m k q) := by
  have hp := pw k hk
  have hn64 : 2 ^ k ≤ 64 := by
    have : ∀ k, k < 7 → 2 ^ k ≤ 64 := by decide
    exact this k hk
  have key : Ht (fd1 (nI k) (nI m) B) (fun r B' => r = 0 ∧ ∃ l t, B' = BS B l t ∧ l.length = 64 ∧ t.length = 64 ∧ ∀ q, q < 2 ^ k → l.getD q 0 = sgn (fN k m k q)) := by
    unfold fd1
    refine loopI (2 ^ k) (fun j s A => s = nI j ∧ ∃ l, A = BS B l (B 28) ∧ l.length = 64 ∧ ∀ q, q < j → l.getD q 0 = nI (q + 1)) _ (fun j s A hj hI => ?_) (fun s A hI f => ?_) (by omega) ⟨rfl, B 27, by unfold BS; rw [up_self, up_self], h27, fun q hq => absurd hq (Nat.not_lt_zero q)⟩
    · obtain ⟨rfl, l, rfl, hl, hq⟩ := hI
      have n1 : ¬ 2 ^ k ≤ j := by omega
      refine ⟨nI (j + 1), BS B (l.set j (nI (j + 1))) (B 28), fun f => ?_, rfl, _, rfl, by rw [List.length_set]; exact hl, fun q hq2 => ?_⟩
      · unfold fd1B
        rw [hp]
        simp (disch := first | omega | (simp only [up_ap, List.length_set, Nat.reduceEqDiff, reduceIte, BS_a, BS_b, hl] <;> omega)) only [Int32.le_refl, bd_pr, pr_ap, jn_eq, lt_eq, bd_bd, bd_ite, ite_ap, bd_ld, bd_sv, bd_la, bd_sa, bd_ln, bd_rz0, bd_rz1, rz_n0, rz_n1, e_lit2, nI_z, nI_eq0, nI_0eq, nI_le0, nI_lt0, nI_0lt, nI_0le, e_001, e_n10, e_n1lt, bd_la0, bd_sa0, bd_rz00, rz_0, rz_1, b2i_0, Int32.add_zero, Int32.zero_add, nI_add, nI_pred2, pk_sub, pk_mul, pk_div, e_nz, nI_eq, nI_leI, nI_ltI, e_nm1, e_nm2, up_ap, gd_set_ne, gd_set_same, List.length_set, Nat.add_sub_cancel, Nat.reduceEqDiff, Nat.reduceAdd, Nat.reduceMul, Nat.reduceSub, Nat.reduceLT, Nat.reduceLeDiff, reduceIte, Nat.not_lt_zero, not_true_eq_false, not_false_eq_true, and_true, true_and, and_false, false_and, n1, BS_27, BS_28, BS_a, BS_b]
      · by_cases e : q = j
        · subst e; rw [gd_set_same (by omega)]
        · rw [gd_set_ne (fun z => e z.symm)]; exact hq q (by omega)
    · obtain ⟨rfl, l, rfl, hl, hq⟩ := hI
      unfold fd1B
      rw [hp, if_pos (Int32.le_refl _)]
      unfold fd2
      refine loopI k (fun i s A => s = (nI (2 ^ i), nI i) ∧ ∃ l t, A = BS B l t ∧ l.length = 64 ∧ t.length = 64 ∧ ∀ q, q < 2 ^ k → l.getD q 0 = sgn (fN k m i q)) _ (fun i s A hi hI => ?_) (fun s A hI f => ?_) (by omega) ⟨rfl, l, B 28, rfl, hl, h28, fun q hq2 => hq q hq2⟩
      · obtain ⟨rfl, l, t, rfl, hl, ht, hv⟩ := hI
        obtain ⟨e1, e2, e3, e4, e5, e6⟩ := pws k hk i hi
        have n1 : ¬ k ≤ i := by omega
        have l3 := f3_len (m.testBit i) (2 ^ (k - i - 1)) (2 ^ i) l t (2 ^ (k - i - 1))
        obtain ⟨v1, v2⟩ := f4_v (t := f3 (m.testBit i) (2 ^ (k - i - 1)) (2 ^ i) l t (2 ^ (k - i - 1))) hl (2 ^ k) (by omega)
        refine ⟨(nI (2 * 2 ^ i), nI (i + 1)), BS B (f4 (f3 (m.testBit i) (2 ^ (k - i - 1)) (2 ^ i) l t (2 ^ (k - i - 1))) l (2 ^ k)) (f3 (m.testBit i) (2 ^ (k - i - 1)) (2 ^ i) l t (2 ^ (k - i - 1))), fun f => ?_, ?_, f4 (f3 (m.testBit i) (2 ^ (k - i - 1)) (2 ^ i) l t (2 ^ (k - i - 1))) l (2 ^ k), f3 (m.testBit i) (2 ^ (k - i - 1)) (2 ^ i) l t (2 ^ (k - i - 1)), rfl, v1, by rw [l3, ht], fun q hq => ?_⟩
        · refine Eq.trans ?_ (fd3_go (B := B) (m := m) hk hi rfl rfl e1 rfl e2 e4 e5 e6 hl ht f)
          unfold fd2B
          rw [hp, if_neg (fun z => n1 ((nI_leI (by omega) (by omega)).mp z)), e_nz e4 (by omega)]
          show (lt (nI (2 ^ k) / nI (2 ^ i)) _) _ = _
          rw [pk_div (by omega) (by omega), e3]
          simp only [lt_eq, jn_eq]
          rw [bd_some (p_hasN hm (by omega) _)]
          cases m.testBit i
          · have e1 : (1 : Int32) = nI 1 := rfl
            simp only [Bool.false_eq_true, if_false, if_true]
            rw [e1]
          · have n10 : ¬ nI 1 = (0 : Int32) := by decide
            simp only [if_true, n10, if_false]
          omega
        · rw [Nat.pow_succ, Nat.mul_comm]
        · rw [v2 q hq]
          exact f3_v rfl rfl e1 e2 e4 ht hv _ (Nat.le_refl _) q (by rw [e1]; exact hq)
      · obtain ⟨rfl, l, t, rfl, hl, ht, hv⟩ := hI
        unfold fd2B
        rw [if_pos (Int32.le_refl _)]
        exact ⟨0, _, rfl, rfl, l, t, rfl, hl, ht, hv⟩
  obtain ⟨r, B', h1, rfl, l, t, rfl, h2, h3, h4⟩ := key
  exact ⟨l, t, h1, h2, h3, h4⟩
