/-! PURE: untie, comesOut -/
theorem set_self {l : List Int32} {k : Nat} {v : Int32} (h : l.getD k 0 = v) : l.set k v = l := by
  apply List.ext_getElem?
  intro i
  rw [List.getElem?_set]
  by_cases hq : k = i
  · subst hq
    rw [if_pos rfl]
    by_cases hl : k < l.length
    · rw [if_pos hl, ← h, List.getD_eq_getElem?_getD, List.getElem?_eq_getElem hl]; rfl
    · rw [if_neg hl, List.getElem?_eq_none (by omega)]
  · rw [if_neg hq]
theorem up_self (S : Bk) (i : Nat) : up S i (S i) = S := by
  funext j
  rw [up_ap]
  by_cases hq : j = i
  · rw [if_pos hq, hq]
  · rw [if_neg hq]
theorem fo_len {g : Nat → List Int32 → List Int32} (hg : ∀ i l, (g i l).length = l.length) (a : List Int32) : ∀ n, (fo g a n).length = a.length
  | 0 => rfl
  | n + 1 => by
    show (g n (fo g a n)).length = _
    rw [hg, fo_len hg a n]
/-- the class's row of knots while one is taken out -/
def uk (c p : Nat) (l : List Nat) (k : List Int32) : Nat → List Int32 := fo (fun i x => if i = p then x else x.set (4 * c + (if p < i then i - 1 else i)) (nI (l.getD i 0))) k
theorem uk_len (c p : Nat) (l : List Nat) (k : List Int32) (n : Nat) : (uk c p l k n).length = k.length := fo_len (fun i x => by by_cases h : i = p <;> simp [h]) k n
theorem uk_out (c p : Nat) (l : List Nat) (k : List Int32) : ∀ n q, q < 4 * c ∨ 4 * c + n ≤ q → (uk c p l k n).getD q 0 = k.getD q 0
  | 0, q, _ => rfl
  | n + 1, q, hq => by
    show (if n = p then uk c p l k n else (uk c p l k n).set (4 * c + (if p < n then n - 1 else n)) (nI (l.getD n 0))).getD q 0 = _
    by_cases h : n = p
    · rw [if_pos h]; exact uk_out c p l k n q (by omega)
    · rw [if_neg h, gd_set_ne (by by_cases h2 : p < n <;> simp only [h2, if_true, if_false] <;> omega)]
      exact uk_out c p l k n q (by omega)
theorem ei_getD (l : List Nat) (p i : Nat) : (l.eraseIdx p).getD i 0 = if i < p then l.getD i 0 else l.getD (i + 1) 0 := by
  rw [List.getD_eq_getElem?_getD, List.getElem?_eraseIdx]
  by_cases hip : i < p
  · rw [if_pos hip, if_pos hip, List.getD_eq_getElem?_getD]
  · rw [if_neg hip, if_neg hip, List.getD_eq_getElem?_getD]
theorem uk_in (c p : Nat) (l : List Nat) (k : List Int32) (hk : 4 * c + 4 ≤ k.length) : ∀ n, n ≤ 4 → ∀ i, (p < n → i < n - 1) → (n ≤ p → i < n) → (uk c p l k n).getD (4 * c + i) 0 = nI ((l.eraseIdx p).getD i 0)
  | 0, _, i, h1, h2 => by
    by_cases h : p < 0
    · omega
    · have := h2 (by omega); omega
  | n + 1, hn, i, h1, h2 => by
    have hl := uk_len c p l k n
    show (if n = p then uk c p l k n else (uk c p l k n).set (4 * c + (if p < n then n - 1 else n)) (nI (l.getD n 0))).getD (4 * c + i) 0 = _
    by_cases h : n = p
    · rw [if_pos h]
      exact uk_in c p l k hk n (by omega) i (fun q => by omega) (fun q => by have := h1 (by omega); omega)
    · rw [if_neg h]
      by_cases h3 : p < n
      · rw [if_pos h3]
        by_cases h4 : i = n - 1
        · subst h4
          rw [gd_set_same (by omega), ei_getD, if_neg (by omega), show n - 1 + 1 = n by omega]
        · rw [gd_set_ne (by omega)]
          exact uk_in c p l k hk n (by omega) i (fun q => by have := h1 (by omega); omega) (fun q => by omega)
      · rw [if_neg h3]
        by_cases h4 : i = n
        · subst h4
          rw [gd_set_same (by omega), ei_getD, if_pos (by omega)]
        · rw [gd_set_ne (by omega)]
          exact uk_in c p l k hk n (by omega) i (fun q => by omega) (fun q => by have := h2 (by omega); omega)
/-- the reference's row while the knots behind one move up -/
def sk (c p : Nat) (w : List Int32) : Nat → List Int32 := fo (fun i x => x.set (67 + 4 * c + (p + i)) (if p + i = 3 then nI 0 else x.getD (67 + 4 * c + (p + i) + 1) 0)) w
theorem sk_len (c p : Nat) (w : List Int32) (n : Nat) : (sk c p w n).length = w.length := fo_len (fun i x => List.length_set) w n
theorem sk_get (c p : Nat) (w : List Int32) (hw : 71 + 4 * c ≤ w.length) : ∀ n, p + n ≤ 4 → ∀ q, (sk c p w n).getD q 0 = if 67 + 4 * c + p ≤ q ∧ q < 67 + 4 * c + (p + n) then (if q = 70 + 4 * c then nI 0 else w.getD (q + 1) 0) else w.getD q 0
  | 0, _, q => by rw [if_neg (by omega)]; rfl
  | n + 1, hn, q => by
    have hl := sk_len c p w n
    show ((sk c p w n).set (67 + 4 * c + (p + n)) (if p + n = 3 then nI 0 else (sk c p w n).getD (67 + 4 * c + (p + n) + 1) 0)).getD q 0 = _
    by_cases hq : q = 67 + 4 * c + (p + n)
    · subst hq
      have c1 : 67 + 4 * c + p ≤ 67 + 4 * c + (p + n) ∧ 67 + 4 * c + (p + n) < 67 + 4 * c + (p + (n + 1)) := by omega
      rw [gd_set_same (by omega), if_pos c1]
      by_cases h3 : p + n = 3
      · rw [if_pos h3, if_pos (show 67 + 4 * c + (p + n) = 70 + 4 * c by omega)]
      · have c2 : ¬ (67 + 4 * c + p ≤ 67 + 4 * c + (p + n) + 1 ∧ 67 + 4 * c + (p + n) + 1 < 67 + 4 * c + (p + n)) := by omega
        rw [if_neg h3, if_neg (show ¬ 67 + 4 * c + (p + n) = 70 + 4 * c by omega), sk_get c p w hw n (by omega), if_neg c2]
    · rw [gd_set_ne (by omega), sk_get c p w hw n (by omega)]
      by_cases h4 : 67 + 4 * c + p ≤ q ∧ q < 67 + 4 * c + (p + n)
      · rw [if_pos h4, if_pos (show 67 + 4 * c + p ≤ q ∧ q < 67 + 4 * c + (p + (n + 1)) by omega)]
      · rw [if_neg h4, if_neg (show ¬ (67 + 4 * c + p ≤ q ∧ q < 67 + 4 * c + (p + (n + 1))) by omega)]
theorem Sw_ext {c nw nw' : List Int32} {o n : Nat} (h : Sw c nw o n) (e : ∀ i, i < n → nw'.getD (o + i) 0 = nw.getD (o + i) 0) : Sw c nw' o n := fun i hi => by rw [e i hi]; exact h i hi
theorem WR_untie {W : Bk} {nw nw' l7 ow du : List Int32} {np nc nt t c p : Nat} {ks : Nat → List Nat} {wh : Nat → Nat} (h : WR W nw ow du np nc nt ks wh) (htt : t < nt) (hcc : c < nc) (hwt : wh t = c + 1) (hp : p < (ks c).length) (hpt : (ks c).getD p 0 = t)
    (z7 : l7.length = 56) (e7 : ∀ i, i < (ks c).length - 1 → l7.getD (4 * c + i) 0 = nI (((ks c).eraseIdx p).getD i 0)) (f7 : ∀ q, q < 4 * c ∨ 4 * c + 4 ≤ q → l7.getD q 0 = (W 7).getD q 0)
    (zn : nw'.length = 183) (en : ∀ k, nw'.getD k 0 = if k = 123 + t ∨ k = 143 + t then nI 0 else if 67 + 4 * c + p ≤ k ∧ k < 71 + 4 * c then (if k = 70 + 4 * c then nI 0 else nw.getD (k + 1) 0) else nw.getD k 0) :
    WR (up (up (up (up W 7 l7) 6 ((W 6).set c (nI ((ks c).length - 1)))) 10 ((W 10).set t (-nI 1))) 11 ((W 11).set t (nI 0))) nw' ow du np nc nt (fun x => if x = c then (ks c).eraseIdx p else ks x) (fun x => if x = t then 0 else wh x) := by
  obtain ⟨hl, ⟨hn1, hn2, hn3, hn4⟩, ⟨p1, p2, p3, p4, p5, p6⟩, he, ⟨s1, s2, s3, s4, s5, s6, s7⟩, hod, ho, hd, hw, hk⟩ := h
  obtain ⟨l0, l1, l2, l3, l4, l5, l6, l7', l8, l9, l10, l11, l12⟩ := id hl
  have hlen := (hk.1 c hcc).1
  have eo : ∀ k, k < 67 ∨ 163 ≤ k → nw'.getD k 0 = nw.getD k 0 := fun k hk => by rw [en, if_neg (by omega), if_neg (by omega)]
  have q0 : P0 (W 0) nw' np nc nt := ⟨by rw [eo 1 (by omega)]; exact p1, by rw [eo 0 (by omega)]; exact p2, by rw [eo 2 (by omega)]; exact p3, p4, p5, p6⟩
  have so : ∀ {c o n}, Sw c nw o n → (o + n ≤ 67 ∨ 163 ≤ o) → Sw c nw' o n := fun hs ho => Sw_ext hs (fun i hi => eo _ (by omega))
  refine ⟨WL_up (WL_up (WL_up (WL_up hl (by rw [z7, l7'])) List.length_set) List.length_set) List.length_set, ⟨zn, hn2, hn3, hn4⟩, q0, by rw [eo 2 (by omega)]; exact he, ⟨so s1 (by omega), so s2 (by omega), so s3 (by omega), so s4 (by omega), so s5 (by omega), fun i hi => ?_, so s7 (by omega)⟩, hod, ho, hd, fun x hx => by rw [eo _ (by omega)]; exact hw x hx, ?_⟩
  · show ((W 11).set t (nI 0)).getD i 0 = _
    rw [gd_set (by omega), en]
    by_cases hq : i = t
    · rw [if_pos hq, if_pos (by omega)]
    · rw [if_neg hq, if_neg (by omega), if_neg (by omega)]; exact s6 i hi
  · refine RK_untie hk htt hcc hp hpt (fun x hx => ?_) (fun x i hx hi => ⟨fun hxc hi2 => e7 i hi2, fun hxc => f7 _ (by omega)⟩) (fun s hs => ?_) (fun x i hx hi => ?_) (fun s hs => ?_)
    · show ((W 6).set c (nI ((ks c).length - 1))).getD x 0 = _
      rw [gd_set (by omega)]
    · show ((W 10).set t (-nI 1)).getD s 0 = _
      rw [gd_set (by omega)]
    · rw [en, if_neg (by omega)]
      by_cases hq : x = c ∧ p ≤ i
      · have c1 : 67 + 4 * c + p ≤ 67 + 4 * x + i ∧ 67 + 4 * x + i < 71 + 4 * c := by omega
        rw [if_pos c1, if_pos hq]
        by_cases h3 : i = 3
        · rw [if_pos (show 67 + 4 * x + i = 70 + 4 * c by omega), if_pos h3]
        · rw [if_neg (show ¬ 67 + 4 * x + i = 70 + 4 * c by omega), if_neg h3]; rfl
      · rw [if_neg (show ¬ (67 + 4 * c + p ≤ 67 + 4 * x + i ∧ 67 + 4 * x + i < 71 + 4 * c) by omega), if_neg hq]
    · constructor
      · rw [en]
        by_cases hq : s = t
        · rw [if_pos (by omega), if_pos hq]
        · rw [if_neg (by omega), if_neg (by omega), if_neg hq]
      · rw [en]
        by_cases hq : s = t
        · rw [if_pos (by omega), if_pos hq]
        · rw [if_neg (by omega), if_neg (by omega), if_neg hq]
theorem p_untie {W : Bk} {nw ow du : List Int32} {np nc nt t c p : Nat} {ks : Nat → List Nat} {wh : Nat → Nat} (h : WR W nw ow du np nc nt ks wh) (htt : t < nt) (hcc : c < nc) (hwt : wh t = c + 1) (hp : p < (ks c).length) (hpt : (ks c).getD p 0 = t) :
    gX9_untie (nI t) W = some (nI 0, up (up (up (up W 7 (uk c p (ks c) (W 7) (ks c).length)) 6 ((W 6).set c (nI ((ks c).length - 1)))) 10 ((W 10).set t (-nI 1))) 11 ((W 11).set t (nI 0))) := by
  obtain ⟨hl, ⟨hn1, hn2, hn3, hn4⟩, ⟨p1, p2, p3, p4, p5, p6⟩, he, hs, hod, ho, hd, hw, ⟨k1, k2, k3⟩⟩ := h
  obtain ⟨l0, l1, l2, l3, l4, l5, l6, l7, l8, l9, l10, l11, l12⟩ := id hl
  obtain ⟨a1, a2, a3, a4, a5⟩ := k1 c hcc
  have b3 := (k2 t htt).2.2.1
  rw [hwt, nI_pred2] at b3
  have c1 : c * 4 = 4 * c := Nat.mul_comm _ _
  unfold gX9_untie
  rw [bd_some (t_hasThing l0 p6 htt (by omega))]
  simp (disch := first | omega | (simp only [up_ap, List.length_set, Nat.reduceEqDiff, reduceIte]; omega)) only [bd_pr, pr_ap, jn_eq, lt_eq, bd_bd, bd_ite, ite_ap, bd_ld, bd_sv, bd_la, bd_sa, bd_ln, bd_rz0, bd_rz1, rz_n0, rz_n1, e_lit2, nI_z, nI_eq0, nI_0eq, nI_le0, nI_lt0, nI_0lt, nI_0le, e_001, e_n10, e_n1lt, bd_la0, bd_sa0, bd_rz00, rz_0, rz_1, b2i_0, Int32.add_zero, Int32.zero_add, nI_add, nI_pred2, pk_sub, pk_mul, pk_div, e_nz, nI_eq, nI_leI, nI_ltI, e_nm1, e_nm2, up_ap, gd_set_ne, gd_set_same, List.length_set, Nat.add_sub_cancel, Nat.reduceEqDiff, Nat.reduceAdd, Nat.reduceMul, Nat.reduceSub, Nat.reduceLT, Nat.reduceLeDiff, reduceIte, Nat.not_lt_zero, not_true_eq_false, not_false_eq_true, and_true, true_and, and_false, false_and, b3]
  rw [bd_some (t_hasCloth l0 p5 hcc (by omega))]
  simp (disch := first | omega | (simp only [up_ap, List.length_set, Nat.reduceEqDiff, reduceIte]; omega)) only [bd_pr, pr_ap, jn_eq, lt_eq, bd_bd, bd_ite, ite_ap, bd_ld, bd_sv, bd_la, bd_sa, bd_ln, bd_rz0, bd_rz1, rz_n0, rz_n1, e_lit2, nI_z, nI_eq0, nI_0eq, nI_le0, nI_lt0, nI_0lt, nI_0le, e_001, e_n10, e_n1lt, bd_la0, bd_sa0, bd_rz00, rz_0, rz_1, b2i_0, Int32.add_zero, Int32.zero_add, nI_add, nI_pred2, pk_sub, pk_mul, pk_div, e_nz, nI_eq, nI_leI, nI_ltI, e_nm1, e_nm2, up_ap, gd_set_ne, gd_set_same, List.length_set, Nat.add_sub_cancel, Nat.reduceEqDiff, Nat.reduceAdd, Nat.reduceMul, Nat.reduceSub, Nat.reduceLT, Nat.reduceLeDiff, reduceIte, Nat.not_lt_zero, not_true_eq_false, not_false_eq_true, and_true, true_and, and_false, false_and, b3]
  have hnd : ∀ j, j < (ks c).length → ((ks c).getD j 0 = t ↔ j = p) := by
    intro j hj
    rw [← hpt]
    exact List.getD_inj hj hp a2
  have hks : ∀ j, j < (ks c).length → (ks c).getD j 0 < 20 := fun j hj => by
    have := ((k3 c _ hcc).mp (show (ks c).getD j 0 ∈ ks c by rw [List.getD_eq_getElem?_getD, List.getElem?_eq_getElem hj]; exact List.getElem_mem hj)).1
    omega
  refine loopF (ks c).length (fun j => (nI (if p < j then j - 1 else j), nI j)) (fun j => up W 7 (uk c p (ks c) (W 7) j)) (by simp only [Nat.not_lt_zero, if_false]; rfl) (up_self W 7) (fun j hj self => ?_) (fun self => ?_) (by omega)
  · have n4 : ¬ 4 ≤ j := by omega
    have nj : ¬ (ks c).length ≤ j := by omega
    have hu := uk_len c p (ks c) (W 7) j
    have ho := uk_out c p (ks c) (W 7) j (4 * c + j) (by omega)
    rw [a4 j hj] at ho
    have hkj := hks j hj
    simp (disch := first | omega | (simp only [up_ap, List.length_set, Nat.reduceEqDiff, reduceIte, hu]; omega)) only [bd_pr, pr_ap, jn_eq, lt_eq, bd_bd, bd_ite, ite_ap, bd_ld, bd_sv, bd_la, bd_sa, bd_ln, bd_rz0, bd_rz1, rz_n0, rz_n1, e_lit2, nI_z, nI_eq0, nI_0eq, nI_le0, nI_lt0, nI_0lt, nI_0le, e_001, e_n10, e_n1lt, bd_la0, bd_sa0, bd_rz00, rz_0, rz_1, b2i_0, Int32.add_zero, Int32.zero_add, nI_add, nI_pred2, pk_sub, pk_mul, pk_div, e_nz, nI_eq, nI_leI, nI_ltI, e_nm1, e_nm2, up_ap, gd_set_ne, gd_set_same, List.length_set, Nat.add_sub_cancel, Nat.reduceEqDiff, Nat.reduceAdd, Nat.reduceMul, Nat.reduceSub, Nat.reduceLT, Nat.reduceLeDiff, reduceIte, Nat.not_lt_zero, not_true_eq_false, not_false_eq_true, and_true, true_and, and_false, false_and, a3, n4, nj, c1, ho]
    by_cases hq : j = p
    · have hq2 := (hnd j hj).mpr hq
      have e2 : uk c p (ks c) (W 7) (j + 1) = uk c p (ks c) (W 7) j := by
        show (if j = p then _ else _) = _
        rw [if_pos hq]; rfl
      rw [if_pos hq2, e2]
      have q1 : ¬ p < j := by omega
      have q2 : p < j + 1 := by omega
      simp only [q1, q2, if_true, if_false, Nat.add_sub_cancel]
    · have hq2 : ¬ (ks c).getD j 0 = t := fun e => hq ((hnd j hj).mp e)
      have e2 : uk c p (ks c) (W 7) (j + 1) = (uk c p (ks c) (W 7) j).set (4 * c + (if p < j then j - 1 else j)) (nI ((ks c).getD j 0)) := by
        show (if j = p then _ else _) = _
        rw [if_neg hq]; rfl
      rw [if_neg hq2, e2]
      have e3 : up (up W 7 (uk c p (ks c) (W 7) j)) 7 ((uk c p (ks c) (W 7) j).set (4 * c + (if p < j then j - 1 else j)) (nI ((ks c).getD j 0))) = up W 7 ((uk c p (ks c) (W 7) j).set (4 * c + (if p < j then j - 1 else j)) (nI ((ks c).getD j 0))) := by
        funext x; simp only [up_ap]; by_cases hx : x = 7 <;> simp [hx]
      by_cases q1 : p < j
      · have q2 : p < j + 1 := by omega
        have q3 : j - 1 + 1 = j := by omega
        simp only [q1, if_true] at e3
        simp only [q1, q2, if_true, Nat.add_sub_cancel]
        simp (disch := first | omega | (simp only [up_ap, List.length_set, Nat.reduceEqDiff, reduceIte, hu]; omega)) only [bd_pr, pr_ap, jn_eq, lt_eq, bd_bd, bd_ite, ite_ap, bd_ld, bd_sv, bd_la, bd_sa, bd_ln, bd_rz0, bd_rz1, rz_n0, rz_n1, e_lit2, nI_z, nI_eq0, nI_0eq, nI_le0, nI_lt0, nI_0lt, nI_0le, e_001, e_n10, e_n1lt, bd_la0, bd_sa0, bd_rz00, rz_0, rz_1, b2i_0, Int32.add_zero, Int32.zero_add, nI_add, nI_pred2, pk_sub, pk_mul, pk_div, e_nz, nI_eq, nI_leI, nI_ltI, e_nm1, e_nm2, up_ap, gd_set_ne, gd_set_same, List.length_set, Nat.add_sub_cancel, Nat.reduceEqDiff, Nat.reduceAdd, Nat.reduceMul, Nat.reduceSub, Nat.reduceLT, Nat.reduceLeDiff, reduceIte, Nat.not_lt_zero, not_true_eq_false, not_false_eq_true, and_true, true_and, and_false, false_and, q3, e3]
      · have q2 : ¬ p < j + 1 := by omega
        simp only [q1, if_false] at e3
        simp only [q1, q2, if_false]
        simp (disch := first | omega | (simp only [up_ap, List.length_set, Nat.reduceEqDiff, reduceIte, hu]; omega)) only [bd_pr, pr_ap, jn_eq, lt_eq, bd_bd, bd_ite, ite_ap, bd_ld, bd_sv, bd_la, bd_sa, bd_ln, bd_rz0, bd_rz1, rz_n0, rz_n1, e_lit2, nI_z, nI_eq0, nI_0eq, nI_le0, nI_lt0, nI_0lt, nI_0le, e_001, e_n10, e_n1lt, bd_la0, bd_sa0, bd_rz00, rz_0, rz_1, b2i_0, Int32.add_zero, Int32.zero_add, nI_add, nI_pred2, pk_sub, pk_mul, pk_div, e_nz, nI_eq, nI_leI, nI_ltI, e_nm1, e_nm2, up_ap, gd_set_ne, gd_set_same, List.length_set, Nat.add_sub_cancel, Nat.reduceEqDiff, Nat.reduceAdd, Nat.reduceMul, Nat.reduceSub, Nat.reduceLT, Nat.reduceLeDiff, reduceIte, Nat.not_lt_zero, not_true_eq_false, not_false_eq_true, and_true, true_and, and_false, false_and, e3]
  · have hu := uk_len c p (ks c) (W 7) (ks c).length
    have q1 : p < (ks c).length := hp
    by_cases h4 : (ks c).length = 4
    · simp only [q1, if_true]
      have n4 : 4 ≤ (ks c).length := by omega
      simp (disch := first | omega | (simp only [up_ap, List.length_set, Nat.reduceEqDiff, reduceIte, hu]; omega)) only [bd_pr, pr_ap, jn_eq, lt_eq, bd_bd, bd_ite, ite_ap, bd_ld, bd_sv, bd_la, bd_sa, bd_ln, bd_rz0, bd_rz1, rz_n0, rz_n1, e_lit2, nI_z, nI_eq0, nI_0eq, nI_le0, nI_lt0, nI_0lt, nI_0le, e_001, e_n10, e_n1lt, bd_la0, bd_sa0, bd_rz00, rz_0, rz_1, b2i_0, Int32.add_zero, Int32.zero_add, nI_add, nI_pred2, pk_sub, pk_mul, pk_div, e_nz, nI_eq, nI_leI, nI_ltI, e_nm1, e_nm2, up_ap, gd_set_ne, gd_set_same, List.length_set, Nat.add_sub_cancel, Nat.reduceEqDiff, Nat.reduceAdd, Nat.reduceMul, Nat.reduceSub, Nat.reduceLT, Nat.reduceLeDiff, reduceIte, Nat.not_lt_zero, not_true_eq_false, not_false_eq_true, and_true, true_and, and_false, false_and, n4]
    · have n4 : ¬ 4 ≤ (ks c).length := by omega
      simp only [q1, if_true]
      simp (disch := first | omega | (simp only [up_ap, List.length_set, Nat.reduceEqDiff, reduceIte, hu]; omega)) only [bd_pr, pr_ap, jn_eq, lt_eq, bd_bd, bd_ite, ite_ap, bd_ld, bd_sv, bd_la, bd_sa, bd_ln, bd_rz0, bd_rz1, rz_n0, rz_n1, e_lit2, nI_z, nI_eq0, nI_0eq, nI_le0, nI_lt0, nI_0lt, nI_0le, e_001, e_n10, e_n1lt, bd_la0, bd_sa0, bd_rz00, rz_0, rz_1, b2i_0, Int32.add_zero, Int32.zero_add, nI_add, nI_pred2, pk_sub, pk_mul, pk_div, e_nz, nI_eq, nI_leI, nI_ltI, e_nm1, e_nm2, up_ap, gd_set_ne, gd_set_same, List.length_set, Nat.add_sub_cancel, Nat.reduceEqDiff, Nat.reduceAdd, Nat.reduceMul, Nat.reduceSub, Nat.reduceLT, Nat.reduceLeDiff, reduceIte, Nat.not_lt_zero, not_true_eq_false, not_false_eq_true, and_true, true_and, and_false, false_and, a3, n4, Nat.le_refl]
theorem p_comesOut {B W : Bk} {ow du : List Int32} {np nc nt t c p : Nat} {ks : Nat → List Nat} {wh : Nat → Nat} (h : WR W (B 1) ow du np nc nt ks wh) (htt : t < nt) (hcc : c < nc) (hwt : wh t = c + 1) (hp : p < (ks c).length) (hpt : (ks c).getD p 0 = t) :
    gX11_comesOut (nI t) B = some (nI 0, up B 1 (((sk c p (B 1) (4 - p)).set (123 + t) (nI 0)).set (143 + t) (nI 0))) := by
  obtain ⟨hl, ⟨hn1, hn2, hn3, hn4⟩, ⟨p1, p2, p3, p4, p5, p6⟩, he, hs, hod, ho, hd, hw, ⟨k1, k2, k3⟩⟩ := h
  obtain ⟨a1, a2, a3, a4, a5⟩ := k1 c hcc
  have b2 := (k2 t htt).2.1
  rw [hwt] at b2
  unfold gX11_comesOut
  simp (disch := first | omega | (simp only [up_ap, List.length_set, Nat.reduceEqDiff, reduceIte]; omega)) only [bd_pr, pr_ap, jn_eq, lt_eq, bd_bd, bd_ite, ite_ap, bd_ld, bd_sv, bd_la, bd_sa, bd_ln, bd_rz0, bd_rz1, rz_n0, rz_n1, e_lit2, nI_z, nI_eq0, nI_0eq, nI_le0, nI_lt0, nI_0lt, nI_0le, e_001, e_n10, e_n1lt, bd_la0, bd_sa0, bd_rz00, rz_0, rz_1, b2i_0, Int32.add_zero, Int32.zero_add, nI_add, nI_pred2, pk_sub, pk_mul, pk_div, e_nz, nI_eq, nI_leI, nI_ltI, e_nm1, e_nm2, up_ap, gd_set_ne, gd_set_same, List.length_set, Nat.add_sub_cancel, Nat.reduceEqDiff, Nat.reduceAdd, Nat.reduceMul, Nat.reduceSub, Nat.reduceLT, Nat.reduceLeDiff, reduceIte, Nat.not_lt_zero, not_true_eq_false, not_false_eq_true, and_true, true_and, and_false, false_and, gX11_inCloth, b2]
  have hnd : ∀ j, j < (ks c).length → ((ks c).getD j 0 = t ↔ j = p) := by
    intro j hj
    rw [← hpt]
    exact List.getD_inj hj hp a2
  have hks : ∀ j, j < (ks c).length → (ks c).getD j 0 < 20 := fun j hj => by
    have := ((k3 c _ hcc).mp (show (ks c).getD j 0 ∈ ks c by rw [List.getD_eq_getElem?_getD, List.getElem?_eq_getElem hj]; exact List.getElem_mem hj)).1
    omega
  refine loopF p (fun j => nI j) (fun _ => B) rfl rfl (fun j hj self => ?_) (fun self => ?_) (by omega)
  · have h1 := a5 j (by omega)
    rw [if_pos (by omega)] at h1
    have hkj := hks j (by omega)
    have hne : ¬ (ks c).getD j 0 = t := fun e => by have := (hnd j (by omega)).mp e; omega
    simp (disch := first | omega | (simp only [up_ap, List.length_set, Nat.reduceEqDiff, reduceIte]; omega)) only [bd_pr, pr_ap, jn_eq, lt_eq, bd_bd, bd_ite, ite_ap, bd_ld, bd_sv, bd_la, bd_sa, bd_ln, bd_rz0, bd_rz1, rz_n0, rz_n1, e_lit2, nI_z, nI_eq0, nI_0eq, nI_le0, nI_lt0, nI_0lt, nI_0le, e_001, e_n10, e_n1lt, bd_la0, bd_sa0, bd_rz00, rz_0, rz_1, b2i_0, Int32.add_zero, Int32.zero_add, nI_add, nI_pred2, pk_sub, pk_mul, pk_div, e_nz, nI_eq, nI_leI, nI_ltI, e_nm1, e_nm2, up_ap, gd_set_ne, gd_set_same, List.length_set, Nat.add_sub_cancel, Nat.reduceEqDiff, Nat.reduceAdd, Nat.reduceMul, Nat.reduceSub, Nat.reduceLT, Nat.reduceLeDiff, reduceIte, Nat.not_lt_zero, not_true_eq_false, not_false_eq_true, and_true, true_and, and_false, false_and, gX11_knotOf, h1, hne]
  · have h1 := a5 p (by omega)
    rw [if_pos hp, hpt] at h1
    simp (disch := first | omega | (simp only [up_ap, List.length_set, Nat.reduceEqDiff, reduceIte]; omega)) only [bd_pr, pr_ap, jn_eq, lt_eq, bd_bd, bd_ite, ite_ap, bd_ld, bd_sv, bd_la, bd_sa, bd_ln, bd_rz0, bd_rz1, rz_n0, rz_n1, e_lit2, nI_z, nI_eq0, nI_0eq, nI_le0, nI_lt0, nI_0lt, nI_0le, e_001, e_n10, e_n1lt, bd_la0, bd_sa0, bd_rz00, rz_0, rz_1, b2i_0, Int32.add_zero, Int32.zero_add, nI_add, nI_pred2, pk_sub, pk_mul, pk_div, e_nz, nI_eq, nI_leI, nI_ltI, e_nm1, e_nm2, up_ap, gd_set_ne, gd_set_same, List.length_set, Nat.add_sub_cancel, Nat.reduceEqDiff, Nat.reduceAdd, Nat.reduceMul, Nat.reduceSub, Nat.reduceLT, Nat.reduceLeDiff, reduceIte, Nat.not_lt_zero, not_true_eq_false, not_false_eq_true, and_true, true_and, and_false, false_and, gX11_knotOf, h1]
    refine loopF (4 - p) (fun j => nI (p + j)) (fun j => up B 1 (sk c p (B 1) j)) rfl (up_self B 1) (fun j hj self => ?_) (fun self => ?_) (by omega)
    · have n4 : ¬ 4 ≤ p + j := by omega
      have hu := sk_len c p (B 1) j
      have e2 : sk c p (B 1) (j + 1) = (sk c p (B 1) j).set (67 + 4 * c + (p + j)) (if p + j = 3 then nI 0 else (sk c p (B 1) j).getD (67 + 4 * c + (p + j) + 1) 0) := rfl
      have e3 : ∀ l, up (up B 1 (sk c p (B 1) j)) 1 l = up B 1 l := fun l => by
        funext x; simp only [up_ap]; by_cases hx : x = 1 <;> simp [hx]
      have e4 : p + (j + 1) = p + j + 1 := rfl
      rw [e2]
      by_cases h3 : p + j = 3
      · simp (disch := first | omega | (simp only [up_ap, List.length_set, Nat.reduceEqDiff, reduceIte, hu]; omega)) only [bd_pr, pr_ap, jn_eq, lt_eq, bd_bd, bd_ite, ite_ap, bd_ld, bd_sv, bd_la, bd_sa, bd_ln, bd_rz0, bd_rz1, rz_n0, rz_n1, e_lit2, nI_z, nI_eq0, nI_0eq, nI_le0, nI_lt0, nI_0lt, nI_0le, e_001, e_n10, e_n1lt, bd_la0, bd_sa0, bd_rz00, rz_0, rz_1, b2i_0, Int32.add_zero, Int32.zero_add, nI_add, nI_pred2, pk_sub, pk_mul, pk_div, e_nz, nI_eq, nI_leI, nI_ltI, e_nm1, e_nm2, up_ap, gd_set_ne, gd_set_same, List.length_set, Nat.add_sub_cancel, Nat.reduceEqDiff, Nat.reduceAdd, Nat.reduceMul, Nat.reduceSub, Nat.reduceLT, Nat.reduceLeDiff, reduceIte, Nat.not_lt_zero, not_true_eq_false, not_false_eq_true, and_true, true_and, and_false, false_and, n4, h3, e3, e4]
      · simp (disch := first | omega | (simp only [up_ap, List.length_set, Nat.reduceEqDiff, reduceIte, hu]; omega)) only [bd_pr, pr_ap, jn_eq, lt_eq, bd_bd, bd_ite, ite_ap, bd_ld, bd_sv, bd_la, bd_sa, bd_ln, bd_rz0, bd_rz1, rz_n0, rz_n1, e_lit2, nI_z, nI_eq0, nI_0eq, nI_le0, nI_lt0, nI_0lt, nI_0le, e_001, e_n10, e_n1lt, bd_la0, bd_sa0, bd_rz00, rz_0, rz_1, b2i_0, Int32.add_zero, Int32.zero_add, nI_add, nI_pred2, pk_sub, pk_mul, pk_div, e_nz, nI_eq, nI_leI, nI_ltI, e_nm1, e_nm2, up_ap, gd_set_ne, gd_set_same, List.length_set, Nat.add_sub_cancel, Nat.reduceEqDiff, Nat.reduceAdd, Nat.reduceMul, Nat.reduceSub, Nat.reduceLT, Nat.reduceLeDiff, reduceIte, Nat.not_lt_zero, not_true_eq_false, not_false_eq_true, and_true, true_and, and_false, false_and, n4, h3, e3, e4]
    · have n4 : 4 ≤ p + (4 - p) := by omega
      have hu := sk_len c p (B 1) (4 - p)
      have e3 : ∀ l l', up (up B 1 l) 1 l' = up B 1 l' := fun l l' => by
        funext x; simp only [up_ap]; by_cases hx : x = 1 <;> simp [hx]
      simp (disch := first | omega | (simp only [up_ap, List.length_set, Nat.reduceEqDiff, reduceIte, hu]; omega)) only [bd_pr, pr_ap, jn_eq, lt_eq, bd_bd, bd_ite, ite_ap, bd_ld, bd_sv, bd_la, bd_sa, bd_ln, bd_rz0, bd_rz1, rz_n0, rz_n1, e_lit2, nI_z, nI_eq0, nI_0eq, nI_le0, nI_lt0, nI_0lt, nI_0le, e_001, e_n10, e_n1lt, bd_la0, bd_sa0, bd_rz00, rz_0, rz_1, b2i_0, Int32.add_zero, Int32.zero_add, nI_add, nI_pred2, pk_sub, pk_mul, pk_div, e_nz, nI_eq, nI_leI, nI_ltI, e_nm1, e_nm2, up_ap, gd_set_ne, gd_set_same, List.length_set, Nat.add_sub_cancel, Nat.reduceEqDiff, Nat.reduceAdd, Nat.reduceMul, Nat.reduceSub, Nat.reduceLT, Nat.reduceLeDiff, reduceIte, Nat.not_lt_zero, not_true_eq_false, not_false_eq_true, and_true, true_and, and_false, false_and, n4, e3]
theorem un_co {W B : Bk} {ow du : List Int32} {np nc nt t : Nat} {ks : Nat → List Nat} {wh : Nat → Nat} (h : WR W (B 1) ow du np nc nt ks wh) (htt : t < nt) :
    ∃ W' nw' ks' wh', gX9_untie (nI t) W = some (nI 0, W') ∧ gX11_comesOut (nI t) B = some (nI 0, up B 1 nw') ∧ WR W' nw' ow du np nc nt ks' wh' ∧ W' 0 = W 0 ∧ nw'.getD 0 0 = (B 1).getD 0 0 ∧ (∀ c, wh t = c + 1 → (ks' c).length + 1 = (ks c).length) ∧ wh' t = 0 := by
  by_cases hw0 : wh t = 0
  · obtain ⟨hl, ⟨hn1, hn2, hn3, hn4⟩, ⟨p1, p2, p3, p4, p5, p6⟩, he, ⟨s1, s2, s3, s4, s5, s6, s7⟩, hod, ho, hd, hw, ⟨k1, k2, k3⟩⟩ := id h
    obtain ⟨l0, l1, l2, l3, l4, l5, l6, l7, l8, l9, l10, l11, l12⟩ := id hl
    obtain ⟨b1, b2, b3, b4⟩ := k2 t htt
    rw [hw0, e_01] at b3
    rw [hw0] at b2
    have b5 := b4 hw0
    have t1 : (W 10).set t (-nI 1) = W 10 := set_self b3
    have t2 : (W 11).set t 0 = W 11 := set_self (by rw [s6 t (by omega)]; exact b5)
    refine ⟨W, B 1, ks, wh, ?_, ?_, h, rfl, rfl, fun c q => by omega, hw0⟩
    · unfold gX9_untie
      rw [bd_some (t_hasThing l0 p6 htt (by omega))]
      simp (disch := first | omega | (simp only [up_ap, List.length_set, Nat.reduceEqDiff, reduceIte]; omega)) only [bd_pr, pr_ap, jn_eq, lt_eq, bd_bd, bd_ite, ite_ap, bd_ld, bd_sv, bd_la, bd_sa, bd_ln, bd_rz0, bd_rz1, rz_n0, rz_n1, e_lit2, nI_z, nI_eq0, nI_0eq, nI_le0, nI_lt0, nI_0lt, nI_0le, e_001, e_n10, e_n1lt, bd_la0, bd_sa0, bd_rz00, rz_0, rz_1, b2i_0, Int32.add_zero, Int32.zero_add, nI_add, nI_pred2, pk_sub, pk_mul, pk_div, e_nz, nI_eq, nI_leI, nI_ltI, e_nm1, e_nm2, up_ap, gd_set_ne, gd_set_same, List.length_set, Nat.add_sub_cancel, Nat.reduceEqDiff, Nat.reduceAdd, Nat.reduceMul, Nat.reduceSub, Nat.reduceLT, Nat.reduceLeDiff, reduceIte, Nat.not_lt_zero, not_true_eq_false, not_false_eq_true, and_true, true_and, and_false, false_and, b3]
      rw [bd_some (f_hasCloth l0 p5 (x := -nI 1) (fun q => Int32.not_le.mpr neg_lt q.1))]
      simp (disch := first | omega | (simp only [up_ap, List.length_set, Nat.reduceEqDiff, reduceIte]; omega)) only [bd_pr, pr_ap, jn_eq, lt_eq, bd_bd, bd_ite, ite_ap, bd_ld, bd_sv, bd_la, bd_sa, bd_ln, bd_rz0, bd_rz1, rz_n0, rz_n1, e_lit2, nI_z, nI_eq0, nI_0eq, nI_le0, nI_lt0, nI_0lt, nI_0le, e_001, e_n10, e_n1lt, bd_la0, bd_sa0, bd_rz00, rz_0, rz_1, b2i_0, Int32.add_zero, Int32.zero_add, nI_add, nI_pred2, pk_sub, pk_mul, pk_div, e_nz, nI_eq, nI_leI, nI_ltI, e_nm1, e_nm2, up_ap, gd_set_ne, gd_set_same, List.length_set, Nat.add_sub_cancel, Nat.reduceEqDiff, Nat.reduceAdd, Nat.reduceMul, Nat.reduceSub, Nat.reduceLT, Nat.reduceLeDiff, reduceIte, Nat.not_lt_zero, not_true_eq_false, not_false_eq_true, and_true, true_and, and_false, false_and, t1, t2, up_self]
    · rw [up_self]
      unfold gX11_comesOut
      simp (disch := first | omega | (simp only [up_ap, List.length_set, Nat.reduceEqDiff, reduceIte]; omega)) only [bd_pr, pr_ap, jn_eq, lt_eq, bd_bd, bd_ite, ite_ap, bd_ld, bd_sv, bd_la, bd_sa, bd_ln, bd_rz0, bd_rz1, rz_n0, rz_n1, e_lit2, nI_z, nI_eq0, nI_0eq, nI_le0, nI_lt0, nI_0lt, nI_0le, e_001, e_n10, e_n1lt, bd_la0, bd_sa0, bd_rz00, rz_0, rz_1, b2i_0, Int32.add_zero, Int32.zero_add, nI_add, nI_pred2, pk_sub, pk_mul, pk_div, e_nz, nI_eq, nI_leI, nI_ltI, e_nm1, e_nm2, up_ap, gd_set_ne, gd_set_same, List.length_set, Nat.add_sub_cancel, Nat.reduceEqDiff, Nat.reduceAdd, Nat.reduceMul, Nat.reduceSub, Nat.reduceLT, Nat.reduceLeDiff, reduceIte, Nat.not_lt_zero, not_true_eq_false, not_false_eq_true, and_true, true_and, and_false, false_and, gX11_inCloth, b2]
  · obtain ⟨c, hc⟩ : ∃ c, wh t = c + 1 := ⟨wh t - 1, by omega⟩
    have hcc : c < nc := by
      have := (h.2.2.2.2.2.2.2.2.2.2.1 t htt).1
      omega
    have hm : t ∈ ks c := (h.2.2.2.2.2.2.2.2.2.2.2 c t hcc).mpr ⟨htt, hc⟩
    obtain ⟨p, hp, hpt⟩ := List.mem_iff_getElem.mp hm
    have hpt2 : (ks c).getD p 0 = t := by rw [List.getD_eq_getElem?_getD, List.getElem?_eq_getElem hp, ← hpt]; rfl
    have hk4 := (h.2.2.2.2.2.2.2.2.2.1 c hcc).1
    have hn1 := h.2.1.1
    have hn3 := h.2.1.2.2.1
    have hn4 := h.2.1.2.2.2
    have z7 := h.1.2.2.2.2.2.2.2.1
    refine ⟨_, _, _, _, p_untie h htt hcc hc hp hpt2, p_comesOut h htt hcc hc hp hpt2, WR_untie h htt hcc hc hp hpt2 (by rw [uk_len, z7]) (fun i hi => uk_in c p (ks c) (W 7) (by omega) _ hk4 i (fun _ => hi) (fun q => by omega)) (fun q hq => uk_out c p (ks c) (W 7) _ q (by omega)) (by simp only [List.length_set, sk_len]; exact hn1) (fun k => ?_), rfl, ?_, fun x hx => ?_, by simp⟩
    · have hu := sk_len c p (B 1) (4 - p)
      rw [gd_set (by simp only [List.length_set]; omega)]
      by_cases q1 : k = 143 + t
      · rw [if_pos q1, if_pos (Or.inr q1)]
      · rw [if_neg q1, gd_set (by omega)]
        by_cases q2 : k = 123 + t
        · rw [if_pos q2, if_pos (Or.inl q2)]
        · rw [if_neg q2, if_neg (by omega), sk_get c p (B 1) (by omega) (4 - p) (by omega)]
          by_cases q3 : 67 + 4 * c + p ≤ k ∧ k < 71 + 4 * c
          · rw [if_pos (show 67 + 4 * c + p ≤ k ∧ k < 67 + 4 * c + (p + (4 - p)) by omega), if_pos q3]
          · rw [if_neg (show ¬ (67 + 4 * c + p ≤ k ∧ k < 67 + 4 * c + (p + (4 - p))) by omega), if_neg q3]
    · have hu := sk_len c p (B 1) (4 - p)
      rw [gd_set_ne (by omega), gd_set_ne (by omega), sk_get c p (B 1) (by omega) (4 - p) (by omega), if_neg (by omega)]
    · have : x = c := by omega
      subst this
      simp only [if_true]
      rw [List.length_eraseIdx_of_lt hp]
      omega
