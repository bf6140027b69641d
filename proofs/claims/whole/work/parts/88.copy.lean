/-! PURE: worlds copied, kept, taken back -/
theorem cpl_full {f g : List Int32} (h : f.length = g.length) : cpl f g 0 0 g.length = f := by
  unfold cpl
  apply List.ext_getElem
  · simp [h]
  · intro i h1 h2
    simp only [List.getElem_map, List.getElem_range]
    rw [if_pos (by simp at h1; omega), Nat.zero_add, Nat.sub_zero, List.getD_eq_getElem?_getD, List.getElem?_eq_getElem h2]; rfl
theorem bd_cpy {β : Type} {si di n : Nat} (K : Unit → MM β) {A : Bk} (h1 : (A si).length = n) (h2 : (A di).length = n) (hn : n < 2 ^ 31) : bd (cpy si 0 di 0 (nI n)) K A = K () (up A di (A si)) := by
  have e : cpy si 0 di 0 (nI n) A = some ((), up A di (A si)) := by
    unfold cpy
    have c0 : (0 : Int32).toNatClampNeg = 0 := rfl
    rw [c0, nI_clamp hn, if_neg ?_]
    · rw [← h2, cpl_full (by rw [h1, h2])]
    · intro q
      rcases q with q | q | q | q | q
      · exact absurd q (by decide)
      · exact absurd q (by decide)
      · exact nI_pos hn q
      · omega
      · omega
  rw [bd_some e]
theorem p_copyW {T : Bk} (h : WL T) (g : WL (fun i => T (13 + i))) : ∃ T', gX9_copy T = some (0, T') ∧ (∀ i, 1 ≤ i → i < 13 → T' i = T (13 + i)) ∧ (T' 0).length = 19 ∧ (∀ k, 1 ≤ k → k < 7 → (T' 0).getD k 0 = (T 13).getD k 0) ∧ (T' 0).getD 0 0 = (T 0).getD 0 0 ∧ ∀ i, 13 ≤ i → T' i = T i := by
  obtain ⟨l0, l1, l2, l3, l4, l5, l6, l7, l8, l9, l10, l11, l12⟩ := h
  unfold WL at g
  simp only [Nat.reduceAdd] at g
  obtain ⟨g0, g1, g2, g3, g4, g5, g6, g7, g8, g9, g10, g11, g12⟩ := g
  refine ⟨up (up (up (up (up (up (up (up (up (up (up (up (up T 0 (((((((T 0).set 1 ((T 13).getD 1 0)).set 2 ((T 13).getD 2 0)).set 3 ((T 13).getD 3 0)).set 4 ((T 13).getD 4 0)).set 5 ((T 13).getD 5 0)).set 6 ((T 13).getD 6 0))) 1 (T 14)) 2 (T 15)) 3 (T 16)) 4 (T 17)) 5 (T 18)) 6 (T 19)) 7 (T 20)) 8 (T 21)) 9 (T 22)) 10 (T 23)) 11 (T 24)) 12 (T 25), ?_, ?_, ?_, ?_, ?_, ?_⟩
  · unfold gX9_copy
    simp (disch := first | omega | (simp only [up_ap, List.length_set, Nat.reduceEqDiff, reduceIte] <;> omega)) only [bd_pr, pr_ap, jn_eq, lt_eq, bd_bd, bd_ite, ite_ap, bd_ld, bd_sv, bd_la, bd_sa, bd_ln, bd_rz0, bd_rz1, rz_n0, rz_n1, e_lit2, nI_z, nI_eq0, nI_0eq, nI_le0, nI_lt0, nI_0lt, nI_0le, e_001, e_n10, e_n1lt, bd_la0, bd_sa0, bd_rz00, rz_0, rz_1, b2i_0, Int32.add_zero, Int32.zero_add, nI_add, nI_pred2, pk_sub, pk_mul, pk_div, e_nz, nI_eq, nI_leI, nI_ltI, e_nm1, e_nm2, up_ap, gd_set_ne, gd_set_same, List.length_set, Nat.add_sub_cancel, Nat.reduceEqDiff, Nat.reduceAdd, Nat.reduceMul, Nat.reduceSub, Nat.reduceLT, Nat.reduceLeDiff, reduceIte, Nat.not_lt_zero, not_true_eq_false, not_false_eq_true, and_true, true_and, and_false, false_and, up_up]
    refine (bd_cpy (n := 12) _ ?_ ?_ (by decide)).trans ?_
    · exact g1
    · exact l1
    refine (bd_cpy (n := 12) _ ?_ ?_ (by decide)).trans ?_
    · exact g2
    · exact l2
    refine (bd_cpy (n := 12) _ ?_ ?_ (by decide)).trans ?_
    · exact g3
    · exact l3
    refine (bd_cpy (n := 14) _ ?_ ?_ (by decide)).trans ?_
    · exact g4
    · exact l4
    refine (bd_cpy (n := 14) _ ?_ ?_ (by decide)).trans ?_
    · exact g5
    · exact l5
    refine (bd_cpy (n := 14) _ ?_ ?_ (by decide)).trans ?_
    · exact g6
    · exact l6
    refine (bd_cpy (n := 56) _ ?_ ?_ (by decide)).trans ?_
    · exact g7
    · exact l7
    refine (bd_cpy (n := 20) _ ?_ ?_ (by decide)).trans ?_
    · exact g8
    · exact l8
    refine (bd_cpy (n := 20) _ ?_ ?_ (by decide)).trans ?_
    · exact g9
    · exact l9
    refine (bd_cpy (n := 20) _ ?_ ?_ (by decide)).trans ?_
    · exact g10
    · exact l10
    refine (bd_cpy (n := 20) _ ?_ ?_ (by decide)).trans ?_
    · exact g11
    · exact l11
    refine (bd_cpy (n := 20) _ ?_ ?_ (by decide)).trans ?_
    · exact g12
    · exact l12
    rfl
  · intro i h1 h2
    rcases (show i = 1 ∨ i = 2 ∨ i = 3 ∨ i = 4 ∨ i = 5 ∨ i = 6 ∨ i = 7 ∨ i = 8 ∨ i = 9 ∨ i = 10 ∨ i = 11 ∨ i = 12 by omega) with q | q | q | q | q | q | q | q | q | q | q | q <;> subst q <;> rfl
  · simp only [up_ap, Nat.reduceEqDiff, reduceIte, List.length_set]
    exact l0
  · intro k h1 h2
    simp only [up_ap, Nat.reduceEqDiff, reduceIte]
    rcases (show k = 1 ∨ k = 2 ∨ k = 3 ∨ k = 4 ∨ k = 5 ∨ k = 6 by omega) with q | q | q | q | q | q <;> subst q <;> (repeat (first | rw [gd_set_same (by first | omega | (simp only [List.length_set]; omega))] | rw [gd_set_ne (by decide)]))
  · simp only [up_ap, Nat.reduceEqDiff, reduceIte]
    rw [gd_set_ne (by decide), gd_set_ne (by decide), gd_set_ne (by decide), gd_set_ne (by decide), gd_set_ne (by decide), gd_set_ne (by decide)]
  · intro i hi
    rw [up_ne _ _ (by omega), up_ne _ _ (by omega), up_ne _ _ (by omega), up_ne _ _ (by omega), up_ne _ _ (by omega), up_ne _ _ (by omega), up_ne _ _ (by omega), up_ne _ _ (by omega), up_ne _ _ (by omega), up_ne _ _ (by omega), up_ne _ _ (by omega), up_ne _ _ (by omega), up_ne _ _ (by omega)]
theorem WR_cp {W V : Bk} {nw ow du : List Int32} {np nc nt : Nat} {ks : Nat → List Nat} {wh : Nat → Nat} (h : WR V nw ow du np nc nt ks wh) (e : ∀ i, 1 ≤ i → i < 13 → W i = V i) (l : (W 0).length = 19) (z : ∀ k, 1 ≤ k → k < 7 → (W 0).getD k 0 = (V 0).getD k 0) : WR W nw ow du np nc nt ks wh := by
  unfold WR WL at *
  rw [e 1 (by decide) (by decide), e 2 (by decide) (by decide), e 3 (by decide) (by decide), e 4 (by decide) (by decide), e 5 (by decide) (by decide), e 6 (by decide) (by decide), e 7 (by decide) (by decide), e 8 (by decide) (by decide), e 9 (by decide) (by decide), e 10 (by decide) (by decide), e 11 (by decide) (by decide), e 12 (by decide) (by decide), l, z 1 (by decide) (by decide), z 2 (by decide) (by decide), z 3 (by decide) (by decide), z 4 (by decide) (by decide), z 5 (by decide) (by decide), z 6 (by decide) (by decide)]
  have := h.1.1
  rw [this] at h
  exact h
theorem rh31_inj : ∀ i j, i < 26 → j < 26 → rh31 i = rh31 j → i = j := inj_d (by decide +kernel)
theorem rv0_inj : ∀ w, w ∈ wls → ∀ i j, i < 26 → j < 26 → rv0 w i = rv0 w j → i = j := fun w hw i j hi hj h => by
  have key : ∀ w, w ∈ wls → ∀ i, i < 26 → ∀ j, j < 26 → rv0 w i = rv0 w j → i = j := by decide +kernel
  exact key w hw i hi j hj h
theorem rv0_v : ∀ w, w ∈ wls → ∀ i, i < 13 → rv0 w i = w + i ∧ rv0 w (13 + i) = 2 + i := by decide +kernel
theorem rv2_inj : ∀ w, w ∈ wls → ∀ i j, i < 26 → j < 26 → rv2 w i = rv2 w j → i = j := fun w hw i j hi hj h => by
  have key : ∀ w, w ∈ wls → ∀ i, i < 26 → ∀ j, j < 26 → rv2 w i = rv2 w j → i = j := by decide +kernel
  exact key w hw i hi j hj h
theorem rv2_v : ∀ w, w ∈ wls → ∀ i, i < 13 → rv2 w i = 2 + i ∧ rv2 w (13 + i) = w + i := by decide +kernel
theorem rh31_v : ∀ i, i < 13 → rh31 i = 99 + i ∧ rh31 (13 + i) = 2 + i := by decide +kernel
/-- one world copied to another, in the whole -/
theorem cp_all {A : Bk} {ρ : Nat → Nat} {a b : Nat} (inj : ∀ i j, i < 26 → j < 26 → ρ i = ρ j → i = j) (hv : ∀ i, i < 13 → ρ i = a + i ∧ ρ (13 + i) = b + i) (ha : WL (fun i => A (a + i))) (hb : WL (fun i => A (b + i))) :
    ∃ A', lf ρ 26 gX9_copy A = some (0, A') ∧ (∀ i, 1 ≤ i → i < 13 → A' (a + i) = A (b + i)) ∧ (A' a).length = 19 ∧ (∀ k, 1 ≤ k → k < 7 → (A' a).getD k 0 = (A b).getD k 0) ∧ (A' a).getD 0 0 = (A a).getD 0 0 ∧ ∀ j, ¬ (a ≤ j ∧ j < a + 13) → A' j = A j := by
  have e1 : ∀ i, i < 13 → A (ρ i) = A (a + i) := fun i hi => by rw [(hv i hi).1]
  have e2 : ∀ i, i < 13 → A (ρ (13 + i)) = A (b + i) := fun i hi => by rw [(hv i hi).2]
  have w1 : WL (fun i => A (ρ i)) := by
    unfold WL at *
    simp only [e1 0 (by decide), e1 1 (by decide), e1 2 (by decide), e1 3 (by decide), e1 4 (by decide), e1 5 (by decide), e1 6 (by decide), e1 7 (by decide), e1 8 (by decide), e1 9 (by decide), e1 10 (by decide), e1 11 (by decide), e1 12 (by decide)]
    exact ha
  have w2 : WL (fun i => (fun i => A (ρ i)) (13 + i)) := by
    unfold WL at *
    simp only [e2 0 (by decide), e2 1 (by decide), e2 2 (by decide), e2 3 (by decide), e2 4 (by decide), e2 5 (by decide), e2 6 (by decide), e2 7 (by decide), e2 8 (by decide), e2 9 (by decide), e2 10 (by decide), e2 11 (by decide), e2 12 (by decide)]
    exact hb
  obtain ⟨T', g1, g2, g3, g4, g5, g6⟩ := p_copyW w1 w2
  have pin : ∀ i, i < 26 → pu ρ 26 T' A (ρ i) = T' i := fun i hi => pu_in inj hi T' A
  have a0 : pu ρ 26 T' A a = T' 0 := by
    have := pin 0 (by decide)
    rwa [(hv 0 (by decide)).1] at this
  refine ⟨pu ρ 26 T' A, lf_run g1, fun i h1 h2 => ?_, by rw [a0]; exact g3, fun k h1 h2 => ?_, ?_, fun j hj => ?_⟩
  · have := pin i (by omega)
    rw [(hv i h2).1] at this
    rw [this, g2 i h1 h2]
    exact e2 i h2
  · rw [a0, g4 k h1 h2]
    show (A (ρ (13 + 0))).getD k 0 = _
    rw [(hv 0 (by decide)).2]; rfl
  · rw [a0, g5]
    show (A (ρ 0)).getD 0 0 = _
    rw [(hv 0 (by decide)).1]; rfl
  · unfold pu
    cases hq : ixo ρ 26 j with
    | none => rfl
    | some i =>
      obtain ⟨hi, rfl⟩ := ixo_some hq
      rcases Nat.lt_or_ge i 13 with q | q
      · exact absurd (by rw [(hv i q).1]; omega) hj
      · show T' i = A (ρ i)
        exact g6 i q
theorem cp_WR {A A' : Bk} {a b : Nat} {nw ow du : List Int32} {np nc nt : Nat} {ks : Nat → List Nat} {wh : Nat → Nat} (h : WR (fun i => A (b + i)) nw ow du np nc nt ks wh) (e1 : ∀ i, 1 ≤ i → i < 13 → A' (a + i) = A (b + i)) (e2 : (A' a).length = 19) (e3 : ∀ k, 1 ≤ k → k < 7 → (A' a).getD k 0 = (A b).getD k 0) : WR (fun i => A' (a + i)) nw ow du np nc nt ks wh := WR_cp h e1 e2 e3
/-- the reference's rows kept ahead: one row in, one row out -/
def rowIn (l w : List Int32) (u : Nat) : Nat → List Int32 := fo (fun i x => x.set (183 * u + i) (w.getD i 0)) l
theorem rowIn_len (l w : List Int32) (u n : Nat) : (rowIn l w u n).length = l.length := fo_len (fun i x => List.length_set) l n
theorem rowIn_get (l w : List Int32) (u : Nat) (hl : 183 * u + 183 ≤ l.length) : ∀ n, n ≤ 183 → ∀ q, (rowIn l w u n).getD q 0 = if 183 * u ≤ q ∧ q < 183 * u + n then w.getD (q - 183 * u) 0 else l.getD q 0
  | 0, _, q => by rw [if_neg (by omega)]; rfl
  | n + 1, hn, q => by
    have hq := rowIn_len l w u n
    show ((rowIn l w u n).set (183 * u + n) (w.getD n 0)).getD q 0 = _
    by_cases h1 : q = 183 * u + n
    · subst h1
      rw [gd_set_same (by omega), if_pos (by omega), show 183 * u + n - 183 * u = n by omega]
    · rw [gd_set_ne (fun z => h1 z.symm), rowIn_get l w u hl n (by omega)]
      by_cases h2 : 183 * u ≤ q ∧ q < 183 * u + n
      · rw [if_pos h2, if_pos (by omega)]
      · rw [if_neg h2, if_neg (by omega)]
def shf (l : List Int32) : Nat → List Int32 := fo (fun i x => x.set i (x.getD (i + 183) 0)) l
theorem shf_len (l : List Int32) (n : Nat) : (shf l n).length = l.length := fo_len (fun i x => List.length_set) l n
theorem shf_get (l : List Int32) (hl : l.length = 1098) : ∀ n, n ≤ 915 → ∀ q, (shf l n).getD q 0 = if q < n then l.getD (q + 183) 0 else l.getD q 0
  | 0, _, q => by rw [if_neg (by omega)]; rfl
  | n + 1, hn, q => by
    have hq := shf_len l n
    show ((shf l n).set n ((shf l n).getD (n + 183) 0)).getD q 0 = _
    by_cases h1 : q = n
    · subst h1
      rw [gd_set_same (by omega), if_pos (by omega), shf_get l hl q (by omega), if_neg (by omega)]
    · rw [gd_set_ne (fun z => h1 z.symm), shf_get l hl n (by omega)]
      by_cases h2 : q < n
      · rw [if_pos h2, if_pos (by omega)]
      · rw [if_neg h2, if_neg (by omega)]
theorem rowN_get {l : List Int32} {i k : Nat} (hk : k < 183) : (rowN l i).getD k 0 = l.getD (183 * i + k) 0 := by
  unfold rowN
  rw [List.getD_eq_getElem?_getD, List.getD_eq_getElem?_getD, List.getElem?_take_of_lt hk, List.getElem?_drop]
theorem rowN_len {l : List Int32} {i : Nat} (hl : 183 * i + 183 ≤ l.length) : (rowN l i).length = 183 := by
  unfold rowN
  rw [List.length_take, List.length_drop]; omega
theorem gd_ext {l l' : List Int32} (h : l.length = l'.length) (e : ∀ k, k < l.length → l.getD k 0 = l'.getD k 0) : l = l' := by
  apply List.ext_getElem h
  intro i h1 h2
  have := e i h1
  rw [List.getD_eq_getElem?_getD, List.getD_eq_getElem?_getD, List.getElem?_eq_getElem h1, List.getElem?_eq_getElem h2] at this
  exact this
theorem rowN_in_same {l w : List Int32} {u : Nat} (hl : 183 * u + 183 ≤ l.length) (hw : w.length = 183) : rowN (rowIn l w u 183) u = w := by
  have hq := rowIn_len l w u 183
  have h1 : (rowN (rowIn l w u 183) u).length = 183 := rowN_len (by omega)
  refine gd_ext (by rw [h1, hw]) (fun k hk => ?_)
  rw [rowN_get (by omega), rowIn_get l w u hl 183 (Nat.le_refl _), if_pos (by omega), show 183 * u + k - 183 * u = k by omega]
theorem rowN_in_ne {l w : List Int32} {u i : Nat} (hl : 183 * u + 183 ≤ l.length) (hi : 183 * i + 183 ≤ l.length) (hne : i ≠ u) : rowN (rowIn l w u 183) i = rowN l i := by
  have hq := rowIn_len l w u 183
  have h1 : (rowN (rowIn l w u 183) i).length = 183 := rowN_len (by omega)
  have h2 : (rowN l i).length = 183 := rowN_len (by omega)
  refine gd_ext (by rw [h1, h2]) (fun k hk => ?_)
  rw [rowN_get (by omega), rowN_get (by omega), rowIn_get l w u hl 183 (Nat.le_refl _), if_neg (by omega)]
theorem rowN_shf {l : List Int32} {i : Nat} (hl : l.length = 1098) (hi : i < 5) : rowN (shf l 915) i = rowN l (i + 1) := by
  have hq := shf_len l 915
  have h1 : (rowN (shf l 915) i).length = 183 := rowN_len (by omega)
  have h2 : (rowN l (i + 1)).length = 183 := rowN_len (by omega)
  refine gd_ext (by rw [h1, h2]) (fun k hk => ?_)
  rw [rowN_get (by omega), rowN_get (by omega), shf_get l hl 915 (Nat.le_refl _), if_pos (by omega), show 183 * i + k + 183 = 183 * (i + 1) + k by omega]
