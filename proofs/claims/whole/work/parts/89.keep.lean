/-! PURE: kept for undo -/
theorem wls_d : ∀ a, a ∈ wls → ∀ b, b ∈ wls → a ≠ b → a + 13 ≤ b ∨ b + 13 ≤ a := by decide
def keepT : MM Int32 :=
  bd (ld 0 5) fun v4 =>
  bd (la 112 v4) fun v5 =>
  inL v5.toNatClampNeg [133, 146, 159, 172, 185, 198] (
  bd (lf (rv0 v5.toNatClampNeg) 26 gX9_copy) fun r7 =>
  bd (ld 0 5) fun v8 =>
  bd (sv 0 5 (v8 + 1)) fun _ =>
  pr 0)
def ka2B (j2 : Unit → MM Int32) : (Int32 → MM Int32) → Int32 → MM Int32 := fun (self11 : Int32 → MM Int32) (s12 : Int32) =>
  bd (ld 0 3) fun v13 =>
  (if (183 * v13) ≤ s12 then
  j2 ()
  else
  bd (la 2 (s12 + 183)) fun v14 =>
  bd (sa 2 s12 v14) fun _ =>
  lt (s12 + 1) fun y15 =>
  self11 y15)
def ka2 (j2 : Unit → MM Int32) : MM Int32 := loopC 100000 (ka2B j2) 0
def ka1B : (Int32 → MM Int32) → Int32 → MM Int32 := fun (self4 : Int32 → MM Int32) (s5 : Int32) =>
  (if 183 ≤ s5 then
  bd (ld 0 3) fun v6 =>
  bd (sv 0 3 (v6 + 1)) fun _ =>
  pr 0
  else
  bd (ld 0 3) fun v7 =>
  bd (la 1 s5) fun v8 =>
  bd (sa 2 ((183 * v7) + s5) v8) fun _ =>
  lt (s5 + 1) fun y9 =>
  self4 y9)
def ka1 : MM Int32 := loopC 100000 (ka1B) 0
theorem ka_eq : gX11_keepsAhead =
  bd (ld 0 3) fun v1 =>
  jn (fun (a3 : Unit) =>
  (ka1)) (fun j2 =>
  (if v1 = 6 then
  bd (ld 0 3) fun v10 =>
  bd (sv 0 3 (v10 - 1)) fun _ =>
  (ka2 j2)
  else
  j2 ())) := rfl
theorem inL_t {α : Type} {x : Nat} {os : List Nat} (h : x ∈ os) (K : MM α) (A : Bk) : inL x os K A = K A := by unfold inL; rw [if_pos h]
theorem rh24_w : ∀ i, i < 49 → rh24 i < 99 ∧ rh24 i ≠ 0 := by decide +kernel
/-- room for one more: the copy is made -/
theorem keep_core {A B : Bk} {np nc nt u : Nat} {ks : Nat → List Nat} {wh : Nat → Nat} (h : R A B) (hH : HH (fun i => A (rh24 i)) B np nc nt ks wh) (hU : UD A B np nc nt) (hu : u < 6) (hau : (A 0).getD 5 0 = nI u) :
    ∃ A' B', keepT A = some (0, A') ∧ ka1 B = some (0, B') ∧ R A' B' ∧ HH (fun i => A' (rh24 i)) B' np nc nt ks wh ∧ UD A' B' np nc nt ∧ B' 1 = B 1 := by
  have hb0 := R_B0 h
  obtain ⟨-, hT, hI, hA, hB⟩ := id h
  obtain ⟨hW, hw0⟩ := R_W hH
  obtain ⟨a0, a112, b2, u', hu', e5, e3, pm, hpm, hwl, hinj, hkept⟩ := hU
  have huu : u = u' := (nI_eq (by omega) (by omega)).mp (hau.symm.trans e5)
  subst huu
  obtain ⟨hm, em⟩ := hpm u hu
  have hr := wls_r _ hm
  have hWa : WL (fun i => A (2 + i)) := by
    have := hW.1
    exact this
  have hWR : WR (fun i => A (2 + i)) (B 1) (B 4) (B 5) np nc nt ks wh := WR_congr hW (fun i hi => by
    show A (2 + i) = A (rh23 i)
    rw [rh23_v i hi])
  have hn1 : (B 1).length = 183 := hW.2.1.1
  obtain ⟨A1, c1, c2, c3, c4, c5, c6⟩ := cp_all (rv0_inj _ hm) (rv0_v _ hm) (hwl _ hm) hWa
  have k0 : A1 0 = A 0 := c6 0 (by omega)
  have k112 : A1 112 = A 112 := c6 112 (by omega)
  obtain ⟨A', hA'⟩ : ∃ z, z = up A1 0 ((A 0).set 5 (nI (u + 1))) := ⟨_, rfl⟩
  obtain ⟨B', hB'⟩ : ∃ z, z = up (up B 2 (rowIn (B 2) (B 1) u 183)) 0 ((B 0).set 3 (nI (u + 1))) := ⟨_, rfl⟩
  have aj : ∀ j, j ≠ 0 → ¬ (pm u ≤ j ∧ j < pm u + 13) → A' j = A j := fun j h1 h2 => by rw [hA', up_ne _ _ h1]; exact c6 j h2
  have aw : ∀ j, j ≠ 0 → A' j = A1 j := fun j h1 => by rw [hA', up_ne _ _ h1]
  have bj : ∀ i, i ≠ 0 → i ≠ 2 → B' i = B i := fun i h1 h2 => by rw [hB', up_ne _ _ h1, up_ne _ _ h2]
  have bs : ∀ k, k ≠ 3 → (B' 0).getD k 0 = (B 0).getD k 0 := fun k hk => by rw [hB', up_same, gd_set_ne (fun q => hk q.symm)]
  have hHH : HH (fun i => A' (rh24 i)) B' np nc nt ks wh := HH_HE hH ⟨fun i hi _ _ => aj _ (rh24_w i hi).2 (by have := (rh24_w i hi).1; omega), by show (A' (rh24 9)).length = _; rw [aj _ (rh24_w 9 (by decide)).2 (by have := (rh24_w 9 (by decide)).1; omega)], by show (A' (rh24 35)).length = _; rw [aj _ (rh24_w 35 (by decide)).2 (by have := (rh24_w 35 (by decide)).1; omega)], fun i hi => bj i (by rintro rfl; exact absurd hi (by decide)) (by rintro rfl; exact absurd hi (by decide)), by rw [bj 20 (by decide) (by decide)], by rw [bj 21 (by decide) (by decide)], by rw [hB', up_same, List.length_set], fun k hk => bs k (by rintro rfl; exact absurd hk (by decide))⟩
  have hUD : UD A' B' np nc nt := by
    refine ⟨by rw [hA', up_same, List.length_set]; exact a0, by rw [aj 112 (by decide) (by omega)]; exact a112, by rw [hB', up_ne _ _ (by decide), up_same, rowIn_len]; exact b2, u + 1, by omega, by rw [hA', up_same, gd_set_same (by omega)], by rw [hB', up_same, gd_set_same (by omega)], pm, fun i hi => ⟨(hpm i hi).1, by rw [aj 112 (by decide) (by omega)]; exact (hpm i hi).2⟩, fun w hw => ?_, hinj, fun i hi => ?_⟩
    · have hrw := wls_r w hw
      by_cases hq : w = pm u
      · subst hq
        have := (cp_WR (a := pm u) hWR c2 c3 c4).1
        unfold WL at *
        simp only [aw (pm u + 0) (by omega), aw (pm u + 1) (by omega), aw (pm u + 2) (by omega), aw (pm u + 3) (by omega), aw (pm u + 4) (by omega), aw (pm u + 5) (by omega), aw (pm u + 6) (by omega), aw (pm u + 7) (by omega), aw (pm u + 8) (by omega), aw (pm u + 9) (by omega), aw (pm u + 10) (by omega), aw (pm u + 11) (by omega), aw (pm u + 12) (by omega)]
        exact this
      · have hd := wls_d w hw _ hm hq
        have := hwl w hw
        unfold WL at *
        simp only [aj (w + 0) (by omega) (by omega), aj (w + 1) (by omega) (by omega), aj (w + 2) (by omega) (by omega), aj (w + 3) (by omega) (by omega), aj (w + 4) (by omega) (by omega), aj (w + 5) (by omega) (by omega), aj (w + 6) (by omega) (by omega), aj (w + 7) (by omega) (by omega), aj (w + 8) (by omega) (by omega), aj (w + 9) (by omega) (by omega), aj (w + 10) (by omega) (by omega), aj (w + 11) (by omega) (by omega), aj (w + 12) (by omega) (by omega)]
        exact this
    · rw [bj 4 (by decide) (by decide), bj 5 (by decide) (by decide)]
      have hb22 : B' 2 = rowIn (B 2) (B 1) u 183 := by rw [hB', up_ne _ _ (by decide), up_same]
      rw [hb22]
      by_cases hq : i = u
      · subst hq
        refine ⟨ks, wh, ?_⟩
        rw [rowN_in_same (by omega) hn1]
        exact WR_congr (cp_WR (a := pm i) hWR c2 c3 c4) (fun j hj => aw _ (by omega))
      · obtain ⟨ks2, wh2, hW2⟩ := hkept i (by omega)
        have hmi := (hpm i (by omega)).1
        have hri := wls_r _ hmi
        have hd := wls_d _ hmi _ hm (fun q => hq (hinj i u (by omega) hu q))
        refine ⟨ks2, wh2, ?_⟩
        rw [rowN_in_ne (by omega) (by omega) hq]
        exact WR_congr hW2 (fun j hj => aj _ (by omega) (by omega))
  refine ⟨A', B', ?_, ?_, ⟨⟨np, nc, nt, ks, wh, hHH, hUD⟩, ?_, ?_, ?_, ?_⟩, hHH, hUD, bj 1 (by decide) (by decide)⟩
  · unfold keepT
    have hlt : pm u < 2 ^ 31 := by omega
    have e5' : (A1 0).getD 5 0 = nI u := by rw [k0]; exact hau
    have l0' : (A1 0).length = 10 := by rw [k0]; exact a0
    simp (disch := first | omega | (simp only [up_ap, List.length_set, Nat.reduceEqDiff, reduceIte] <;> omega)) only [bd_pr, pr_ap, jn_eq, lt_eq, bd_bd, bd_ite, ite_ap, bd_ld, bd_sv, bd_la, bd_sa, bd_ln, bd_rz0, bd_rz1, rz_n0, rz_n1, e_lit2, nI_z, nI_eq0, nI_0eq, nI_le0, nI_lt0, nI_0lt, nI_0le, e_001, e_n10, e_n1lt, bd_la0, bd_sa0, bd_rz00, rz_0, rz_1, b2i_0, Int32.add_zero, Int32.zero_add, nI_add, nI_pred2, pk_sub, pk_mul, pk_div, e_nz, nI_eq, nI_leI, nI_ltI, e_nm1, e_nm2, up_ap, gd_set_ne, gd_set_same, List.length_set, Nat.add_sub_cancel, Nat.reduceEqDiff, Nat.reduceAdd, Nat.reduceMul, Nat.reduceSub, Nat.reduceLT, Nat.reduceLeDiff, reduceIte, Nat.not_lt_zero, not_true_eq_false, not_false_eq_true, and_true, true_and, and_false, false_and, hau, em]
    have hm' : pm u ∈ [133, 146, 159, 172, 185, 198] := hm
    rw [nI_clamp hlt, inL_t hm', bd_some c1]
    simp (disch := first | omega | (simp only [up_ap, List.length_set, Nat.reduceEqDiff, reduceIte, l0'] <;> omega)) only [bd_pr, pr_ap, jn_eq, lt_eq, bd_bd, bd_ite, ite_ap, bd_ld, bd_sv, bd_la, bd_sa, bd_ln, bd_rz0, bd_rz1, rz_n0, rz_n1, e_lit2, nI_z, nI_eq0, nI_0eq, nI_le0, nI_lt0, nI_0lt, nI_0le, e_001, e_n10, e_n1lt, bd_la0, bd_sa0, bd_rz00, rz_0, rz_1, b2i_0, Int32.add_zero, Int32.zero_add, nI_add, nI_pred2, pk_sub, pk_mul, pk_div, e_nz, nI_eq, nI_leI, nI_ltI, e_nm1, e_nm2, up_ap, gd_set_ne, gd_set_same, List.length_set, Nat.add_sub_cancel, Nat.reduceEqDiff, Nat.reduceAdd, Nat.reduceMul, Nat.reduceSub, Nat.reduceLT, Nat.reduceLeDiff, reduceIte, Nat.not_lt_zero, not_true_eq_false, not_false_eq_true, and_true, true_and, and_false, false_and, e5']
    rw [hA', k0]
  · unfold ka1
    refine loopF 183 (fun j => nI j) (fun j => up B 2 (rowIn (B 2) (B 1) u j)) rfl (up_self B 2) (fun j hj self => ?_) (fun self => ?_) (by omega)
    · have hl2 := rowIn_len (B 2) (B 1) u j
      have n1 : ¬ 183 ≤ j := by omega
      have e : rowIn (B 2) (B 1) u (j + 1) = (rowIn (B 2) (B 1) u j).set (183 * u + j) ((B 1).getD j 0) := rfl
      rw [e]
      unfold ka1B
      simp (disch := first | omega | (simp only [up_ap, List.length_set, Nat.reduceEqDiff, reduceIte, hl2] <;> omega)) only [bd_pr, pr_ap, jn_eq, lt_eq, bd_bd, bd_ite, ite_ap, bd_ld, bd_sv, bd_la, bd_sa, bd_ln, bd_rz0, bd_rz1, rz_n0, rz_n1, e_lit2, nI_z, nI_eq0, nI_0eq, nI_le0, nI_lt0, nI_0lt, nI_0le, e_001, e_n10, e_n1lt, bd_la0, bd_sa0, bd_rz00, rz_0, rz_1, b2i_0, Int32.add_zero, Int32.zero_add, nI_add, nI_pred2, pk_sub, pk_mul, pk_div, e_nz, nI_eq, nI_leI, nI_ltI, e_nm1, e_nm2, up_ap, gd_set_ne, gd_set_same, List.length_set, Nat.add_sub_cancel, Nat.reduceEqDiff, Nat.reduceAdd, Nat.reduceMul, Nat.reduceSub, Nat.reduceLT, Nat.reduceLeDiff, reduceIte, Nat.not_lt_zero, not_true_eq_false, not_false_eq_true, and_true, true_and, and_false, false_and, n1, e3, up_up]
    · unfold ka1B
      simp (disch := first | omega | (simp only [up_ap, List.length_set, Nat.reduceEqDiff, reduceIte] <;> omega)) only [bd_pr, pr_ap, jn_eq, lt_eq, bd_bd, bd_ite, ite_ap, bd_ld, bd_sv, bd_la, bd_sa, bd_ln, bd_rz0, bd_rz1, rz_n0, rz_n1, e_lit2, nI_z, nI_eq0, nI_0eq, nI_le0, nI_lt0, nI_0lt, nI_0le, e_001, e_n10, e_n1lt, bd_la0, bd_sa0, bd_rz00, rz_0, rz_1, b2i_0, Int32.add_zero, Int32.zero_add, nI_add, nI_pred2, pk_sub, pk_mul, pk_div, e_nz, nI_eq, nI_leI, nI_ltI, e_nm1, e_nm2, up_ap, gd_set_ne, gd_set_same, List.length_set, Nat.add_sub_cancel, Nat.reduceEqDiff, Nat.reduceAdd, Nat.reduceMul, Nat.reduceSub, Nat.reduceLT, Nat.reduceLeDiff, reduceIte, Nat.not_lt_zero, not_true_eq_false, not_false_eq_true, and_true, true_and, and_false, false_and, e3, Nat.le_refl]
      rw [hB']
  · exact TP_congr hT (aj 113 (by decide) (by omega)) (aj 114 (by decide) (by omega)) (bj 7 (by decide) (by decide)) (bs 13 (by decide)) (bs 33 (by decide)) (bs 34 (by decide))
  · exact IM_congr hI (by rw [hA', up_same, gd_set_ne (by decide)]) (fun j h1 h2 => aj j (by omega) (by omega)) (bj 37 (by decide) (by decide)) (bs 65 (by decide))
  · exact SCA_congr hA (fun j h1 h2 => by rw [aj j (by omega) (by omega)]) (by rw [aj 99 (by decide) (by omega)])
  · have hz : ∀ j, j ∈ [3, 16, 23, 24, 25, 26, 27, 28, 31, 34, 36] → j ≠ 0 ∧ j ≠ 2 := by decide
    exact SCB_congr hB (fun j hj => by rw [bj j (hz j hj).1 (hz j hj).2]) (bj 8 (by decide) (by decide)) (bj 33 (by decide) (by decide))
set_option maxHeartbeats 400000 in
theorem keep_h {A B : Bk} {np nc nt : Nat} {ks : Nat → List Nat} {wh : Nat → Nat} (h : R A B) (hH : HH (fun i => A (rh24 i)) B np nc nt ks wh) (hU : UD A B np nc nt) :
    ∃ A' B', gX10_keepForUndo A = some (0, A') ∧ gX11_keepsAhead B = some (0, B') ∧ R A' B' ∧ HH (fun i => A' (rh24 i)) B' np nc nt ks wh ∧ UD A' B' np nc nt ∧ B' 1 = B 1 := by
  have hb0 := R_B0 h
  obtain ⟨-, hT, hI, hA, hB⟩ := id h
  obtain ⟨a0, a112, b2, u, hu, e5, e3, pm, hpm, hwl, hinj, hkept⟩ := id hU
  by_cases hu6 : u = 6
  · subst hu6
    obtain ⟨m0, z0⟩ := hpm 0 (by decide)
    obtain ⟨m1, z1⟩ := hpm 1 (by decide)
    obtain ⟨m2, z2⟩ := hpm 2 (by decide)
    obtain ⟨m3, z3⟩ := hpm 3 (by decide)
    obtain ⟨m4, z4⟩ := hpm 4 (by decide)
    obtain ⟨m5, z5⟩ := hpm 5 (by decide)
    obtain ⟨lr, hlr⟩ : ∃ z, z = ((((((A 112).set 0 (nI (pm 1))).set 1 (nI (pm 2))).set 2 (nI (pm 3))).set 3 (nI (pm 4))).set 4 (nI (pm 5))).set 5 (nI (pm 0)) := ⟨_, rfl⟩
    obtain ⟨A1, hA1⟩ : ∃ z, z = up (up A 112 lr) 0 ((A 0).set 5 (nI 5)) := ⟨_, rfl⟩
    obtain ⟨B1, hB1⟩ : ∃ z, z = up (up B 0 ((B 0).set 3 (nI 5))) 2 (shf (B 2) 915) := ⟨_, rfl⟩
    have aj : ∀ j, j ≠ 0 → j ≠ 112 → A1 j = A j := fun j h1 h2 => by rw [hA1, up_ne _ _ h1, up_ne _ _ h2]
    have bj : ∀ i, i ≠ 0 → i ≠ 2 → B1 i = B i := fun i h1 h2 => by rw [hB1, up_ne _ _ h2, up_ne _ _ h1]
    have b10 : B1 0 = (B 0).set 3 (nI 5) := by rw [hB1, up_ne _ _ (by decide), up_same]
    have bs : ∀ k, k ≠ 3 → (B1 0).getD k 0 = (B 0).getD k 0 := fun k hk => by rw [b10, gd_set_ne (fun q => hk q.symm)]
    have hHH : HH (fun i => A1 (rh24 i)) B1 np nc nt ks wh := HH_HE hH ⟨fun i hi _ _ => aj _ (rh24_w i hi).2 (by have := (rh24_w i hi).1; omega), by show (A1 (rh24 9)).length = _; rw [aj _ (rh24_w 9 (by decide)).2 (by have := (rh24_w 9 (by decide)).1; omega)], by show (A1 (rh24 35)).length = _; rw [aj _ (rh24_w 35 (by decide)).2 (by have := (rh24_w 35 (by decide)).1; omega)], fun i hi => bj i (by rintro rfl; exact absurd hi (by decide)) (by rintro rfl; exact absurd hi (by decide)), by rw [bj 20 (by decide) (by decide)], by rw [bj 21 (by decide) (by decide)], by rw [b10, List.length_set], fun k hk => bs k (by rintro rfl; exact absurd hk (by decide))⟩
    have hUD : UD A1 B1 np nc nt := by
      refine ⟨by rw [hA1, up_same, List.length_set]; exact a0, by rw [hA1, up_ne _ _ (by decide), up_same, hlr]; simp only [List.length_set]; exact a112, by rw [hB1, up_same, shf_len]; exact b2, 5, by omega, by rw [hA1, up_same, gd_set_same (by omega)], by rw [b10, gd_set_same (by omega)], fun i => if i = 5 then pm 0 else pm (i + 1), fun i hi => ?_, fun w hw => ?_, fun i j hi hj hij => ?_, fun i hi => ?_⟩
      · have e112 : A1 112 = lr := by rw [hA1, up_ne _ _ (by decide), up_same]
        rw [e112, hlr]
        rcases (show i = 0 ∨ i = 1 ∨ i = 2 ∨ i = 3 ∨ i = 4 ∨ i = 5 by omega) with q | q | q | q | q | q <;> subst q
        · exact ⟨m1, by simp only [Nat.reduceEqDiff, reduceIte]; (repeat (first | rw [gd_set_same (by simp only [List.length_set]; omega)] | rw [gd_set_same (by omega)] | rw [gd_set_ne (by decide)]))⟩
        · exact ⟨m2, by simp only [Nat.reduceEqDiff, reduceIte]; (repeat (first | rw [gd_set_same (by simp only [List.length_set]; omega)] | rw [gd_set_same (by omega)] | rw [gd_set_ne (by decide)]))⟩
        · exact ⟨m3, by simp only [Nat.reduceEqDiff, reduceIte]; (repeat (first | rw [gd_set_same (by simp only [List.length_set]; omega)] | rw [gd_set_same (by omega)] | rw [gd_set_ne (by decide)]))⟩
        · exact ⟨m4, by simp only [Nat.reduceEqDiff, reduceIte]; (repeat (first | rw [gd_set_same (by simp only [List.length_set]; omega)] | rw [gd_set_same (by omega)] | rw [gd_set_ne (by decide)]))⟩
        · exact ⟨m5, by simp only [Nat.reduceEqDiff, reduceIte]; (repeat (first | rw [gd_set_same (by simp only [List.length_set]; omega)] | rw [gd_set_same (by omega)] | rw [gd_set_ne (by decide)]))⟩
        · exact ⟨m0, by simp only [reduceIte]; (repeat (first | rw [gd_set_same (by simp only [List.length_set]; omega)] | rw [gd_set_same (by omega)] | rw [gd_set_ne (by decide)]))⟩
      · have hrw := wls_r w hw
        have := hwl w hw
        unfold WL at *
        simp only [aj (w + 0) (by omega) (by omega), aj (w + 1) (by omega) (by omega), aj (w + 2) (by omega) (by omega), aj (w + 3) (by omega) (by omega), aj (w + 4) (by omega) (by omega), aj (w + 5) (by omega) (by omega), aj (w + 6) (by omega) (by omega), aj (w + 7) (by omega) (by omega), aj (w + 8) (by omega) (by omega), aj (w + 9) (by omega) (by omega), aj (w + 10) (by omega) (by omega), aj (w + 11) (by omega) (by omega), aj (w + 12) (by omega) (by omega)]
        exact this
      · have hij : (if i = 5 then pm 0 else pm (i + 1)) = (if j = 5 then pm 0 else pm (j + 1)) := hij
        by_cases q1 : i = 5
        · by_cases q2 : j = 5
          · omega
          · rw [if_pos q1, if_neg q2] at hij
            have := hinj 0 (j + 1) (by omega) (by omega) hij
            omega
        · by_cases q2 : j = 5
          · rw [if_neg q1, if_pos q2] at hij
            have := hinj (i + 1) 0 (by omega) (by omega) hij
            omega
          · rw [if_neg q1, if_neg q2] at hij
            have := hinj (i + 1) (j + 1) (by omega) (by omega) hij
            omega
      · obtain ⟨ks2, wh2, hW2⟩ := hkept (i + 1) (by omega)
        have hmi := (hpm (i + 1) (by omega)).1
        have hri := wls_r _ hmi
        have e2 : B1 2 = shf (B 2) 915 := by rw [hB1, up_same]
        rw [bj 4 (by decide) (by decide), bj 5 (by decide) (by decide), e2, rowN_shf b2 hi]
        refine ⟨ks2, wh2, WR_congr hW2 (fun j hj => ?_)⟩
        show A1 ((if i = 5 then pm 0 else pm (i + 1)) + j) = _
        rw [if_neg (by omega)]
        exact aj _ (by omega) (by omega)
    have hR1 : R A1 B1 := by
      refine ⟨⟨np, nc, nt, ks, wh, hHH, hUD⟩, ?_, ?_, ?_, ?_⟩
      · exact TP_congr hT (aj 113 (by decide) (by decide)) (aj 114 (by decide) (by decide)) (bj 7 (by decide) (by decide)) (bs 13 (by decide)) (bs 33 (by decide)) (bs 34 (by decide))
      · exact IM_congr hI (by rw [hA1, up_same, gd_set_ne (by decide)]) (fun j h1 h2 => aj j (by omega) (by omega)) (bj 37 (by decide) (by decide)) (bs 65 (by decide))
      · exact SCA_congr hA (fun j h1 h2 => by
          rcases Nat.lt_or_ge j 112 with q | q
          · rw [aj j (by omega) (by omega)]
          · rcases Nat.lt_or_ge 112 j with q2 | q2
            · rw [aj j (by omega) (by omega)]
            · have : j = 112 := by omega
              subst this
              rw [hA1, up_ne _ _ (by decide), up_same, hlr]
              simp only [List.length_set]) (by rw [aj 99 (by decide) (by decide)])
      · have hz : ∀ j, j ∈ [3, 16, 23, 24, 25, 26, 27, 28, 31, 34, 36] → j ≠ 0 ∧ j ≠ 2 := by decide
        exact SCB_congr hB (fun j hj => by rw [bj j (hz j hj).1 (hz j hj).2]) (bj 8 (by decide) (by decide)) (bj 33 (by decide) (by decide))
    obtain ⟨A', B', g1, g2, g3, g4, g5, g6⟩ := keep_core hR1 hHH hUD (u := 5) (by decide) (by rw [hA1, up_same, gd_set_same (by omega)])
    refine ⟨A', B', ?_, ?_, g3, g4, g5, by rw [g6]; exact bj 1 (by decide) (by decide)⟩
    · have hr0 := wls_r _ m0
      have hr1 := wls_r _ m1
      have hr2 := wls_r _ m2
      have hr3 := wls_r _ m3
      have hr4 := wls_r _ m4
      have hr5 := wls_r _ m5
      have f0 := fun (K : MM Int32) (A : Bk) => inL_t (α := Int32) m0 K A
      have f1 := fun (K : MM Int32) (A : Bk) => inL_t (α := Int32) m1 K A
      have f2 := fun (K : MM Int32) (A : Bk) => inL_t (α := Int32) m2 K A
      have f3 := fun (K : MM Int32) (A : Bk) => inL_t (α := Int32) m3 K A
      have f4 := fun (K : MM Int32) (A : Bk) => inL_t (α := Int32) m4 K A
      have f5 := fun (K : MM Int32) (A : Bk) => inL_t (α := Int32) m5 K A
      unfold wls at f0 f1 f2 f3 f4 f5
      have e : gX10_keepForUndo A = keepT A1 := by
        show bd (ld 0 5) _ A = _
        obtain ⟨N, hN⟩ : ∃ N : Nat, (100000 : Nat) = N + 1 + 1 + 1 + 1 + 1 + 1 := ⟨99994, rfl⟩
        have hunf : gX10_keepForUndo = bd (ld 0 5) fun v1 => jn (fun (_ : Unit) => keepT) (fun j2 => (if v1 < 6 then j2 () else bd (la 112 0) fun v9 => loopC 100000 (fun (self10 : Int32 → MM Int32) (s11 : Int32) => (if 6 ≤ s11 then inL v9.toNatClampNeg [133, 146, 159, 172, 185, 198] (bd (sa 112 5 v9) fun _ => bd (sv 0 5 5) fun _ => j2 ()) else bd (la 112 s11) fun v13 => inL v13.toNatClampNeg [133, 146, 159, 172, 185, 198] (bd (sa 112 (s11 - 1) v13) fun _ => lt (s11 + 1) fun y15 => self10 y15))) 1)) := rfl
        show gX10_keepForUndo A = _
        rw [hunf, hN]
        simp only [loopC_s]
        simp (disch := first | omega | (simp only [up_ap, List.length_set, Nat.reduceEqDiff, reduceIte] <;> omega)) only [bd_pr, pr_ap, jn_eq, lt_eq, bd_bd, bd_ite, ite_ap, bd_ld, bd_sv, bd_la, bd_sa, bd_ln, bd_rz0, bd_rz1, rz_n0, rz_n1, e_lit2, nI_z, nI_eq0, nI_0eq, nI_le0, nI_lt0, nI_0lt, nI_0le, e_001, e_n10, e_n1lt, bd_la0, bd_sa0, bd_rz00, rz_0, rz_1, b2i_0, Int32.add_zero, Int32.zero_add, nI_add, nI_pred2, pk_sub, pk_mul, pk_div, e_nz, nI_eq, nI_leI, nI_ltI, e_nm1, e_nm2, up_ap, gd_set_ne, gd_set_same, List.length_set, Nat.add_sub_cancel, Nat.reduceEqDiff, Nat.reduceAdd, Nat.reduceMul, Nat.reduceSub, Nat.reduceLT, Nat.reduceLeDiff, reduceIte, Nat.not_lt_zero, not_true_eq_false, not_false_eq_true, and_true, true_and, and_false, false_and, e5, z0, z1, z2, z3, z4, z5, nI_clamp, f0, f1, f2, f3, f4, f5, up_up]
        rw [hA1, hlr, up_comm A (i := 112) (j := 0) (by decide)]
        first | done | rfl | (rw [up_comm A (i := 0) (j := 112) (by decide)])
      rw [e]; exact g1
    · rw [ka_eq]
      have e3' : (B 0).getD 3 0 = nI 6 := e3
      have u0 : ((B 0).set 3 (nI 5)).getD 3 0 = nI 5 := gd_set_same (by omega)
      simp (disch := first | omega | (simp only [up_ap, List.length_set, Nat.reduceEqDiff, reduceIte] <;> omega)) only [bd_pr, pr_ap, jn_eq, lt_eq, bd_bd, bd_ite, ite_ap, bd_ld, bd_sv, bd_la, bd_sa, bd_ln, bd_rz0, bd_rz1, rz_n0, rz_n1, e_lit2, nI_z, nI_eq0, nI_0eq, nI_le0, nI_lt0, nI_0lt, nI_0le, e_001, e_n10, e_n1lt, bd_la0, bd_sa0, bd_rz00, rz_0, rz_1, b2i_0, Int32.add_zero, Int32.zero_add, nI_add, nI_pred2, pk_sub, pk_mul, pk_div, e_nz, nI_eq, nI_leI, nI_ltI, e_nm1, e_nm2, up_ap, gd_set_ne, gd_set_same, List.length_set, Nat.add_sub_cancel, Nat.reduceEqDiff, Nat.reduceAdd, Nat.reduceMul, Nat.reduceSub, Nat.reduceLT, Nat.reduceLeDiff, reduceIte, Nat.not_lt_zero, not_true_eq_false, not_false_eq_true, and_true, true_and, and_false, false_and, e3, up_up]
      unfold ka2
      refine loopF 915 (fun j => nI j) (fun j => up (up B 0 ((B 0).set 3 (nI 5))) 2 (shf (B 2) j)) rfl (up_self (up B 0 ((B 0).set 3 (nI 5))) 2) (fun j hj self => ?_) (fun self => ?_) (by omega)
      · have hl2 := shf_len (B 2) j
        have n1 : ¬ 915 ≤ j := by omega
        have e : shf (B 2) (j + 1) = (shf (B 2) j).set j ((shf (B 2) j).getD (j + 183) 0) := rfl
        rw [e]
        unfold ka2B
        simp (disch := first | omega | (simp only [up_ap, List.length_set, Nat.reduceEqDiff, reduceIte, hl2] <;> omega)) only [bd_pr, pr_ap, jn_eq, lt_eq, bd_bd, bd_ite, ite_ap, bd_ld, bd_sv, bd_la, bd_sa, bd_ln, bd_rz0, bd_rz1, rz_n0, rz_n1, e_lit2, nI_z, nI_eq0, nI_0eq, nI_le0, nI_lt0, nI_0lt, nI_0le, e_001, e_n10, e_n1lt, bd_la0, bd_sa0, bd_rz00, rz_0, rz_1, b2i_0, Int32.add_zero, Int32.zero_add, nI_add, nI_pred2, pk_sub, pk_mul, pk_div, e_nz, nI_eq, nI_leI, nI_ltI, e_nm1, e_nm2, up_ap, gd_set_ne, gd_set_same, List.length_set, Nat.add_sub_cancel, Nat.reduceEqDiff, Nat.reduceAdd, Nat.reduceMul, Nat.reduceSub, Nat.reduceLT, Nat.reduceLeDiff, reduceIte, Nat.not_lt_zero, not_true_eq_false, not_false_eq_true, and_true, true_and, and_false, false_and, n1, e3, up_up]
      · rw [← hB1]
        have u3 : (B1 0).getD 3 0 = nI 5 := by rw [b10, gd_set_same (by omega)]
        have l3 : 3 < (B1 0).length := by rw [b10, List.length_set]; omega
        unfold ka2B
        rw [bd_ld _ l3, u3]
        simp only [jn_eq]
        rw [if_pos (show (183 : Int32) * nI 5 ≤ nI 915 by decide)]
        exact g2
  · obtain ⟨A', B', g1, g2, g3, g4, g5, g6⟩ := keep_core h hH hU (u := u) (by omega) e5
    refine ⟨A', B', ?_, ?_, g3, g4, g5, g6⟩
    · have hunf : gX10_keepForUndo = bd (ld 0 5) fun v1 => jn (fun (_ : Unit) => keepT) (fun j2 => (if v1 < 6 then j2 () else bd (la 112 0) fun v9 => loopC 100000 (fun (self10 : Int32 → MM Int32) (s11 : Int32) => (if 6 ≤ s11 then inL v9.toNatClampNeg [133, 146, 159, 172, 185, 198] (bd (sa 112 5 v9) fun _ => bd (sv 0 5 5) fun _ => j2 ()) else bd (la 112 s11) fun v13 => inL v13.toNatClampNeg [133, 146, 159, 172, 185, 198] (bd (sa 112 (s11 - 1) v13) fun _ => lt (s11 + 1) fun y15 => self10 y15))) 1)) := rfl
      have n6 : u < 6 := by omega
      rw [hunf, bd_ld _ (by omega), e5]
      simp only [jn_eq]
      rw [if_pos (show nI u < 6 from nI_lt (b := 6) n6 (by decide))]
      exact g1
    · rw [ka_eq, bd_ld _ (by omega), e3]
      simp only [jn_eq]
      rw [if_neg (show ¬ nI u = 6 from fun q => hu6 ((nI_eq (b := 6) (by omega) (by decide)).mp q))]
      exact g2
