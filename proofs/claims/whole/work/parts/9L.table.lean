/-! PURE: table, the class lays it, key by key -/
def ly1B (x2 : Int32) : (Int32 → MM Int32) → Int32 → MM Int32 := fun (self2 : Int32 → MM Int32) (s3 : Int32) =>
  bd (ld 4 0) fun v4 =>
  (if v4 ≤ s3 then
  pr 0
  else
  bd (lf rh20 2 (gX8_get s3)) fun r5 =>
  bd (lf rh22 4 (gX6_looksFor x2 r5)) fun r6 =>
  bd (lf rh0 0 (gX6_placeBehind x2 r5 (r6 - 1))) fun r7 =>
  bd (lf rh22 4 (gX6_isPlace r7)) fun r8 =>
  jn (fun (a10 : Unit) =>
  lt (s3 + 1) fun y11 =>
  self2 y11) (fun j9 =>
  (if r8 = 0 then
  j9 ()
  else
  bd (la 3 r7) fun v12 =>
  (if v12 = ((-1)) then
  bd (sa 3 r7 r5) fun _ =>
  j9 ()
  else
  j9 ()))))
def ly1 (x2 : Int32) : MM Int32 := loopC 100000 (ly1B x2) 0
theorem ly_eq (x2 : Int32) : gX6_layTable x2 =
  bd (lf rh21 1 (gJ7_fill_53178 ((-1)))) fun r1 =>
  (ly1 x2) := rfl
noncomputable def tabs (ks : Nat → Nat) (n : Nat) : Nat → Nat → Nat := fo (fun i t => stp t n (ks i)) (fun _ => 0)
theorem rh21_inj : ∀ i j, i < 1 → j < 1 → rh21 i = rh21 j → i = j := fun i j hi hj _ => by omega
set_option maxHeartbeats 400000 in
theorem p_layTable {T : Bk} {n k : Nat} {ks : Nat → Nat} (hn : 0 < n) (hn6 : n ≤ 16) (h3 : (T 3).length = 16) (h4l : (T 4).length = 2) (h4 : (T 4).getD 0 0 = nI k) (h5 : (T 5).length = 12) (hk : k ≤ 12) (hks : ∀ i, i < k → (T 5).getD i 0 = nI (ks i) ∧ ks i ≤ 99) : Ht (gX6_layTable (nI n) T) (fun _ T' => ∃ l b, T' = up T 3 l ∧ TBL l b n (tabs ks n k)) := by
  obtain ⟨r0, A0, g0, rfl, l0, rfl, q1, q2⟩ := p_fill (A := fun i => T (rh21 i)) h3
  have g0' : gJ7_fill_53178 (-1) (fun i => T (rh21 i)) = some (0, up (fun i => T (rh21 i)) 0 l0) := g0
  rw [ly_eq, bd_lf _ g0', pu1 rh21_inj (i := 0) (by decide)]
  show Ht (ly1 (nI n) (up T 3 l0)) _
  unfold ly1
  refine loopI k (fun j s A' => s = nI j ∧ ∃ l b, A' = up T 3 l ∧ TBL l b n (tabs ks n j)) _ (fun j s A' hj hI => ?_) (fun s A' hI f => ?_) (by omega) ⟨rfl, l0, List.replicate 16 0, rfl, q1, by simp, fun p hp => ⟨Nat.zero_le _, by rw [q2 p (by omega)]; show -nI 1 = nI 0 - nI 1; decide, by rw [List.getD_eq_getElem?_getD, List.getElem?_replicate, if_pos (by omega)]; rfl⟩⟩
  · obtain ⟨rfl, l, b, rfl, hT⟩ := hI
    obtain ⟨e1, e2⟩ := hks j hj
    obtain ⟨t, ht⟩ : ∃ t, tabs ks n j = t := ⟨_, rfl⟩
    have hs : tabs ks n (j + 1) = stp t n (ks j) := by rw [← ht]; rfl
    rw [ht] at hT
    rw [hs]
    obtain ⟨x, hx⟩ : ∃ x, ks j = x := ⟨_, rfl⟩
    rw [hx] at e1 e2 ⊢
    have n1 : ¬ nI k ≤ nI j := fun z => by have := (nI_leI (by omega) (by omega)).mp z; omega
    have hlk := lkN_in (tab := t) (x := x) hn
    have hls := lst_lt (tab := t) (x := x) hn
    have hT0 := hT
    obtain ⟨ta, tb, tt⟩ := hT
    obtain ⟨u1, u2, -⟩ := tt _ hls
    have el : x + (lkN t n x - 1) = x + lkN t n x - 1 := by omega
    have gg : gX8_get (nI j) (fun i => up T 3 l (rh20 i)) = some (nI x, fun i => up T 3 l (rh20 i)) := by
      have := p_get (T := fun i => up T 3 l (rh20 i)) (i := j) (by show j < (T 5).length; omega) (by show (T 5).length < 2 ^ 31; omega)
      rw [show ((fun i => up T 3 l (rh20 i)) 1).getD j 0 = (T 5).getD j 0 from rfl, e1] at this
      exact this
    have gl : gX6_looksFor (nI n) (nI x) (fun i => up T 3 l (rh22 i)) = some (nI (lkN t n x), fun i => up T 3 l (rh22 i)) := p_lkN (A := fun i => up T 3 l (rh22 i)) (b := b) hT0 hn hn6 e2
    have gp : gX6_placeBehind (nI n) (nI x) (nI (lkN t n x) - 1) (fun i => up T 3 l (rh0 i)) = some (nI (lst t n x), fun i => up T 3 l (rh0 i)) := by
      rw [show (1 : Int32) = nI 1 from rfl, pk_sub (by omega), p_place hn hn6 e2 (by omega), el]; rfl
    have gi : gX6_isPlace (nI (lst t n x)) (fun i => up T 3 l (rh22 i)) = some (nI 1, fun i => up T 3 l (rh22 i)) := p_isPlace (A := fun i => up T 3 l (rh22 i)) ta (by omega)
    have hl3 : (up T 3 l 3).length = 16 := by rw [up_same]; exact ta
    have hB : ∀ f, ly1B (nI n) f (nI j) (up T 3 l) = if t (lst t n x) = 0 then f (nI (j + 1)) (up T 3 (l.set (lst t n x) (nI x))) else f (nI (j + 1)) (up T 3 l) := fun f => by
      unfold ly1B
      rw [bd_ld _ (show 0 < (up T 3 l 4).length by show 0 < (T 4).length; omega), show (up T 3 l 4).getD 0 0 = nI k from h4, if_neg n1, bd_lf0 _ gg, bd_lf0 _ gl, bd_lf0 _ gp, bd_lf0 _ gi]
      simp only [jn_eq]
      rw [if_neg (show ¬ nI 1 = (0 : Int32) by decide), bd_la _ (by omega) (by omega), up_same, u2]
      by_cases z0 : t (lst t n x) = 0
      · rw [if_pos z0, if_pos (show nI (t (lst t n x)) - nI 1 = (-1 : Int32) from (t_m1 _ (by omega)).mpr z0), bd_sa _ (by omega) (by omega), up_same, up_up]
        show f (nI j + nI 1) _ = _
        rw [nI_add]
      · rw [if_neg z0, if_neg (show ¬ nI (t (lst t n x)) - nI 1 = (-1 : Int32) from fun z => z0 ((t_m1 _ (by omega)).mp z))]
        show f (nI j + nI 1) _ = _
        rw [nI_add]
    by_cases z0 : t (lst t n x) = 0
    · exact ⟨nI (j + 1), _, fun f => by rw [hB f, if_pos z0], rfl, _, _, rfl, TBL_put hT0 hn hn6 e2 z0⟩
    · exact ⟨nI (j + 1), _, fun f => by rw [hB f, if_neg z0], rfl, l, b, rfl, by rw [stp_no z0]; exact hT0⟩
  · obtain ⟨rfl, l, b, rfl, hT⟩ := hI
    unfold ly1B
    rw [bd_ld _ (show 0 < (up T 3 l 4).length by show 0 < (T 4).length; omega), show (up T 3 l 4).getD 0 0 = nI k from h4, if_pos (Int32.le_refl _)]
    exact ⟨0, _, rfl, l, b, rfl, hT⟩
