/-! PURE: how a world and the reference's row of it change together -/
theorem up_len {W : Bk} {i : Nat} {l : List Int32} (h : l.length = (W i).length) (j : Nat) : (up W i l j).length = (W j).length := by
  rw [up_ap]
  by_cases hj : j = i
  · rw [if_pos hj, h, hj]
  · rw [if_neg hj]
theorem WL_up {W : Bk} {i : Nat} {l : List Int32} (h : WL W) (hl : l.length = (W i).length) : WL (up W i l) := by
  unfold WL at *
  simp only [up_len hl]
  exact h
def P0 (z nw : List Int32) (np nc nt : Nat) : Prop := z.getD 1 0 = nw.getD 1 0 ∧ z.getD 2 0 = nw.getD 0 0 ∧ z.getD 3 0 = nw.getD 2 0 ∧ z.getD 4 0 = nI np ∧ z.getD 5 0 = nI nc ∧ z.getD 6 0 = nI nt
theorem P0_out {z nw : List Int32} {np nc nt k : Nat} {v : Int32} (h : P0 z nw np nc nt) (hk : 3 ≤ k) : P0 z (nw.set k v) np nc nt := by
  unfold P0 at *
  rw [gd_set_ne (by omega), gd_set_ne (by omega), gd_set_ne (by omega)]
  exact h
theorem LN_out {nw : List Int32} {k : Nat} {v : Int32} (h : ∃ ln : Nat, ln ≤ 150 ∧ nw.getD 2 0 = nI ln) (hk : k ≠ 2) : ∃ ln : Nat, ln ≤ 150 ∧ (nw.set k v).getD 2 0 = nI ln := by
  rw [gd_set_ne hk]; exact h
theorem WI_out {nw : List Int32} {k np nc : Nat} {v : Int32} (h : ∀ c, c < nc → ∃ w : Nat, w < np ∧ nw.getD (39 + c) 0 = nI w) (hc : nc ≤ 14) (hk : k < 39 ∨ 53 ≤ k) : ∀ c, c < nc → ∃ w : Nat, w < np ∧ (nw.set k v).getD (39 + c) 0 = nI w := fun c hcc => by
  rw [gd_set_ne (by omega)]; exact h c hcc
theorem RK_tight {k6 k7 k10 nw : List Int32} {nc nt t : Nat} {v : Int32} {ks : Nat → List Nat} {wh : Nat → Nat} (h : RK k6 k7 k10 nw nc nt ks wh) (hc : nc ≤ 14) (ht : nt ≤ 20) (hw : wh t ≠ 0) : RK k6 k7 k10 (nw.set (143 + t) v) nc nt ks wh := by
  obtain ⟨h1, h2, h3⟩ := h
  refine ⟨fun c hcc => ?_, fun s hs => ?_, h3⟩
  · obtain ⟨a1, a2, a3, a4, a5⟩ := h1 c hcc
    exact ⟨a1, a2, a3, a4, fun i hi => by rw [gd_set_ne (by omega)]; exact a5 i hi⟩
  · obtain ⟨a1, a2, a3, a4⟩ := h2 s hs
    refine ⟨a1, by rw [gd_set_ne (by omega)]; exact a2, a3, fun q => ?_⟩
    have hne : t ≠ s := fun e => hw (by rw [e]; exact q)
    rw [gd_set_ne (by omega)]
    exact a4 q
theorem WR_mind {W : Bk} {nw ow du : List Int32} {np nc nt : Nat} {ks : Nat → List Nat} {wh : Nat → Nat} (h : WR W nw ow du np nc nt ks wh) {p : Nat} (hp : p < 12) (v : Int32) : WR (up W 1 ((W 1).set p v)) (nw.set (3 + p) v) ow du np nc nt ks wh := by
  obtain ⟨hl, ⟨hn1, hn2, hn3, hn4⟩, h0, he, ⟨s1, s2, s3, s4, s5, s6, s7⟩, hod, ho, hd, hw, hk⟩ := h
  obtain ⟨l0, l1, l2, l3, l4, l5, l6, l7, l8, l9, l10, l11, l12⟩ := id hl
  exact ⟨WL_up hl List.length_set, ⟨by rw [List.length_set]; exact hn1, hn2, hn3, hn4⟩, P0_out h0 (by omega), LN_out he (by omega), ⟨Sw_in s1 hp l1 (by omega), Sw_out s2 (by omega), Sw_out s3 (by omega), Sw_out s4 (by omega), Sw_out s5 (by omega), Sw_out s6 (by omega), Sw_out s7 (by omega)⟩, hod, ho, hd, WI_out hw hn3 (by omega), RK_out hk hn3 hn4 (by omega)⟩
theorem WR_kept {W : Bk} {nw ow du : List Int32} {np nc nt : Nat} {ks : Nat → List Nat} {wh : Nat → Nat} (h : WR W nw ow du np nc nt ks wh) {p : Nat} (hp : p < 12) (v : Int32) : WR (up W 2 ((W 2).set p v)) (nw.set (15 + p) v) ow du np nc nt ks wh := by
  obtain ⟨hl, ⟨hn1, hn2, hn3, hn4⟩, h0, he, ⟨s1, s2, s3, s4, s5, s6, s7⟩, hod, ho, hd, hw, hk⟩ := h
  obtain ⟨l0, l1, l2, l3, l4, l5, l6, l7, l8, l9, l10, l11, l12⟩ := id hl
  exact ⟨WL_up hl List.length_set, ⟨by rw [List.length_set]; exact hn1, hn2, hn3, hn4⟩, P0_out h0 (by omega), LN_out he (by omega), ⟨Sw_out s1 (by omega), Sw_in s2 hp l2 (by omega), Sw_out s3 (by omega), Sw_out s4 (by omega), Sw_out s5 (by omega), Sw_out s6 (by omega), Sw_out s7 (by omega)⟩, hod, ho, hd, WI_out hw hn3 (by omega), RK_out hk hn3 hn4 (by omega)⟩
theorem WR_forgot {W : Bk} {nw ow du : List Int32} {np nc nt : Nat} {ks : Nat → List Nat} {wh : Nat → Nat} (h : WR W nw ow du np nc nt ks wh) {p : Nat} (hp : p < 12) (v : Int32) : WR (up W 3 ((W 3).set p v)) (nw.set (27 + p) v) ow du np nc nt ks wh := by
  obtain ⟨hl, ⟨hn1, hn2, hn3, hn4⟩, h0, he, ⟨s1, s2, s3, s4, s5, s6, s7⟩, hod, ho, hd, hw, hk⟩ := h
  obtain ⟨l0, l1, l2, l3, l4, l5, l6, l7, l8, l9, l10, l11, l12⟩ := id hl
  exact ⟨WL_up hl List.length_set, ⟨by rw [List.length_set]; exact hn1, hn2, hn3, hn4⟩, P0_out h0 (by omega), LN_out he (by omega), ⟨Sw_out s1 (by omega), Sw_out s2 (by omega), Sw_in s3 hp l3 (by omega), Sw_out s4 (by omega), Sw_out s5 (by omega), Sw_out s6 (by omega), Sw_out s7 (by omega)⟩, hod, ho, hd, WI_out hw hn3 (by omega), RK_out hk hn3 hn4 (by omega)⟩
theorem WR_worn {W : Bk} {nw ow du : List Int32} {np nc nt : Nat} {ks : Nat → List Nat} {wh : Nat → Nat} (h : WR W nw ow du np nc nt ks wh) {p : Nat} (hp : p < 14) (v : Int32) : WR (up W 5 ((W 5).set p v)) (nw.set (53 + p) v) ow du np nc nt ks wh := by
  obtain ⟨hl, ⟨hn1, hn2, hn3, hn4⟩, h0, he, ⟨s1, s2, s3, s4, s5, s6, s7⟩, hod, ho, hd, hw, hk⟩ := h
  obtain ⟨l0, l1, l2, l3, l4, l5, l6, l7, l8, l9, l10, l11, l12⟩ := id hl
  exact ⟨WL_up hl List.length_set, ⟨by rw [List.length_set]; exact hn1, hn2, hn3, hn4⟩, P0_out h0 (by omega), LN_out he (by omega), ⟨Sw_out s1 (by omega), Sw_out s2 (by omega), Sw_out s3 (by omega), Sw_out s4 (by omega), Sw_in s5 hp l5 (by omega), Sw_out s6 (by omega), Sw_out s7 (by omega)⟩, hod, ho, hd, WI_out hw hn3 (by omega), RK_out hk hn3 hn4 (by omega)⟩
theorem WR_tight {W : Bk} {nw ow du : List Int32} {np nc nt : Nat} {ks : Nat → List Nat} {wh : Nat → Nat} (h : WR W nw ow du np nc nt ks wh) {p : Nat} (hp : p < 20) (hq : wh p ≠ 0) (v : Int32) : WR (up W 11 ((W 11).set p v)) (nw.set (143 + p) v) ow du np nc nt ks wh := by
  obtain ⟨hl, ⟨hn1, hn2, hn3, hn4⟩, h0, he, ⟨s1, s2, s3, s4, s5, s6, s7⟩, hod, ho, hd, hw, hk⟩ := h
  obtain ⟨l0, l1, l2, l3, l4, l5, l6, l7, l8, l9, l10, l11, l12⟩ := id hl
  exact ⟨WL_up hl List.length_set, ⟨by rw [List.length_set]; exact hn1, hn2, hn3, hn4⟩, P0_out h0 (by omega), LN_out he (by omega), ⟨Sw_out s1 (by omega), Sw_out s2 (by omega), Sw_out s3 (by omega), Sw_out s4 (by omega), Sw_out s5 (by omega), Sw_in s6 hp l11 (by omega), Sw_out s7 (by omega)⟩, hod, ho, hd, WI_out hw hn3 (by omega), RK_tight hk hn3 hn4 hq⟩
theorem WR_is {W : Bk} {nw ow du : List Int32} {np nc nt : Nat} {ks : Nat → List Nat} {wh : Nat → Nat} (h : WR W nw ow du np nc nt ks wh) {p : Nat} (hp : p < 20) (v : Int32) : WR (up W 12 ((W 12).set p v)) (nw.set (163 + p) v) ow du np nc nt ks wh := by
  obtain ⟨hl, ⟨hn1, hn2, hn3, hn4⟩, h0, he, ⟨s1, s2, s3, s4, s5, s6, s7⟩, hod, ho, hd, hw, hk⟩ := h
  obtain ⟨l0, l1, l2, l3, l4, l5, l6, l7, l8, l9, l10, l11, l12⟩ := id hl
  exact ⟨WL_up hl List.length_set, ⟨by rw [List.length_set]; exact hn1, hn2, hn3, hn4⟩, P0_out h0 (by omega), LN_out he (by omega), ⟨Sw_out s1 (by omega), Sw_out s2 (by omega), Sw_out s3 (by omega), Sw_out s4 (by omega), Sw_out s5 (by omega), Sw_out s6 (by omega), Sw_in s7 hp l12 (by omega)⟩, hod, ho, hd, WI_out hw hn3 (by omega), RK_out hk hn3 hn4 (by omega)⟩
theorem WR_with {W : Bk} {nw ow du : List Int32} {np nc nt : Nat} {ks : Nat → List Nat} {wh : Nat → Nat} (h : WR W nw ow du np nc nt ks wh) {c w : Nat} (hc : c < 14) (hww : w < np) : WR (up W 4 ((W 4).set c (nI w))) (nw.set (39 + c) (nI w)) ow du np nc nt ks wh := by
  obtain ⟨hl, ⟨hn1, hn2, hn3, hn4⟩, h0, he, ⟨s1, s2, s3, s4, s5, s6, s7⟩, hod, ho, hd, hw, hk⟩ := h
  obtain ⟨l0, l1, l2, l3, l4, l5, l6, l7, l8, l9, l10, l11, l12⟩ := id hl
  refine ⟨WL_up hl List.length_set, ⟨by rw [List.length_set]; exact hn1, hn2, hn3, hn4⟩, P0_out h0 (by omega), LN_out he (by omega), ⟨Sw_out s1 (by omega), Sw_out s2 (by omega), Sw_out s3 (by omega), Sw_in s4 hc l4 (by omega), Sw_out s5 (by omega), Sw_out s6 (by omega), Sw_out s7 (by omega)⟩, hod, ho, hd, fun x hx => ?_, RK_out hk hn3 hn4 (by omega)⟩
  by_cases hq : x = c
  · subst hq
    exact ⟨w, hww, gd_set_same (by omega)⟩
  · rw [gd_set_ne (by omega)]; exact hw x hx
theorem WR_draw {W : Bk} {nw ow du : List Int32} {np nc nt : Nat} {ks : Nat → List Nat} {wh : Nat → Nat} (h : WR W nw ow du np nc nt ks wh) (v : Int32) : WR (up W 0 ((W 0).set 1 v)) (nw.set 1 v) ow du np nc nt ks wh := by
  obtain ⟨hl, ⟨hn1, hn2, hn3, hn4⟩, h0, he, ⟨s1, s2, s3, s4, s5, s6, s7⟩, hod, ho, hd, hw, hk⟩ := h
  obtain ⟨l0, l1, l2, l3, l4, l5, l6, l7, l8, l9, l10, l11, l12⟩ := id hl
  obtain ⟨p1, p2, p3, p4, p5, p6⟩ := h0
  have q0 : P0 ((W 0).set 1 v) (nw.set 1 v) np nc nt := ⟨by rw [gd_set_same (by omega), gd_set_same (by omega)], by rw [gd_set_ne (by omega), gd_set_ne (by omega)]; exact p2, by rw [gd_set_ne (by omega), gd_set_ne (by omega)]; exact p3, by rw [gd_set_ne (by omega)]; exact p4, by rw [gd_set_ne (by omega)]; exact p5, by rw [gd_set_ne (by omega)]; exact p6⟩
  exact ⟨WL_up hl List.length_set, ⟨by rw [List.length_set]; exact hn1, hn2, hn3, hn4⟩, q0, LN_out he (by omega), ⟨Sw_out s1 (by omega), Sw_out s2 (by omega), Sw_out s3 (by omega), Sw_out s4 (by omega), Sw_out s5 (by omega), Sw_out s6 (by omega), Sw_out s7 (by omega)⟩, hod, ho, hd, WI_out hw hn3 (by omega), RK_out hk hn3 hn4 (by omega)⟩
theorem WR_day {W : Bk} {nw ow du : List Int32} {np nc nt : Nat} {ks : Nat → List Nat} {wh : Nat → Nat} (h : WR W nw ow du np nc nt ks wh) (v : Int32) : WR (up W 0 ((W 0).set 2 v)) (nw.set 0 v) ow du np nc nt ks wh := by
  obtain ⟨hl, ⟨hn1, hn2, hn3, hn4⟩, h0, he, ⟨s1, s2, s3, s4, s5, s6, s7⟩, hod, ho, hd, hw, hk⟩ := h
  obtain ⟨l0, l1, l2, l3, l4, l5, l6, l7, l8, l9, l10, l11, l12⟩ := id hl
  obtain ⟨p1, p2, p3, p4, p5, p6⟩ := h0
  have q0 : P0 ((W 0).set 2 v) (nw.set 0 v) np nc nt := ⟨by rw [gd_set_ne (by omega), gd_set_ne (by omega)]; exact p1, by rw [gd_set_same (by omega), gd_set_same (by omega)], by rw [gd_set_ne (by omega), gd_set_ne (by omega)]; exact p3, by rw [gd_set_ne (by omega)]; exact p4, by rw [gd_set_ne (by omega)]; exact p5, by rw [gd_set_ne (by omega)]; exact p6⟩
  exact ⟨WL_up hl List.length_set, ⟨by rw [List.length_set]; exact hn1, hn2, hn3, hn4⟩, q0, LN_out he (by omega), ⟨Sw_out s1 (by omega), Sw_out s2 (by omega), Sw_out s3 (by omega), Sw_out s4 (by omega), Sw_out s5 (by omega), Sw_out s6 (by omega), Sw_out s7 (by omega)⟩, hod, ho, hd, WI_out hw hn3 (by omega), RK_out hk hn3 hn4 (by omega)⟩
theorem WR_line {W : Bk} {nw ow du : List Int32} {np nc nt : Nat} {ks : Nat → List Nat} {wh : Nat → Nat} (h : WR W nw ow du np nc nt ks wh) {ln : Nat} (hln : ln ≤ 150) : WR (up W 0 ((W 0).set 3 (nI ln))) (nw.set 2 (nI ln)) ow du np nc nt ks wh := by
  obtain ⟨hl, ⟨hn1, hn2, hn3, hn4⟩, h0, he, ⟨s1, s2, s3, s4, s5, s6, s7⟩, hod, ho, hd, hw, hk⟩ := h
  obtain ⟨l0, l1, l2, l3, l4, l5, l6, l7, l8, l9, l10, l11, l12⟩ := id hl
  obtain ⟨p1, p2, p3, p4, p5, p6⟩ := h0
  have q0 : P0 ((W 0).set 3 (nI ln)) (nw.set 2 (nI ln)) np nc nt := ⟨by rw [gd_set_ne (by omega), gd_set_ne (by omega)]; exact p1, by rw [gd_set_ne (by omega), gd_set_ne (by omega)]; exact p2, by rw [gd_set_same (by omega), gd_set_same (by omega)], by rw [gd_set_ne (by omega)]; exact p4, by rw [gd_set_ne (by omega)]; exact p5, by rw [gd_set_ne (by omega)]; exact p6⟩
  exact ⟨WL_up hl List.length_set, ⟨by rw [List.length_set]; exact hn1, hn2, hn3, hn4⟩, q0, ⟨ln, hln, gd_set_same (by omega)⟩, ⟨Sw_out s1 (by omega), Sw_out s2 (by omega), Sw_out s3 (by omega), Sw_out s4 (by omega), Sw_out s5 (by omega), Sw_out s6 (by omega), Sw_out s7 (by omega)⟩, hod, ho, hd, WI_out hw hn3 (by omega), RK_out hk hn3 hn4 (by omega)⟩
theorem WR_due {W : Bk} {nw ow du : List Int32} {np nc nt : Nat} {ks : Nat → List Nat} {wh : Nat → Nat} (h : WR W nw ow du np nc nt ks wh) {t d : Nat} (ht : t < 20) (hdd : d ≤ 999) : WR (up W 9 ((W 9).set t (nI d))) nw ow (du.set t (nI d)) np nc nt ks wh := by
  obtain ⟨hl, ⟨hn1, hn2, hn3, hn4⟩, h0, he, ⟨s1, s2, s3, s4, s5, s6, s7⟩, hod, ho, hd, hw, hk⟩ := h
  obtain ⟨l0, l1, l2, l3, l4, l5, l6, l7, l8, l9, l10, l11, l12⟩ := id hl
  refine ⟨WL_up hl List.length_set, ⟨hn1, hn2, hn3, hn4⟩, h0, he, ⟨s1, s2, s3, s4, s5, s6, s7⟩, ⟨hod.1, by show (W 9).set t (nI d) = du.set t (nI d); rw [hod.2]⟩, ho, fun x hx => ?_, hw, hk⟩
  have hdl : du.length = 20 := by rw [← hod.2]; exact l9
  by_cases hq : x = t
  · subst hq
    exact ⟨d, hdd, gd_set_same (by omega)⟩
  · rw [gd_set_ne (fun e => hq e.symm)]; exact hd x hx
theorem RK_tie {k6 k7 k10 nw : List Int32} {nc nt t c : Nat} {ks : Nat → List Nat} {wh : Nat → Nat} (h : RK k6 k7 k10 nw nc nt ks wh) (z6 : k6.length = 14) (z7 : k7.length = 56) (z10 : k10.length = 20) (zn : nw.length = 183) (hc : nc ≤ 14) (ht : nt ≤ 20) (htt : t < nt) (hcc : c < nc) (hwt : wh t = 0) (hlen : (ks c).length < 4) :
    RK (k6.set c (nI ((ks c).length + 1))) (k7.set (4 * c + (ks c).length) (nI t)) (k10.set t (nI c)) ((nw.set (67 + 4 * c + (ks c).length) (nI (t + 1))).set (123 + t) (nI (c + 1))) nc nt (fun x => if x = c then ks c ++ [t] else ks x) (fun x => if x = t then c + 1 else wh x) := by
  obtain ⟨h1, h2, h3⟩ := h
  have hnt : t ∉ ks c := fun q => by have := ((h3 c t hcc).mp q).2; omega
  refine ⟨fun x hx => ?_, fun s hs => ?_, fun x s hx => ?_⟩
  · obtain ⟨a1, a2, a3, a4, a5⟩ := h1 x hx
    by_cases hq : x = c
    · subst hq
      simp only [if_true]
      refine ⟨by simp; omega, ?_, ?_, fun i hi => ?_, fun i hi => ?_⟩
      · rw [List.nodup_append]
        refine ⟨a2, by simp, fun a ha b hb => ?_⟩
        rw [List.mem_singleton] at hb
        rw [hb]
        exact fun e => hnt (by rw [← e]; exact ha)
      · rw [gd_set_same (by omega)]; simp
      · rw [List.length_append, List.length_singleton] at hi
        by_cases hi2 : i = (ks x).length
        · subst hi2
          rw [gd_set_same (by omega)]
          simp [List.getD_eq_getElem?_getD]
        · rw [gd_set_ne (by omega), a4 i (by omega)]
          simp [List.getD_eq_getElem?_getD, List.getElem?_append_left (show i < (ks x).length by omega)]
      · rw [gd_set_ne (by omega), List.length_append, List.length_singleton]
        by_cases hi2 : i = (ks x).length
        · subst hi2
          rw [gd_set_same (by omega), if_pos (by omega)]
          simp [List.getD_eq_getElem?_getD]
        · rw [gd_set_ne (by omega), a5 i hi]
          by_cases hi3 : i < (ks x).length
          · rw [if_pos hi3, if_pos (by omega)]
            simp [List.getD_eq_getElem?_getD, List.getElem?_append_left hi3]
          · rw [if_neg hi3, if_neg (by omega)]
    · simp only [if_neg hq]
      have hl2 := a1
      exact ⟨a1, a2, by rw [gd_set_ne (fun e => hq e.symm)]; exact a3, fun i hi => by rw [gd_set_ne (by omega)]; exact a4 i hi, fun i hi => by rw [gd_set_ne (by omega), gd_set_ne (by omega)]; exact a5 i hi⟩
  · obtain ⟨a1, a2, a3, a4⟩ := h2 s hs
    by_cases hq : s = t
    · subst hq
      simp only [if_true]
      exact ⟨hcc, gd_set_same (by rw [List.length_set]; omega), by rw [gd_set_same (by omega)]; exact (nI_pred c).symm, fun e => absurd e (Nat.succ_ne_zero c)⟩
    · simp only [if_neg hq]
      exact ⟨a1, by rw [gd_set_ne (by omega), gd_set_ne (by omega)]; exact a2, by rw [gd_set_ne (fun e => hq e.symm)]; exact a3, fun e => by rw [gd_set_ne (by omega), gd_set_ne (by omega)]; exact a4 e⟩
  · by_cases hq : x = c
    · subst hq
      simp only [if_true, List.mem_append, List.mem_singleton]
      by_cases hs : s = t
      · subst hs
        simp only [if_true]
        exact ⟨fun _ => ⟨htt, trivial⟩, fun _ => Or.inr trivial⟩
      · simp only [if_neg hs]
        rw [h3 x s hx]
        exact ⟨fun q => q.resolve_right hs, Or.inl⟩
    · simp only [if_neg hq]
      by_cases hs : s = t
      · subst hs
        simp only [if_true]
        exact ⟨fun q => by have := ((h3 x s hx).mp q).2; omega, fun q => absurd q.2 (by omega)⟩
      · simp only [if_neg hs]
        exact h3 x s hx
theorem WR_tie {W : Bk} {nw ow du : List Int32} {np nc nt : Nat} {ks : Nat → List Nat} {wh : Nat → Nat} (h : WR W nw ow du np nc nt ks wh) {t c : Nat} (htt : t < nt) (hcc : c < nc) (hwt : wh t = 0) (hlen : (ks c).length < 4) (v : Int32) :
    WR (up (up (up (up W 7 ((W 7).set (4 * c + (ks c).length) (nI t))) 6 ((W 6).set c (nI ((ks c).length + 1)))) 10 ((W 10).set t (nI c))) 11 ((W 11).set t v)) (((nw.set (67 + 4 * c + (ks c).length) (nI (t + 1))).set (123 + t) (nI (c + 1))).set (143 + t) v) ow du np nc nt (fun x => if x = c then ks c ++ [t] else ks x) (fun x => if x = t then c + 1 else wh x) := by
  obtain ⟨hl, ⟨hn1, hn2, hn3, hn4⟩, h0, he, ⟨s1, s2, s3, s4, s5, s6, s7⟩, hod, ho, hd, hw, hk⟩ := h
  obtain ⟨l0, l1, l2, l3, l4, l5, l6, l7, l8, l9, l10, l11, l12⟩ := id hl
  refine ⟨WL_up (WL_up (WL_up (WL_up hl List.length_set) List.length_set) List.length_set) List.length_set, ⟨by simp only [List.length_set]; exact hn1, hn2, hn3, hn4⟩, P0_out (P0_out (P0_out h0 (by omega)) (by omega)) (by omega), LN_out (LN_out (LN_out he (by omega)) (by omega)) (by omega), ⟨Sw_out (Sw_out (Sw_out s1 (by omega)) (by omega)) (by omega), Sw_out (Sw_out (Sw_out s2 (by omega)) (by omega)) (by omega), Sw_out (Sw_out (Sw_out s3 (by omega)) (by omega)) (by omega), Sw_out (Sw_out (Sw_out s4 (by omega)) (by omega)) (by omega), Sw_out (Sw_out (Sw_out s5 (by omega)) (by omega)) (by omega), Sw_in (Sw_out (Sw_out s6 (by omega)) (by omega)) (by omega) l11 (by simp only [List.length_set]; omega), Sw_out (Sw_out (Sw_out s7 (by omega)) (by omega)) (by omega)⟩, hod, ho, hd, WI_out (WI_out (WI_out hw hn3 (by omega)) hn3 (by omega)) hn3 (by omega), ?_⟩
  exact RK_tight (RK_tie hk l6 l7 l10 hn1 hn3 hn4 htt hcc hwt hlen) hn3 hn4 (by simp)
theorem RK_untie {k6 k7 k10 nw k6' k7' k10' nw' : List Int32} {nc nt t c p : Nat} {ks : Nat → List Nat} {wh : Nat → Nat} (h : RK k6 k7 k10 nw nc nt ks wh) (htt : t < nt) (hcc : c < nc) (hp : p < (ks c).length) (hpt : (ks c).getD p 0 = t)
    (e6 : ∀ x, x < nc → k6'.getD x 0 = if x = c then nI ((ks c).length - 1) else k6.getD x 0)
    (e7 : ∀ x i, x < nc → i < 4 → (x = c → i < (ks c).length - 1 → k7'.getD (4 * c + i) 0 = nI (((ks c).eraseIdx p).getD i 0)) ∧ (x ≠ c → k7'.getD (4 * x + i) 0 = k7.getD (4 * x + i) 0))
    (e10 : ∀ s, s < nt → k10'.getD s 0 = if s = t then -nI 1 else k10.getD s 0)
    (en : ∀ x i, x < nc → i < 4 → nw'.getD (67 + 4 * x + i) 0 = if x = c ∧ p ≤ i then (if i = 3 then nI 0 else nw.getD (67 + 4 * x + (i + 1)) 0) else nw.getD (67 + 4 * x + i) 0)
    (et : ∀ s, s < nt → nw'.getD (123 + s) 0 = (if s = t then nI 0 else nw.getD (123 + s) 0) ∧ nw'.getD (143 + s) 0 = (if s = t then nI 0 else nw.getD (143 + s) 0)) :
    RK k6' k7' k10' nw' nc nt (fun x => if x = c then (ks c).eraseIdx p else ks x) (fun x => if x = t then 0 else wh x) := by
  obtain ⟨h1, h2, h3⟩ := h
  have hmt : ∀ s, s ∈ (ks c).eraseIdx p ↔ s ∈ ks c ∧ s ≠ t := by
    intro s
    obtain ⟨a1, a2, -⟩ := h1 c hcc
    have hg : (ks c)[p]'hp = t := by rw [← hpt, List.getD_eq_getElem?_getD, List.getElem?_eq_getElem hp]; rfl
    constructor
    · intro q
      refine ⟨List.mem_of_mem_eraseIdx q, fun e => ?_⟩
      rw [List.mem_eraseIdx_iff_getElem] at q
      obtain ⟨i, hi, hne, hq⟩ := q
      exact hne ((List.getElem_inj a2).mp (by rw [hq, hg, e]))
    · intro q
      obtain ⟨i, hi, hq⟩ := List.mem_iff_getElem.mp q.1
      rw [List.mem_eraseIdx_iff_getElem]
      refine ⟨i, hi, fun e => q.2 ?_, hq⟩
      subst e
      rw [← hq, hg]
  refine ⟨fun x hx => ?_, fun s hs => ?_, fun x s hx => ?_⟩
  · obtain ⟨a1, a2, a3, a4, a5⟩ := h1 x hx
    by_cases hq : x = c
    · subst hq
      simp only [if_true]
      have hle : ((ks x).eraseIdx p).length = (ks x).length - 1 := List.length_eraseIdx_of_lt hp
      refine ⟨by omega, List.Nodup.sublist (List.eraseIdx_sublist _ _) a2, by rw [e6 x hx, if_pos rfl, hle], fun i hi => (e7 x i hx (by omega)).1 rfl (by omega), fun i hi => ?_⟩
      rw [en x i hx hi, hle]
      have hgd : ∀ i, ((ks x).eraseIdx p).getD i 0 = if i < p then (ks x).getD i 0 else (ks x).getD (i + 1) 0 := by
        intro i
        rw [List.getD_eq_getElem?_getD, List.getElem?_eraseIdx]
        by_cases hip : i < p
        · rw [if_pos hip, if_pos hip, List.getD_eq_getElem?_getD]
        · rw [if_neg hip, if_neg hip, List.getD_eq_getElem?_getD]
      rw [hgd i]
      by_cases hpi : p ≤ i
      · rw [if_pos ⟨rfl, hpi⟩, if_neg (show ¬ i < p by omega)]
        by_cases h3i : i = 3
        · rw [if_pos h3i, if_neg (by omega)]
        · rw [if_neg h3i, a5 (i + 1) (by omega)]
          by_cases h4 : i + 1 < (ks x).length
          · rw [if_pos h4, if_pos (by omega)]
          · rw [if_neg h4, if_neg (by omega)]
      · rw [if_neg (fun q => hpi q.2), a5 i hi, if_pos (show i < p by omega), if_pos (show i < (ks x).length by omega), if_pos (show i < (ks x).length - 1 by omega)]
    · simp only [if_neg hq]
      refine ⟨a1, a2, by rw [e6 x hx, if_neg hq]; exact a3, fun i hi => by rw [(e7 x i hx (by omega)).2 hq]; exact a4 i hi, fun i hi => ?_⟩
      rw [en x i hx hi, if_neg (fun q => hq q.1)]
      exact a5 i hi
  · obtain ⟨a1, a2, a3, a4⟩ := h2 s hs
    by_cases hq : s = t
    · subst hq
      simp only [if_true]
      exact ⟨Nat.zero_le _, by rw [(et s hs).1, if_pos rfl], by rw [e10 s hs, if_pos rfl, e_01], fun _ => by rw [(et s hs).2, if_pos rfl]⟩
    · simp only [if_neg hq]
      exact ⟨a1, by rw [(et s hs).1, if_neg hq]; exact a2, by rw [e10 s hs, if_neg hq]; exact a3, fun e => by rw [(et s hs).2, if_neg hq]; exact a4 e⟩
  · by_cases hq : x = c
    · subst hq
      simp only [if_true]
      rw [hmt s, h3 x s hx]
      by_cases hs : s = t
      · subst hs
        simp only [if_true]
        exact ⟨fun q => absurd rfl q.2, fun q => absurd q.2 (by omega)⟩
      · simp only [if_neg hs]
        exact ⟨fun q => q.1, fun q => ⟨q, hs⟩⟩
    · simp only [if_neg hq]
      rw [h3 x s hx]
      by_cases hs : s = t
      · subst hs
        simp only [if_true]
        have hin : s ∈ ks c := by
          rw [← hpt, List.getD_eq_getElem?_getD, List.getElem?_eq_getElem hp]
          exact List.getElem_mem hp
        have hw2 := ((h3 c s hcc).mp hin).2
        exact ⟨fun q => by have := q.2; omega, fun q => absurd q.2 (by omega)⟩
      · simp only [if_neg hs]
