/-! PURE: image, a house beside a reference, copied or taken back -/
theorem RT_cp {c c' row row' : List Int32} {n : Int32} {arr : List Int32} {cap : Nat} {ok : Int32 → Prop} (h : RT c row n arr cap ok) (e1 : c'.length = 2) (e2 : c'.getD 0 0 = c.getD 0 0) (e3 : row'.length = row.length) (e4 : ∀ k, c.getD 0 0 = nI k → k ≤ row.length → ∀ i, i < k → row'.getD i 0 = row.getD i 0) : RT c' row' n arr cap ok := by
  obtain ⟨h1, h2, h3, k, h4, h5, h6, h7⟩ := h
  refine ⟨e1, e3.trans h2, h3, k, h4, e2.trans h5, h6, fun i hi => ?_⟩
  rw [e4 k h5 (by omega) i hi]
  exact h7 i hi
set_option maxHeartbeats 1000000 in
theorem HH_cp {H' H C : Bk} {np nc nt : Nat} {ks : Nat → List Nat} {wh : Nat → Nat} (h : HC H' H) (g : HH H C np nc nt ks wh) : HH H' C np nc nt ks wh := by
  obtain ⟨⟨a1, a2, a3, a4⟩, a5, ⟨l1, l2, l3, l4⟩, ln, tl, s⟩ := h
  obtain ⟨⟨w, ⟨t1, t2⟩, ⟨b1, b2⟩, ⟨z, L, D, M, F, sc⟩⟩, ⟨u1, u2, u3, u4, u5⟩⟩ := g
  have r0 : rh12 0 = 36 := by decide
  refine ⟨⟨WR_cp w (fun i i1 i2 => ?_) ?_ (fun k k1 k2 => ?_), ⟨t1, a4⟩, ⟨a5.trans b1, b2⟩, ⟨z, ?_, ?_, ?_, ?_, ⟨s, sc.2⟩⟩⟩, ?_, ?_, ?_, ?_, ?_⟩
  · show H' (rh12 i) = H (rh12 i)
    rw [rh12_v i i2]; exact a1 i i1 i2
  · show (H' (rh12 0)).length = 19
    rw [r0]; exact a2
  · show (H' (rh12 0)).getD k 0 = (H (rh12 0)).getD k 0
    rw [r0]; exact a3 k k1 k2
  · obtain ⟨⟨v0, v1, v2, v3, v4, v5, v6⟩, lens, n, cd, n16, c400, x1, x2, x3, x4⟩ := L
    have e4 : H' 4 = H 4 := l3 4 (by decide) (by decide)
    have e5 : H' 5 = H 5 := l3 5 (by decide) (by decide)
    have e6 : H' 6 = H 6 := l3 6 (by decide) (by decide)
    have e7 : H' 7 = H 7 := l3 7 (by decide) (by decide)
    have e8 : H' 8 = H 8 := l3 8 (by decide) (by decide)
    refine ⟨⟨l1, ?_, ?_, ?_, ?_, ?_, l4⟩, lens, n, cd, n16, c400, l2.trans x1, x2, fun i hi => ?_, fun i hi => ?_⟩
    · show (H' 4).length = 16; rw [e4]; exact v1
    · show (H' 5).length = 16; rw [e5]; exact v2
    · show (H' 6).length = 16; rw [e6]; exact v3
    · show (H' 7).length = 16; rw [e7]; exact v4
    · show (H' 8).length = 400; rw [e8]; exact v5
    · show RCode ((H' 8).getD i 0) _ _
      rw [e8]; exact x3 i hi
    · have := x4 i hi
      simp only [Nat.reduceAdd] at this ⊢
      rw [e4, e5, e6, e7, e8]
      exact this
  · obtain ⟨n1, n2, n3⟩ := ln 10 (by decide)
    have e1 : H' 11 = H 11 := n3 1 (by decide) (by decide)
    have e2 : H' 12 = H 12 := n3 2 (by decide) (by decide)
    have e3 : H' 13 = H 13 := n3 3 (by decide) (by decide)
    have e4 : H' 14 = H 14 := n3 4 (by decide) (by decide)
    unfold RDeeds at D ⊢
    simp only [Nat.reduceAdd] at D ⊢
    obtain ⟨⟨v0, v1⟩, n, hn, hn2, hn3⟩ := D
    rw [e1, e2, e3, e4]
    exact ⟨⟨n1, v1⟩, n, hn, n2.trans hn2, hn3⟩
  · obtain ⟨n1, n2, n3⟩ := ln 15 (by decide)
    have e1 : H' 16 = H 16 := n3 1 (by decide) (by decide)
    have e2 : H' 17 = H 17 := n3 2 (by decide) (by decide)
    have e3 : H' 18 = H 18 := n3 3 (by decide) (by decide)
    have e4 : H' 19 = H 19 := n3 4 (by decide) (by decide)
    unfold RMinds at M ⊢
    simp only [Nat.reduceAdd] at M ⊢
    obtain ⟨⟨v0, v1⟩, n, hn, hn2, hn3⟩ := M
    rw [e1, e2, e3, e4]
    exact ⟨⟨n1, v1⟩, n, hn, n2.trans hn2, hn3⟩
  · obtain ⟨n1, n2, n3⟩ := ln 20 (by decide)
    have e1 : H' 21 = H 21 := n3 1 (by decide) (by decide)
    have e2 : H' 22 = H 22 := n3 2 (by decide) (by decide)
    have e3 : H' 23 = H 23 := n3 3 (by decide) (by decide)
    have e4 : H' 24 = H 24 := n3 4 (by decide) (by decide)
    unfold RFr at F ⊢
    simp only [Nat.reduceAdd] at F ⊢
    obtain ⟨⟨v0, v1⟩, n, hn, hn2, hn3⟩ := F
    rw [e1, e2, e3, e4]
    exact ⟨⟨n1, v1⟩, n, hn, n2.trans hn2, hn3⟩
  · obtain ⟨q1, q2, q3, q4⟩ := tl 25 (by decide)
    exact RT_cp u1 q1 q2 q3 q4
  · obtain ⟨q1, q2, q3, q4⟩ := tl 27 (by decide)
    exact RT_cp u2 q1 q2 q3 q4
  · obtain ⟨q1, q2, q3, q4⟩ := tl 29 (by decide)
    exact RT_cp u3 q1 q2 q3 q4
  · obtain ⟨q1, q2, q3, q4⟩ := tl 31 (by decide)
    exact RT_cp u4 q1 q2 q3 q4
  · obtain ⟨q1, q2, q3, q4⟩ := tl 33 (by decide)
    exact RT_cp u5 q1 q2 q3 q4
set_option maxHeartbeats 1000000 in
theorem HC_congr {H' H K' K : Bk} (h : HC H' H) (e1 : ∀ i, i < 49 → K' i = H' i) (e2 : ∀ i, i < 49 → K i = H i) : HC K' K := by
  obtain ⟨⟨a1, a2, a3, a4⟩, a5, ⟨l1, l2, l3, l4⟩, ln, tl, s⟩ := h
  refine ⟨⟨fun i i1 i2 => ?_, ?_, fun k k1 k2 => ?_, ?_⟩, ?_, ⟨?_, ?_, fun i i1 i2 => ?_, ?_⟩, fun a ha => ?_, fun a ha => ?_, ?_⟩
  · rw [e1 _ (by omega), e2 _ (by omega)]; exact a1 i i1 i2
  · rw [e1 _ (by omega)]; exact a2
  · rw [e1 _ (by omega), e2 _ (by omega)]; exact a3 k k1 k2
  · rw [e1 _ (by omega)]; exact a4
  · rw [e1 _ (by omega), e2 _ (by omega)]; exact a5
  · rw [e1 _ (by omega)]; exact l1
  · rw [e1 _ (by omega), e2 _ (by omega)]; exact l2
  · rw [e1 _ (by omega), e2 _ (by omega)]; exact l3 i i1 i2
  · rw [e1 _ (by omega)]; exact l4
  · have hb : a < 40 := by revert ha; revert a; decide
    obtain ⟨p1, p2, p3⟩ := ln a ha
    exact ⟨by rw [e1 _ (by omega)]; exact p1, by rw [e1 _ (by omega), e2 _ (by omega)]; exact p2, fun i i1 i2 => by rw [e1 _ (by omega), e2 _ (by omega)]; exact p3 i i1 i2⟩
  · have hb : a < 40 := by revert ha; revert a; decide
    obtain ⟨p1, p2, p3, p4⟩ := tl a ha
    rw [e1 _ (by omega), e1 _ (by omega), e2 _ (by omega), e2 _ (by omega)]
    exact ⟨p1, p2, p3, p4⟩
  · rw [e1 _ (by omega)]; exact s
theorem HL_HH {H B : Bk} {np nc nt : Nat} {ks : Nat → List Nat} {wh : Nat → Nat} (g : HH H B np nc nt ks wh) : HL H := by
  obtain ⟨⟨w, ⟨t1, t2⟩, ⟨b1, b2⟩, ⟨z, L, D, M, F, sc⟩⟩, ⟨u1, u2, u3, u4, u5⟩⟩ := g
  obtain ⟨d0, d1, d2, d3, d4, _⟩ := D.1
  obtain ⟨m0, m1, m2, m3, m4, _⟩ := M.1
  obtain ⟨f0, f1, f2, f3, f4, _⟩ := F.1
  exact ⟨w.1, by rw [b1]; exact b2, L.1, ⟨d0, d1, d2, d3, d4⟩, ⟨m0, m1, m2, m3, m4⟩, ⟨f0, f1, f2, f3, f4⟩, ⟨u1.1, u1.2.1, u2.1, u2.2.1, u3.1, u3.2.1, u4.1, u4.2.1, u5.1, u5.2.1⟩, sc.1, t2⟩
theorem TC_HH {H B : Bk} {np nc nt : Nat} {ks : Nat → List Nat} {wh : Nat → Nat} (g : HH H B np nc nt ks wh) : TC H := by
  obtain ⟨-, ⟨u1, u2, u3, u4, u5⟩⟩ := g
  have k : ∀ {c row : List Int32} {n : Int32} {arr : List Int32} {cap : Nat} {ok : Int32 → Prop}, RT c row n arr cap ok → ∃ k : Nat, c.getD 0 0 = nI k ∧ k ≤ row.length := fun h => by
    obtain ⟨h1, h2, h3, k, h4, h5, h6, h7⟩ := h
    exact ⟨k, h5, by rw [h2]; exact h4⟩
  intro a ha
  simp only [List.mem_cons, List.not_mem_nil, or_false] at ha
  rcases ha with q | q | q | q | q <;> subst q
  · exact k u1
  · exact k u2
  · exact k u3
  · exact k u4
  · exact k u5
theorem TC_congr {H H' : Bk} (h : TC H) (e : ∀ i, i < 49 → H' i = H i) : TC H' := fun a ha => by
  have hb : a < 40 := by revert ha; revert a; decide
  rw [e a (by omega), e (a + 1) (by omega)]
  exact h a ha
set_option maxHeartbeats 1000000 in
theorem HL_cp {H' H : Bk} (h : HC H' H) (g : HL H) : HL H' := by
  obtain ⟨⟨a1, a2, a3, a4⟩, a5, ⟨l1, l2, l3, l4⟩, ln, tl, s⟩ := h
  obtain ⟨w, b, ⟨v0, v1, v2, v3, v4, v5, v6⟩, ⟨d0, d1, d2, d3, d4⟩, ⟨m0, m1, m2, m3, m4⟩, ⟨f0, f1, f2, f3, f4⟩, ⟨t0, t1, t2, t3, t4, t5, t6, t7, t8, t9⟩, sc, th⟩ := g
  obtain ⟨n1, -, n3⟩ := ln 10 (by decide)
  obtain ⟨o1, -, o3⟩ := ln 15 (by decide)
  obtain ⟨p1, -, p3⟩ := ln 20 (by decide)
  obtain ⟨q1, -, q3, -⟩ := tl 25 (by decide)
  obtain ⟨r1, -, r3, -⟩ := tl 27 (by decide)
  obtain ⟨x1, -, x3, -⟩ := tl 29 (by decide)
  obtain ⟨y1, -, y3, -⟩ := tl 31 (by decide)
  obtain ⟨z1, -, z3, -⟩ := tl 33 (by decide)
  have e : ∀ {i : Nat} {n : Nat}, (H i).length = n → H' i = H i → (H' i).length = n := fun h1 h2 => by rw [h2]; exact h1
  refine ⟨?_, by rw [a5]; exact b, ⟨l1, e v1 (l3 4 (by decide) (by decide)), e v2 (l3 5 (by decide) (by decide)), e v3 (l3 6 (by decide) (by decide)), e v4 (l3 7 (by decide) (by decide)), e v5 (l3 8 (by decide) (by decide)), l4⟩, ⟨n1, e d1 (n3 1 (by decide) (by decide)), e d2 (n3 2 (by decide) (by decide)), e d3 (n3 3 (by decide) (by decide)), e d4 (n3 4 (by decide) (by decide))⟩, ⟨o1, e m1 (o3 1 (by decide) (by decide)), e m2 (o3 2 (by decide) (by decide)), e m3 (o3 3 (by decide) (by decide)), e m4 (o3 4 (by decide) (by decide))⟩, ⟨p1, e f1 (p3 1 (by decide) (by decide)), e f2 (p3 2 (by decide) (by decide)), e f3 (p3 3 (by decide) (by decide)), e f4 (p3 4 (by decide) (by decide))⟩, ⟨q1, q3.trans t1, r1, r3.trans t3, x1, x3.trans t5, y1, y3.trans t7, z1, z3.trans t9⟩, s, a4⟩
  have r0 : rh12 0 = 36 := by decide
  have k : ∀ i, 1 ≤ i → i < 13 → H' (rh12 i) = H (rh12 i) := fun i i1 i2 => by rw [rh12_v i i2]; exact a1 i i1 i2
  obtain ⟨w0, w1, w2, w3, w4, w5, w6, w7, w8, w9, w10, w11, w12⟩ := w
  exact ⟨by show (H' (rh12 0)).length = 19; rw [r0]; exact a2, e w1 (k 1 (by decide) (by decide)), e w2 (k 2 (by decide) (by decide)), e w3 (k 3 (by decide) (by decide)), e w4 (k 4 (by decide) (by decide)), e w5 (k 5 (by decide) (by decide)), e w6 (k 6 (by decide) (by decide)), e w7 (k 7 (by decide) (by decide)), e w8 (k 8 (by decide) (by decide)), e w9 (k 9 (by decide) (by decide)), e w10 (k 10 (by decide) (by decide)), e w11 (k 11 (by decide) (by decide)), e w12 (k 12 (by decide) (by decide))⟩
theorem fv_at {C : Bk} {k c i : Nat} (h : lc2 k = c ∧ li2 k = i) : fv2 C k = (C c).getD i 0 := by unfold fv2; rw [h.1, h.2]
theorem lcs : ∀ t, t < 11 → lc2 (183 + t) = 0 ∧ li2 (183 + t) = slk.getD t 0 := by decide +kernel
set_option maxHeartbeats 1000000 in
theorem fv_flat {C : Bk} {im : List Int32} (h : ∀ k, k < 1889 → im.getD k 0 = fv2 C k) : flat C im := by
  have g : ∀ {k c i : Nat}, k < 1889 → (lc2 k = c ∧ li2 k = i) → im.getD k 0 = (C c).getD i 0 := fun hk hl => by rw [h _ hk, fv_at hl]
  refine ⟨fun k hk => g (by omega) (lcf_mg1 k hk), ⟨g (by decide) (lcs 0 (by decide)), g (by decide) (lcs 1 (by decide)), g (by decide) (lcs 2 (by decide)), g (by decide) (lcs 3 (by decide)), g (by decide) (lcs 4 (by decide)), g (by decide) (lcs 5 (by decide)), g (by decide) (lcs 6 (by decide)), g (by decide) (lcs 7 (by decide)), g (by decide) (lcs 8 (by decide)), g (by decide) (lcs 9 (by decide)), g (by decide) (lcs 10 (by decide))⟩, fun k hk => ?_, fun k hk => ?_, fun k hk => ?_, fun k hk => ?_, fun k hk => ?_, fun k hk => ?_, fun k hk => g (by omega) (lcf_mg2 k hk), g (by decide) (by decide), fun k hk => ?_, fun k hk => ?_⟩
  · obtain ⟨a, b⟩ := lcf_kq1 k hk
    exact ⟨g (by omega) a, by rw [show 195 + 2 * k = 194 + 2 * k + 1 by omega]; exact g (by omega) b⟩
  · have a := lcf_kq2 k hk
    rw [show 234 + 1 * k + 0 = 234 + k by omega] at a
    exact g (by omega) a
  · have a := lcf_kq3 k hk
    rw [show 298 + 1 * k + 0 = 298 + k by omega] at a
    exact g (by omega) a
  · obtain ⟨a, b, c⟩ := lcf_kq4 k hk
    exact ⟨g (by omega) a, by rw [show 347 + 3 * k = 346 + 3 * k + 1 by omega]; exact g (by omega) b, by rw [show 348 + 3 * k = 346 + 3 * k + 2 by omega]; exact g (by omega) c⟩
  · obtain ⟨a, b⟩ := lcf_kq5 k hk
    exact ⟨g (by omega) a, by rw [show 383 + 2 * k = 382 + 2 * k + 1 by omega]; exact g (by omega) b⟩
  · have a := lcf_kq6 k hk
    rw [show 414 + 1 * k + 0 = 414 + k by omega] at a
    exact g (by omega) a
  · obtain ⟨a, b, c, d⟩ := lcf_kl1 k hk
    exact ⟨g (by omega) a, by rw [show 1026 + 4 * k = 1025 + 4 * k + 1 by omega]; exact g (by omega) b, by rw [show 1027 + 4 * k = 1025 + 4 * k + 2 by omega]; exact g (by omega) c, by rw [show 1028 + 4 * k = 1025 + 4 * k + 3 by omega]; exact g (by omega) d⟩
  · obtain ⟨a, b⟩ := lcf_kl2 k hk
    exact ⟨g (by omega) a, by rw [show 1090 + 2 * k = 1089 + 2 * k + 1 by omega]; exact g (by omega) b⟩
set_option maxHeartbeats 1000000 in
theorem flat_fv {C : Bk} {im : List Int32} (h : flat C im) : ∀ k, k < 1889 → im.getD k 0 = fv2 C k := by
  obtain ⟨h1, ⟨s0, s1, s2, s3, s4, s5, s6, s7, s8, s9, s10⟩, h3, h4, h5, h6, h7, h8, h9, h10, h11, h12⟩ := h
  intro k hk
  by_cases c1 : k < 183
  · rw [fv_at (lcf_mg1 k c1)]; exact h1 k c1
  by_cases c2 : k < 194
  · rcases (show k = 183 ∨ k = 184 ∨ k = 185 ∨ k = 186 ∨ k = 187 ∨ k = 188 ∨ k = 189 ∨ k = 190 ∨ k = 191 ∨ k = 192 ∨ k = 193 by omega) with q | q | q | q | q | q | q | q | q | q | q <;> subst q
    · exact s0
    · exact s1
    · exact s2
    · exact s3
    · exact s4
    · exact s5
    · exact s6
    · exact s7
    · exact s8
    · exact s9
    · exact s10
  by_cases c3 : k < 234
  · obtain ⟨a, b⟩ := lcf_kq1 ((k - 194) / 2) (by omega)
    obtain ⟨f1, f2⟩ := h3 ((k - 194) / 2) (by omega)
    rcases (show k = 194 + 2 * ((k - 194) / 2) + 0 ∨ k = 194 + 2 * ((k - 194) / 2) + 1 by omega) with q | q
    · rw [q, fv_at a]; exact f1
    · rw [show 195 + 2 * ((k - 194) / 2) = 194 + 2 * ((k - 194) / 2) + 1 by omega] at f2
      rw [q, fv_at b]; exact f2
  by_cases c4 : k < 298
  · have a := lcf_kq2 (k - 234) (by omega)
    have f := h4 (k - 234) (by omega)
    rw [show 234 + (k - 234) = k by omega] at f
    rw [show 234 + 1 * (k - 234) + 0 = k by omega] at a
    rw [fv_at a]; exact f
  by_cases c5 : k < 346
  · have a := lcf_kq3 (k - 298) (by omega)
    have f := h5 (k - 298) (by omega)
    rw [show 298 + (k - 298) = k by omega] at f
    rw [show 298 + 1 * (k - 298) + 0 = k by omega] at a
    rw [fv_at a]; exact f
  by_cases c6 : k < 382
  · obtain ⟨a, b, c⟩ := lcf_kq4 ((k - 346) / 3) (by omega)
    obtain ⟨f1, f2, f3⟩ := h6 ((k - 346) / 3) (by omega)
    rcases (show k = 346 + 3 * ((k - 346) / 3) + 0 ∨ k = 346 + 3 * ((k - 346) / 3) + 1 ∨ k = 346 + 3 * ((k - 346) / 3) + 2 by omega) with q | q | q
    · rw [q, fv_at a]; exact f1
    · rw [show 347 + 3 * ((k - 346) / 3) = 346 + 3 * ((k - 346) / 3) + 1 by omega] at f2
      rw [q, fv_at b]; exact f2
    · rw [show 348 + 3 * ((k - 346) / 3) = 346 + 3 * ((k - 346) / 3) + 2 by omega] at f3
      rw [q, fv_at c]; exact f3
  by_cases c7 : k < 414
  · obtain ⟨a, b⟩ := lcf_kq5 ((k - 382) / 2) (by omega)
    obtain ⟨f1, f2⟩ := h7 ((k - 382) / 2) (by omega)
    rcases (show k = 382 + 2 * ((k - 382) / 2) + 0 ∨ k = 382 + 2 * ((k - 382) / 2) + 1 by omega) with q | q
    · rw [q, fv_at a]; exact f1
    · rw [show 383 + 2 * ((k - 382) / 2) = 382 + 2 * ((k - 382) / 2) + 1 by omega] at f2
      rw [q, fv_at b]; exact f2
  by_cases c8 : k < 424
  · have a := lcf_kq6 (k - 414) (by omega)
    have f := h8 (k - 414) (by omega)
    rw [show 414 + (k - 414) = k by omega] at f
    rw [show 414 + 1 * (k - 414) + 0 = k by omega] at a
    rw [fv_at a]; exact f
  by_cases c9 : k < 1024
  · have a := lcf_mg2 (k - 424) (by omega)
    have f := h9 (k - 424) (by omega)
    rw [show 424 + (k - 424) = k by omega] at f a
    rw [fv_at a]; exact f
  by_cases c10 : k < 1025
  · have q : k = 1024 := by omega
    subst q
    exact h10
  by_cases c11 : k < 1089
  · obtain ⟨a, b, c, d⟩ := lcf_kl1 ((k - 1025) / 4) (by omega)
    obtain ⟨f1, f2, f3, f4⟩ := h11 ((k - 1025) / 4) (by omega)
    rcases (show k = 1025 + 4 * ((k - 1025) / 4) + 0 ∨ k = 1025 + 4 * ((k - 1025) / 4) + 1 ∨ k = 1025 + 4 * ((k - 1025) / 4) + 2 ∨ k = 1025 + 4 * ((k - 1025) / 4) + 3 by omega) with q | q | q | q
    · rw [q, fv_at a]; exact f1
    · rw [show 1026 + 4 * ((k - 1025) / 4) = 1025 + 4 * ((k - 1025) / 4) + 1 by omega] at f2
      rw [q, fv_at b]; exact f2
    · rw [show 1027 + 4 * ((k - 1025) / 4) = 1025 + 4 * ((k - 1025) / 4) + 2 by omega] at f3
      rw [q, fv_at c]; exact f3
    · rw [show 1028 + 4 * ((k - 1025) / 4) = 1025 + 4 * ((k - 1025) / 4) + 3 by omega] at f4
      rw [q, fv_at d]; exact f4
  · obtain ⟨a, b⟩ := lcf_kl2 ((k - 1089) / 2) (by omega)
    obtain ⟨f1, f2⟩ := h12 ((k - 1089) / 2) (by omega)
    rcases (show k = 1089 + 2 * ((k - 1089) / 2) + 0 ∨ k = 1089 + 2 * ((k - 1089) / 2) + 1 by omega) with q | q
    · rw [q, fv_at a]; exact f1
    · rw [show 1090 + 2 * ((k - 1089) / 2) = 1089 + 2 * ((k - 1089) / 2) + 1 by omega] at f2
      rw [q, fv_at b]; exact f2
theorem lc_in : ∀ k, k < 1889 → lc2 k ∈ [0, 1, 4, 5, 6, 9, 10, 11, 12, 13, 14, 15, 17, 18, 19, 22, 29, 30, 32, 35] := by decide +kernel
set_option maxHeartbeats 1000000 in
theorem LB_HH {H B : Bk} {np nc nt : Nat} {ks : Nat → List Nat} {wh : Nat → Nat} (g : HH H B np nc nt ks wh) : LB B := by
  have m4 : (B 4).length = 20 := by have := g.1.1.2.2.2.2.2.1.1; rw [← this]; exact g.1.1.1.2.2.2.2.2.2.2.2.1
  have m5 : (B 5).length = 20 := by have := g.1.1.2.2.2.2.2.1.2; rw [← this]; exact g.1.1.1.2.2.2.2.2.2.2.2.2.1
  obtain ⟨⟨w, ⟨t1, t2⟩, ⟨b1, b2⟩, ⟨z, L, D, M, F, sc⟩⟩, ⟨u1, u2, u3, u4, u5⟩⟩ := g
  obtain ⟨v0, v1, v2, v3, v4, v5, v6⟩ := L.2.1
  obtain ⟨_, _, _, _, _, d5⟩ := D.1
  obtain ⟨_, _, _, _, _, m5'⟩ := M.1
  obtain ⟨_, _, _, _, _, f5⟩ := F.1
  rintro c - ⟨k, hk, rfl⟩
  have hin := lc_in k hk
  simp only [List.mem_cons, List.not_mem_nil, or_false] at hin
  rcases hin with q | q | q | q | q | q | q | q | q | q | q | q | q | q | q | q | q | q | q | q <;> rw [q]
  · exact z.1
  · exact w.2.1.1
  · exact m4
  · exact m5
  · exact b2
  · exact v0
  · exact v1
  · exact v2
  · exact v3
  · exact v4
  · exact v5
  · exact v6
  · exact d5
  · exact m5'
  · exact f5
  · exact u1.2.2.1
  · exact u2.2.2.1
  · exact u3.2.2.1
  · exact u4.2.2.1
  · exact u5.2.2.1
