/-! PURE: image, the answers -/
theorem RT_fl {c row : List Int32} {n n' : Int32} {arr arr' : List Int32} {cap : Nat} {ok : Int32 → Prop} (h : RT c row n arr cap ok) (e1 : n' = n) (e2 : arr'.length = cap) (e3 : ∀ i, i < cap → arr'.getD i 0 = arr.getD i 0) : RT c row n' arr' cap ok := by
  obtain ⟨h1, h2, h3, k, h4, h5, h6, h7⟩ := h
  exact ⟨h1, h2, e2, k, h4, h5, e1.trans h6, fun i hi => by rw [e3 i (by omega)]; exact h7 i hi⟩
set_option maxHeartbeats 1000000 in
theorem HH_flat {H C B : Bk} {np nc nt : Nat} {ks : Nat → List Nat} {wh : Nat → Nat} (g : HH H C np nc nt ks wh) (hB : LB B) (hl20 : (B 20).length = 9) (hl21 : (B 21).length = 420) (h5 : (B 0).getD 5 0 = 0) (e : ∀ k, k < 1889 → fv2 B k = fv2 C k) : HH H B np nc nt ks wh := by
  have hC := LB_HH g
  have him : ∀ k, k < 1889 → ((List.range 1889).map (fv2 C)).getD k 0 = fv2 C k := fun k hk => by
    rw [List.getD_eq_getElem?_getD, List.getElem?_map, List.getElem?_range hk]; rfl
  have FC : flat C ((List.range 1889).map (fv2 C)) := fv_flat him
  have FB : flat B ((List.range 1889).map (fv2 C)) := fv_flat (fun k hk => (him k hk).trans (e k hk).symm)
  obtain ⟨y1, ⟨z0, z1, z2, z3, z4, z5, z6, z7, z8, z9, z10⟩, y3, y4, y5, y6, y7, y8, y9, y10, y11, y12⟩ := FC
  obtain ⟨x1, ⟨w0, w1, w2, w3, w4, w5, w6, w7, w8, w9, w10⟩, x3, x4, x5, x6, x7, x8, x9, x10, x11, x12⟩ := FB
  have b0 : (B 0).length = 68 := hB 0 (by decide) ⟨183, by decide, by decide⟩
  have b1 : (B 1).length = 183 := hB 1 (by decide) ⟨0, by decide, by decide⟩
  have b4 : (B 4).length = 20 := hB 4 (by decide) ⟨194, by decide, by decide⟩
  have b5 : (B 5).length = 20 := hB 5 (by decide) ⟨195, by decide, by decide⟩
  have b6 : (B 6).length = 600 := hB 6 (by decide) ⟨424, by decide, by decide⟩
  have b9 : (B 9).length = 2 := hB 9 (by decide) ⟨1024, by decide, by decide⟩
  have b10 : (B 10).length = 48 := hB 10 (by decide) ⟨1025, by decide, by decide⟩
  have b11 : (B 11).length = 48 := hB 11 (by decide) ⟨1026, by decide, by decide⟩
  have b12 : (B 12).length = 48 := hB 12 (by decide) ⟨1027, by decide, by decide⟩
  have b13 : (B 13).length = 48 := hB 13 (by decide) ⟨1028, by decide, by decide⟩
  have b14 : (B 14).length = 1200 := hB 14 (by decide) ⟨1089, by decide, by decide⟩
  have b15 : (B 15).length = 1200 := hB 15 (by decide) ⟨1090, by decide, by decide⟩
  have b17 : (B 17).length = 128 := hB 17 (by decide) ⟨234, by decide, by decide⟩
  have b18 : (B 18).length = 96 := hB 18 (by decide) ⟨298, by decide, by decide⟩
  have b19 : (B 19).length = 24 := hB 19 (by decide) ⟨346, by decide, by decide⟩
  have b22 : (B 22).length = 12 := hB 22 (by decide) ⟨347, by decide, by decide⟩
  have b29 : (B 29).length = 16 := hB 29 (by decide) ⟨382, by decide, by decide⟩
  have b30 : (B 30).length = 12 := hB 30 (by decide) ⟨348, by decide, by decide⟩
  have b32 : (B 32).length = 16 := hB 32 (by decide) ⟨383, by decide, by decide⟩
  have b35 : (B 35).length = 10 := hB 35 (by decide) ⟨414, by decide, by decide⟩
  have cl1 : (C 1).length = 183 := hC 1 (by decide) ⟨0, by decide, by decide⟩
  have cl4 : (C 4).length = 20 := hC 4 (by decide) ⟨194, by decide, by decide⟩
  have cl5 : (C 5).length = 20 := hC 5 (by decide) ⟨195, by decide, by decide⟩
  have cl6 : (C 6).length = 600 := hC 6 (by decide) ⟨424, by decide, by decide⟩
  have q1 : B 1 = C 1 := gd_ext (by rw [b1, cl1]) (fun k hk => (x1 k (by omega)).symm.trans (y1 k (by omega)))
  have q4 : B 4 = C 4 := gd_ext (by rw [b4, cl4]) (fun k hk => (x3 k (by omega)).1.symm.trans (y3 k (by omega)).1)
  have q5 : B 5 = C 5 := gd_ext (by rw [b5, cl5]) (fun k hk => (x3 k (by omega)).2.symm.trans (y3 k (by omega)).2)
  have q6 : B 6 = C 6 := gd_ext (by rw [b6, cl6]) (fun k hk => (x9 k (by omega)).symm.trans (y9 k (by omega)))
  have E17 : ∀ k, k < 64 → (B 17).getD k 0 = (C 17).getD k 0 := fun k hk => (x4 k hk).symm.trans (y4 k hk)
  have E18 : ∀ k, k < 48 → (B 18).getD k 0 = (C 18).getD k 0 := fun k hk => (x5 k hk).symm.trans (y5 k hk)
  have E19 : ∀ k, k < 12 → (B 19).getD k 0 = (C 19).getD k 0 := fun k hk => (x6 k hk).1.symm.trans (y6 k hk).1
  have E22 : ∀ k, k < 12 → (B 22).getD k 0 = (C 22).getD k 0 := fun k hk => (x6 k hk).2.1.symm.trans (y6 k hk).2.1
  have E30 : ∀ k, k < 12 → (B 30).getD k 0 = (C 30).getD k 0 := fun k hk => (x6 k hk).2.2.symm.trans (y6 k hk).2.2
  have E29 : ∀ k, k < 16 → (B 29).getD k 0 = (C 29).getD k 0 := fun k hk => (x7 k hk).1.symm.trans (y7 k hk).1
  have E32 : ∀ k, k < 16 → (B 32).getD k 0 = (C 32).getD k 0 := fun k hk => (x7 k hk).2.symm.trans (y7 k hk).2
  have E35 : ∀ k, k < 10 → (B 35).getD k 0 = (C 35).getD k 0 := fun k hk => (x8 k hk).symm.trans (y8 k hk)
  have E9 : (B 9).getD 0 0 = (C 9).getD 0 0 := x10.symm.trans y10
  have E10 : ∀ k, k < 16 → (B 10).getD k 0 = (C 10).getD k 0 := fun k hk => (x11 k hk).1.symm.trans (y11 k hk).1
  have E11 : ∀ k, k < 16 → (B 11).getD k 0 = (C 11).getD k 0 := fun k hk => (x11 k hk).2.1.symm.trans (y11 k hk).2.1
  have E12 : ∀ k, k < 16 → (B 12).getD k 0 = (C 12).getD k 0 := fun k hk => (x11 k hk).2.2.1.symm.trans (y11 k hk).2.2.1
  have E13 : ∀ k, k < 16 → (B 13).getD k 0 = (C 13).getD k 0 := fun k hk => (x11 k hk).2.2.2.symm.trans (y11 k hk).2.2.2
  have E14 : ∀ k, k < 400 → (B 14).getD k 0 = (C 14).getD k 0 := fun k hk => (x12 k hk).1.symm.trans (y12 k hk).1
  have E15 : ∀ k, k < 400 → (B 15).getD k 0 = (C 15).getD k 0 := fun k hk => (x12 k hk).2.symm.trans (y12 k hk).2
  obtain ⟨⟨w, ⟨t1, t2⟩, ⟨p1, p2⟩, ⟨z, L, D, M, F, sc⟩⟩, ⟨u1, u2, u3, u4, u5⟩⟩ := g
  refine ⟨⟨by rw [q1, q4, q5]; exact w, ⟨t1, t2⟩, ⟨by rw [q6]; exact p1, b6⟩, ⟨⟨b0, h5, (w0.symm.trans z0).trans z.2.2.1, (w1.symm.trans z1).trans z.2.2.2.1, (w2.symm.trans z2).trans z.2.2.2.2⟩, ?_, ?_, ?_, ?_, ⟨sc.1, hl20, hl21⟩⟩⟩, RT_fl u1 (w6.symm.trans z6) b22 E22, RT_fl u2 (w7.symm.trans z7) b29 E29, RT_fl u3 (w8.symm.trans z8) b30 E30, RT_fl u4 (w9.symm.trans z9) b32 E32, RT_fl u5 (w10.symm.trans z10) b35 E35⟩
  · obtain ⟨v, lens, n, cd, n16, c400, a1, a2, a3, a4⟩ := L
    refine ⟨v, ⟨b9, b10, b11, b12, b13, b14, b15⟩, n, cd, n16, c400, a1, E9.trans a2, fun i hi => ?_, fun i hi => ?_⟩
    · rw [E14 i (by omega), E15 i (by omega)]; exact a3 i hi
    · rw [E10 i (by omega), E11 i (by omega), E12 i (by omega), E13 i (by omega)]; exact a4 i hi
  · obtain ⟨⟨v0, v1, v2, v3, v4, v5⟩, n, n16, a1, a2, a3⟩ := D
    refine ⟨⟨v0, v1, v2, v3, v4, b17⟩, n, n16, a1, (w3.symm.trans z3).trans a2, fun i hi => ?_⟩
    rw [E17 (4 * i) (by omega), E17 (4 * i + 1) (by omega), E17 (4 * i + 2) (by omega), E17 (4 * i + 3) (by omega)]
    exact a3 i hi
  · obtain ⟨⟨v0, v1, v2, v3, v4, v5⟩, n, n16, a1, a2, a3⟩ := M
    refine ⟨⟨v0, v1, v2, v3, v4, b18⟩, n, n16, a1, (w4.symm.trans z4).trans a2, fun i hi => ?_⟩
    rw [E18 (3 * i) (by omega), E18 (3 * i + 1) (by omega), E18 (3 * i + 2) (by omega)]
    exact a3 i hi
  · obtain ⟨⟨v0, v1, v2, v3, v4, v5⟩, n, n16, a1, a2, a3, a4⟩ := F
    refine ⟨⟨v0, v1, v2, v3, v4, b19⟩, n, n16, a1, (w5.symm.trans z5).trans a2, a3, fun q hq => ?_⟩
    rw [E19 q hq]; exact a4 q hq
theorem rh45_inj : ∀ i j, i < 98 → j < 98 → rh45 i = rh45 j → i = j := inj_d (by decide +kernel)
theorem rh46_inj : ∀ i j, i < 98 → j < 98 → rh46 i = rh46 j → i = j := inj_d (by decide +kernel)
theorem rh45_v : ∀ i, i < 49 → tin i < 49 ∧ rh45 (tin i) = rh24 i ∧ rh45 (49 + tin i) = rp i := by decide +kernel
theorem rh46_v : ∀ i, i < 49 → tin i < 49 ∧ rh46 (tin i) = rp i ∧ rh46 (49 + tin i) = rh24 i := by decide +kernel
theorem rh45_r : ∀ i, i < 98 → 1 ≤ rh45 i ∧ rh45 i < 99 := by decide +kernel
theorem rh46_r : ∀ i, i < 98 → 1 ≤ rh46 i ∧ rh46 i < 99 := by decide +kernel
set_option maxHeartbeats 1000000 in
theorem copy_all {A : Bk} {ρ r1 r2 : Nat → Nat} (inj : ∀ i j, i < 98 → j < 98 → ρ i = ρ j → i = j) (hv : ∀ i, i < 49 → tin i < 49 ∧ ρ (tin i) = r1 i ∧ ρ (49 + tin i) = r2 i) (hr : ∀ i, i < 98 → 1 ≤ ρ i ∧ ρ i < 99) (h1 : HL (fun i => A (r1 i))) (h2 : HL (fun i => A (r2 i))) (hk : TC (fun i => A (r2 i))) :
    ∃ A', lf ρ 98 gX1_copy A = some (0, A') ∧ HC (fun i => A' (r1 i)) (fun i => A (r2 i)) ∧ (∀ i, i < 49 → A' (r2 i) = A (r2 i)) ∧ ∀ j, j = 0 ∨ 99 ≤ j → A' j = A j := by
  have e1 : ∀ i, i < 49 → (fun i => (fun i => A (ρ i)) (tin i)) i = (fun i => A (r1 i)) i := fun i hi => by
    show A (ρ (tin i)) = A (r1 i)
    rw [(hv i hi).2.1]
  have e2 : ∀ i, i < 49 → (fun i => (fun i => A (ρ i)) (49 + tin i)) i = (fun i => A (r2 i)) i := fun i hi => by
    show A (ρ (49 + tin i)) = A (r2 i)
    rw [(hv i hi).2.2]
  obtain ⟨T', g1, g2, g3⟩ := p_copyH (T := fun i => A (ρ i)) (HL_congr h1 e1) (HL_congr h2 e2) (TC_congr hk e2)
  have pin : ∀ i, i < 98 → pu ρ 98 T' A (ρ i) = T' i := fun i hi => pu_in inj hi T' A
  have p1 : ∀ i, i < 49 → pu ρ 98 T' A (r1 i) = T' (tin i) := fun i hi => by
    rw [← (hv i hi).2.1]; exact pin _ (by have := (hv i hi).1; omega)
  have p2 : ∀ i, i < 49 → pu ρ 98 T' A (r2 i) = A (r2 i) := fun i hi => by
    have := pin (49 + tin i) (by have := (hv i hi).1; omega)
    rw [(hv i hi).2.2] at this
    rw [this, g3 _ (by omega)]
    show A (ρ (49 + tin i)) = _
    rw [(hv i hi).2.2]
  refine ⟨pu ρ 98 T' A, lf_run g1, HC_congr g2 p1 (fun i hi => (e2 i hi).symm), p2, fun j hj => pu_out (fun i hi => by have := hr i hi; omega) T' A⟩
theorem PI_0 {B D : Bk} {tk : Nat} (h64 : (B 0).getD 64 0 = nI tk) (h66 : (B 0).getD 66 0 = nI 0) (h37 : (B 37).length = 2400) (hD : tk = 0 → ∀ k, k < 1889 → (B 37).getD k 0 = fv2 D k) : PI B D tk 0 B :=
  ⟨fun _ => rfl, ⟨h64, h66⟩, ⟨h37, fun k hk => absurd hk (Nat.not_lt_zero k), hD⟩, fun k _ => (if_neg (Nat.not_lt_zero k)).symm, fun _ _ _ _ _ => rfl⟩
theorem lc_no : ∀ k, k < 1889 → ∀ c, c ∈ [2, 3, 7, 8, 16, 20, 21, 23, 24, 25, 26, 27, 28, 31, 33, 34, 36] → lc2 k ≠ c := by
  intro k hk c hc e
  have h1 := lc_in k hk
  rw [e] at h1
  have : ∀ c, c ∈ [2, 3, 7, 8, 16, 20, 21, 23, 24, 25, 26, 27, 28, 31, 33, 34, 36] → ¬ c ∈ [0, 1, 4, 5, 6, 9, 10, 11, 12, 13, 14, 15, 17, 18, 19, 22, 29, 30, 32, 35] := by decide
  exact this c hc h1
/-- cells that no image keeps -/
theorem PI_off {B D S : Bk} {tk pos : Nat} (h : PI B D tk pos S) {c : Nat} (hc : c ∈ [2, 3, 7, 8, 16, 20, 21, 23, 24, 25, 26, 27, 28, 31, 33, 34, 36]) : S c = B c := by
  have h37 : c ≠ 37 := by rintro rfl; exact absurd hc (by decide)
  have h0 : c ≠ 0 := by rintro rfl; exact absurd hc (by decide)
  exact gd_ext (h.1 c) (fun i _ => h.2.2.2.2 c i h37 (fun k hk q => lc_no k hk c hc q.1) (fun q => h0 q.1))
theorem PI_slot {B D S : Bk} {tk pos : Nat} (h : PI B D tk pos S) {i : Nat} (hi : i ∉ slk) (h6 : i ≠ 66) : (S 0).getD i 0 = (B 0).getD i 0 :=
  h.2.2.2.2 0 i (by decide) (fun k hk q => hi (by rw [← q.2]; exact (loc_all k hk).2.2.2 q.1)) (fun q => h6 q.2)
/-- where the image is taken, nothing else changes -/
theorem PI_same {B S : Bk} (h : PI B B 1 1889 S) {c : Nat} (hc : c ≠ 37) {i : Nat} (hi : ¬ (c = 0 ∧ i = 66)) : (S c).getD i 0 = (B c).getD i 0 := by
  by_cases e : ∃ k, k < 1889 ∧ lc2 k = c ∧ li2 k = i
  · obtain ⟨k, hk, e1, e2⟩ := e
    have := h.2.2.2.1 k hk
    rw [if_pos hk, fv_at ⟨e1, e2⟩, fv_at ⟨e1, e2⟩] at this
    exact this
  · exact h.2.2.2.2 c i hc (fun k hk q => e ⟨k, hk, q.1, q.2⟩) hi
set_option maxHeartbeats 1000000 in
theorem img_class_t {A A1 : Bk} (g : lf rh46 98 gX1_copy A = some (0, A1)) (h0 : (A1 0).length = 10) : gX10_image 1 A = some (1, up A1 0 ((A1 0).set 2 1)) := by
  unfold gX10_image
  rw [if_neg (by decide), bd_some g, bd_svz _ (Or.inr rfl) (by omega)]; rfl
set_option maxHeartbeats 1000000 in
theorem img_class_f {A A1 : Bk} (ha : (A 0).length = 10) (h2 : (A 0).getD 2 0 = nI 1) (g : lf rh45 98 gX1_copy A = some (0, A1)) (h0 : (A1 0).length = 10) : gX10_image 0 A = some (1, up A1 0 ((A1 0).set 5 0)) := by
  unfold gX10_image
  rw [if_pos rfl, bd_ld _ (by omega), h2, if_neg (by decide), bd_some g, bd_sv _ (by omega)]; rfl
def sl3 (l : List Int32) (v : Int32) : List Int32 := ((l.set 64 v).set 65 1).set 66 0
theorem sl3_ok {l : List Int32} {v : Int32} (h : l.length = 68) : (sl3 l v).length = 68 ∧ (sl3 l v).getD 64 0 = v ∧ (sl3 l v).getD 65 0 = 1 ∧ (sl3 l v).getD 66 0 = 0 ∧ ∀ k, k < 64 → (sl3 l v).getD k 0 = l.getD k 0 := by
  unfold sl3
  refine ⟨by simp only [List.length_set]; exact h, ?_, ?_, ?_, fun k hk => ?_⟩
  · rw [gd_set_ne (by decide), gd_set_ne (by decide), gd_set_same (by omega)]
  · rw [gd_set_ne (by decide), gd_set_same (by rw [List.length_set]; omega)]
  · rw [gd_set_same (by rw [List.length_set, List.length_set]; omega)]
  · rw [gd_set_ne (by omega), gd_set_ne (by omega), gd_set_ne (by omega)]
set_option maxHeartbeats 1000000 in
theorem img_ref {B0 B : Bk} {tk : Nat} (hb : (B 0).length = 68) (hB0 : B0 = up B 0 ((B 0).set 0 0)) (hz : (B0 0).length = 68) (ht : tk ≤ 1) (h65 : tk = 0 → ¬ (B0 0).getD 65 0 = 0) : gX11_image (nI tk) B = mg1 (nI tk) (up B0 0 (sl3 (B0 0) (nI tk))) := by
  have hv : nI tk = 0 ∨ nI tk = 1 := by
    rcases (show tk = 0 ∨ tk = 1 by omega) with q | q <;> subst q
    · exact Or.inl rfl
    · exact Or.inr rfl
  have core : (bd (svz 0 64 (nI tk)) fun _ => bd (svz 0 65 1) fun _ => bd (sv 0 66 0) fun _ => (mg1 (nI tk))) B0 = mg1 (nI tk) (up B0 0 (sl3 (B0 0) (nI tk))) := by
    rw [bd_svz _ hv (by omega), bd_svz _ (Or.inr rfl) (by rw [up_same, List.length_set]; omega), up_same, up_up, bd_sv _ (by rw [up_same, List.length_set, List.length_set]; omega), up_same, up_up]; rfl
  rw [mge_eq, told0 _ hb, ← hB0]
  simp only [jn_eq]
  by_cases c : tk = 0
  · rw [if_pos (show nI tk = 0 by rw [c]; rfl), bd_ld _ (by omega), if_neg (h65 c)]
    exact core
  · rw [if_neg (show ¬ nI tk = 0 from fun q => c ((nI_0i (by omega)).mp q))]
    exact core
set_option maxHeartbeats 1000000 in
theorem img_none {B0 B : Bk} (hb : (B 0).length = 68) (hB0 : B0 = up B 0 ((B 0).set 0 0)) (hz : (B0 0).length = 68) (h65 : (B0 0).getD 65 0 = 0) : gX11_image 0 B = some (0, B0) := by
  rw [mge_eq, told0 _ hb, ← hB0]
  simp only [jn_eq]
  rw [if_pos trivial, bd_ld _ (by omega), h65, if_pos rfl]; rfl
set_option maxHeartbeats 1000000 in
theorem op_image {A B : Bk} (h : R A B) (x : Int32) (hx : x = 0 ∨ x = 1) : ∃ r A' B', gX10_image x A = some (r, A') ∧ gX11_image x B = some (r, B') ∧ R A' B' := by
  have hb0 := R_B0 h
  have hRt := R_told h
  obtain ⟨B0, hB0⟩ : ∃ z, z = up B 0 ((B 0).set 0 0) := ⟨_, rfl⟩
  rw [← hB0] at hRt
  have z0 := R_B0 hRt
  obtain ⟨⟨np, nc, nt, ks, wh, hH, hU⟩, hT, hI, hA, hB⟩ := id hRt
  obtain ⟨hW, hw0⟩ := R_W hH
  obtain ⟨hl, ⟨hn1, hn2, hn3, hn4⟩, ⟨p1, p2, p3, p4, p5, p6⟩, he, ⟨s1, s2, s3, s4, s5, s6, s7⟩, hod, ho, hd, hw, ⟨k1, k2, k3⟩⟩ := id hW
  obtain ⟨l0, l1, l2, l3, l4, l5, l6, l7, l8, l9, l10, l11, l12⟩ := id hl
  have b6 : (B0 0).getD 6 0 = nI np := hH.1.2.2.2.1.2.2.1
  have b7 : (B0 0).getD 7 0 = nI nc := hH.1.2.2.2.1.2.2.2.1
  have b8 : (B0 0).getD 8 0 = nI nt := hH.1.2.2.2.1.2.2.2.2
  have m4 : (B0 4).length = 20 := by rw [← hod.1]; exact l8
  have m5 : (B0 5).length = 20 := by rw [← hod.2]; exact l9
  have a0 : (A 0).length = 10 := hU.1
  have m37 : (B0 37).length = 2400 := hI.1
  obtain ⟨o1, o2, o3, o4, o5⟩ := sl3_ok (v := (1 : Int32)) z0
  obtain ⟨i1, i2, i3⟩ := hI
  have hx49 : ∀ i, i < 49 → rh24 i < 99 ∧ rh24 i ≠ 0 := rh24_w
  rcases hx with rfl | rfl
  · rcases i3 with ⟨j1, j2⟩ | ⟨j1, j2, C, np', nc', nt', ks', wh', j3, j4⟩
    · refine ⟨0, A, B0, ?_, img_none hb0 hB0 z0 j2, hRt⟩
      unfold gX10_image
      rw [if_pos rfl, bd_ld _ (by omega), j1, if_pos rfl]; rfl
    · have hC0 : HL (fun i => A (rp i)) := i2
      obtain ⟨A1, g1, g2, g3, g4⟩ := copy_all (A := A) (r1 := rh24) (r2 := rp) rh45_inj rh45_v rh45_r (HL_HH hH) hC0 (TC_HH j3)
      obtain ⟨o1, o2, o3, o4, o5⟩ := sl3_ok (v := (0 : Int32)) z0
      obtain ⟨B1, hB1⟩ : ∃ B1, up B0 0 (sl3 (B0 0) 0) = B1 := ⟨_, rfl⟩
      have b10 : B1 0 = sl3 (B0 0) 0 := by rw [← hB1, up_same]
      have b1n : ∀ c, c ≠ 0 → B1 c = B0 c := fun c hc => by rw [← hB1, up_ne _ _ hc]
      have hHB1 : HH (fun i => A (rh24 i)) B1 np nc nt ks wh := HH_HE hH ⟨fun _ _ _ _ => rfl, rfl, rfl, fun i hi => b1n i (by rintro rfl; exact absurd hi (by decide)), by rw [b1n 20 (by decide)], by rw [b1n 21 (by decide)], by rw [b10, o1, z0], fun k hk => by rw [b10]; exact o5 k (by revert hk; revert k; decide)⟩
      have hCB : CB B1 C 0 := ⟨by decide, by rw [b10]; exact o1, by rw [b1n 37 (by decide)]; exact m37, LB_HH hHB1, fun q => absurd q (by decide)⟩
      obtain ⟨r, S', q1, rfl, S1, q2, q3⟩ := p_mg1 hCB (PI_0 (B := B1) (D := C) (by rw [b10]; exact o2) (by rw [b10]; exact o4) (by rw [b1n 37 (by decide)]; exact m37) (fun _ => by rw [b1n 37 (by decide)]; exact flat_fv j4))
      rw [if_pos rfl] at q3
      have s0 : S' 0 = (S1 0).set 3 0 := by rw [q3, up_same]
      have sn : ∀ c, c ≠ 0 → S' c = S1 c := fun c hc => by rw [q3, up_ne _ _ hc]
      have sl : ∀ c, (S' c).length = (B1 c).length := fun c => by
        by_cases e : c = 0
        · rw [e, s0, List.length_set]; exact q2.1 0
        · rw [sn c e]; exact q2.1 c
      have sl0 : (S1 0).length = 68 := by rw [q2.1 0, b10]; exact o1
      have soff : ∀ c, c ∈ [2, 3, 7, 8, 16, 20, 21, 23, 24, 25, 26, 27, 28, 31, 33, 34, 36] → S' c = B0 c := fun c hc => by
        have h0 : c ≠ 0 := by rintro rfl; exact absurd hc (by decide)
        rw [sn c h0, PI_off q2 hc, b1n c h0]
      have sslot : ∀ i, i ∉ slk → i ≠ 66 → i ≠ 3 → i < 64 → (S' 0).getD i 0 = (B0 0).getD i 0 := fun i p1 p2 p3 p4 => by
        rw [s0, gd_set_ne (fun q => p3 q.symm), PI_slot q2 p1 p2, b10]; exact o5 i p4
      have sfv : ∀ k, k < 1889 → fv2 S' k = fv2 C k := fun k hk => by
        have := q2.2.2.2.1 k hk
        rw [if_pos hk] at this
        rw [← this]
        unfold fv2
        by_cases e : lc2 k = 0
        · rw [e, s0, gd_set_ne (fun q => by
            have := (loc_all k hk).2.2.2 e
            rw [← q] at this
            exact absurd this (by decide))]
        · rw [sn _ e]
      obtain ⟨A2, hA2⟩ : ∃ A2, up A1 0 ((A1 0).set 5 0) = A2 := ⟨_, rfl⟩
      have a10 : (A1 0).length = 10 := by rw [g4 0 (Or.inl rfl)]; exact a0
      have a2n : ∀ j, j ≠ 0 → A2 j = A1 j := fun j hj => by rw [← hA2, up_ne _ _ hj]
      have a20 : A2 0 = (A 0).set 5 0 := by rw [← hA2, up_same, g4 0 (Or.inl rfl)]
      have a2f : ∀ j, 99 ≤ j → A2 j = A j := fun j hj => by rw [a2n j (by omega)]; exact g4 j (Or.inr hj)
      have a2p : ∀ i, i < 49 → A2 (rp i) = A (rp i) := fun i hi => by
        have := rp_r i hi
        rw [a2n _ (by omega)]; exact g3 i hi
      have hHC : HC (fun i => A2 (rh24 i)) (fun i => A (rp i)) := HC_congr g2 (fun i hi => a2n _ (hx49 i hi).2) (fun _ _ => rfl)
      have hHH : HH (fun i => A2 (rh24 i)) S' np' nc' nt' ks' wh' := by
        refine HH_flat (HH_cp hHC j3) ?_ ?_ ?_ ?_ sfv
        · intro c hc hk
          rw [sl c]
          exact hCB.2.2.2.1 c hc hk
        · rw [soff 20 (by decide)]; exact hH.1.2.2.2.2.2.2.2.2.2.1
        · rw [soff 21 (by decide)]; exact hH.1.2.2.2.2.2.2.2.2.2.2
        · rw [sslot 5 (by decide) (by decide) (by decide) (by decide)]; exact hH.1.2.2.2.1.2.1
      refine ⟨1, A2, S', by rw [← hA2]; exact img_class_f a0 j1 g1 a10, ?_, ⟨⟨np', nc', nt', ks', wh', hHH, UD_zero hU (by rw [a20, List.length_set]) (by rw [a20, gd_set_same (by omega)]) (a2f 112 (by decide)) (fun j w1 _ => a2f j (by omega)) (by rw [soff 2 (by decide)]) (by rw [s0, gd_set_same (by omega)])⟩, TP_congr hT (a2f 113 (by decide)) (a2f 114 (by decide)) (soff 7 (by decide)) (sslot 13 (by decide) (by decide) (by decide) (by decide)) (sslot 33 (by decide) (by decide) (by decide) (by decide)) (sslot 34 (by decide) (by decide) (by decide) (by decide)), ⟨?_, HL_congr i2 a2p, Or.inr ⟨?_, ?_, C, np', nc', nt', ks', wh', HH_HE j3 (HE_rfl_B a2p), ?_⟩⟩, SCA_congr hA (fun j w1 _ => by rw [a2f j w1]) (by rw [a2f 99 (by decide)]), SCB_congr hB (fun j hj => ?_) (soff 8 (by decide)) (soff 33 (by decide))⟩⟩
      · have := img_ref (tk := 0) hb0 hB0 z0 (by decide) (fun _ => by rw [j2]; decide)
        exact this.trans (by rw [show nI 0 = (0 : Int32) from rfl, hB1]; exact q1)
      · rw [sl 37, b1n 37 (by decide)]; exact m37
      · rw [a20, gd_set_ne (by decide)]; exact j1
      · rw [s0, gd_set_ne (by decide), PI_slot q2 (by decide) (by decide), b10]; exact o3
      · rw [sn 37 (by decide)]
        exact fv_flat (fun k hk => q2.2.2.1.2.1 k hk)
      · rw [soff j (by revert hj; revert j; decide)]
  · obtain ⟨A1, g1, g2, g3, g4⟩ := copy_all (A := A) (r1 := rp) (r2 := rh24) rh46_inj rh46_v rh46_r i2 (HL_HH hH) (TC_HH hH)
    obtain ⟨B1, hB1⟩ : ∃ B1, up B0 0 (sl3 (B0 0) 1) = B1 := ⟨_, rfl⟩
    have b10 : B1 0 = sl3 (B0 0) 1 := by rw [← hB1, up_same]
    have b1n : ∀ c, c ≠ 0 → B1 c = B0 c := fun c hc => by rw [← hB1, up_ne _ _ hc]
    have hHB1 : HH (fun i => A (rh24 i)) B1 np nc nt ks wh := HH_HE hH ⟨fun _ _ _ _ => rfl, rfl, rfl, fun i hi => b1n i (by rintro rfl; exact absurd hi (by decide)), by rw [b1n 20 (by decide)], by rw [b1n 21 (by decide)], by rw [b10, o1, z0], fun k hk => by rw [b10]; exact o5 k (by revert hk; revert k; decide)⟩
    have hCB : CB B1 B1 1 := ⟨by decide, by rw [b10]; exact o1, by rw [b1n 37 (by decide)]; exact m37, LB_HH hHB1, fun _ _ _ => rfl⟩
    obtain ⟨r, S', q1, rfl, S1, q2, q3⟩ := p_mg1 hCB (PI_0 (B := B1) (D := B1) (by rw [b10]; exact o2) (by rw [b10]; exact o4) (by rw [b1n 37 (by decide)]; exact m37) (fun q => absurd q (by decide)))
    rw [if_neg (by decide)] at q3
    subst q3
    have sc : ∀ c, c ≠ 0 → c ≠ 37 → S' c = B0 c := fun c h1 h2 => by
      rw [← b1n c h1]
      exact gd_ext (q2.1 c) (fun i _ => PI_same q2 h2 (fun q => h1 q.1))
    have ss : ∀ i, i < 64 → (S' 0).getD i 0 = (B0 0).getD i 0 := fun i hi => by
      rw [PI_same q2 (by decide) (fun q => by omega), b10]; exact o5 i hi
    have sl0 : (S' 0).length = 68 := by rw [q2.1 0, b10]; exact o1
    obtain ⟨A2, hA2⟩ : ∃ A2, up A1 0 ((A1 0).set 2 1) = A2 := ⟨_, rfl⟩
    have a10 : (A1 0).length = 10 := by rw [g4 0 (Or.inl rfl)]; exact a0
    have a2n : ∀ j, j ≠ 0 → A2 j = A1 j := fun j hj => by rw [← hA2, up_ne _ _ hj]
    have a20 : A2 0 = (A 0).set 2 1 := by rw [← hA2, up_same, g4 0 (Or.inl rfl)]
    have a2f : ∀ j, 99 ≤ j → A2 j = A j := fun j hj => by rw [a2n j (by omega)]; exact g4 j (Or.inr hj)
    have a2h : ∀ i, i < 49 → A2 (rh24 i) = A (rh24 i) := fun i hi => by
      rw [a2n _ (hx49 i hi).2]; exact g3 i hi
    have hHC : HC (fun i => A2 (rp i)) (fun i => A (rh24 i)) := HC_congr g2 (fun i hi => a2n _ (by have := rp_r i hi; omega)) (fun _ _ => rfl)
    have hHH : HH (fun i => A2 (rh24 i)) S' np nc nt ks wh := HH_HE hH ⟨fun i hi _ _ => a2h i hi, by show (A2 (rh24 9)).length = _; rw [a2h 9 (by decide)], by show (A2 (rh24 35)).length = _; rw [a2h 35 (by decide)], fun i hi => sc i (by rintro rfl; exact absurd hi (by decide)) (by rintro rfl; exact absurd hi (by decide)), by rw [sc 20 (by decide) (by decide)], by rw [sc 21 (by decide) (by decide)], by rw [sl0, z0], fun k hk => ss k (by revert hk; revert k; decide)⟩
    refine ⟨1, A2, S', by rw [← hA2]; exact img_class_t g1 a10, ?_, ⟨⟨np, nc, nt, ks, wh, hHH, UD_congr hU (by rw [a20, List.length_set]) (by rw [a20, gd_set_ne (by decide)]) (a2f 112 (by decide)) (fun j w1 _ => a2f j (by omega)) (sc 2 (by decide) (by decide)) (sc 4 (by decide) (by decide)) (sc 5 (by decide) (by decide)) (ss 3 (by decide))⟩, TP_congr hT (a2f 113 (by decide)) (a2f 114 (by decide)) (sc 7 (by decide) (by decide)) (ss 13 (by decide)) (ss 33 (by decide)) (ss 34 (by decide)), ⟨?_, HL_cp hHC (HL_HH hH), Or.inr ⟨?_, ?_, B1, np, nc, nt, ks, wh, HH_cp hHC hHB1, ?_⟩⟩, SCA_congr hA (fun j w1 _ => by rw [a2f j w1]) (by rw [a2f 99 (by decide)]), SCB_congr hB (fun j hj => ?_) (sc 8 (by decide) (by decide)) (sc 33 (by decide) (by decide))⟩⟩
    · have := img_ref (tk := 1) hb0 hB0 z0 (by decide) (fun q => absurd q (by decide))
      exact this.trans (by rw [show nI 1 = (1 : Int32) from rfl, hB1]; exact q1)
    · rw [q2.1 37, b1n 37 (by decide)]; exact m37
    · rw [a20, gd_set_same (by omega)]; rfl
    · rw [PI_same q2 (by decide) (by decide), b10]; exact o3
    · exact fv_flat (fun k hk => q2.2.2.1.2.1 k hk)
    · rw [sc j (by rintro rfl; exact absurd hj (by decide)) (by rintro rfl; exact absurd hj (by decide))]
