/-! PURE: image, the reference keeps and takes back -/
def kq6B : (Int32 → MM Int32) → Int32 → MM Int32 := fun (self33 : Int32 → MM Int32) (s34 : Int32) =>
  (if 10 ≤ s34 then
  pr 0
  else
  bd (la 35 s34) fun v35 =>
  bd (gX11_keeps v35) fun r36 =>
  bd (sa 35 s34 r36) fun _ =>
  lt (s34 + 1) fun y37 =>
  self33 y37)
def kq6 : MM Int32 := loopC 100000 (kq6B) 0
def kq5B : (Int32 → MM Int32) → Int32 → MM Int32 := fun (self31 : Int32 → MM Int32) (s32 : Int32) =>
  (if 16 ≤ s32 then
  (kq6)
  else
  bd (la 29 s32) fun v38 =>
  bd (gX11_keeps v38) fun r39 =>
  bd (sa 29 s32 r39) fun _ =>
  bd (la 32 s32) fun v40 =>
  bd (gX11_keeps v40) fun r41 =>
  bd (sa 32 s32 r41) fun _ =>
  lt (s32 + 1) fun y42 =>
  self31 y42)
def kq5 : MM Int32 := loopC 100000 (kq5B) 0
def kq4B : (Int32 → MM Int32) → Int32 → MM Int32 := fun (self29 : Int32 → MM Int32) (s30 : Int32) =>
  (if 12 ≤ s30 then
  (kq5)
  else
  bd (la 19 s30) fun v43 =>
  bd (gX11_keeps v43) fun r44 =>
  bd (sa 19 s30 r44) fun _ =>
  bd (la 22 s30) fun v45 =>
  bd (gX11_keeps v45) fun r46 =>
  bd (sa 22 s30 r46) fun _ =>
  bd (la 30 s30) fun v47 =>
  bd (gX11_keeps v47) fun r48 =>
  bd (sa 30 s30 r48) fun _ =>
  lt (s30 + 1) fun y49 =>
  self29 y49)
def kq4 : MM Int32 := loopC 100000 (kq4B) 0
def kq3B : (Int32 → MM Int32) → Int32 → MM Int32 := fun (self27 : Int32 → MM Int32) (s28 : Int32) =>
  (if 48 ≤ s28 then
  (kq4)
  else
  bd (la 18 s28) fun v50 =>
  bd (gX11_keeps v50) fun r51 =>
  bd (sa 18 s28 r51) fun _ =>
  lt (s28 + 1) fun y52 =>
  self27 y52)
def kq3 : MM Int32 := loopC 100000 (kq3B) 0
def kq2B : (Int32 → MM Int32) → Int32 → MM Int32 := fun (self25 : Int32 → MM Int32) (s26 : Int32) =>
  (if 64 ≤ s26 then
  (kq3)
  else
  bd (la 17 s26) fun v53 =>
  bd (gX11_keeps v53) fun r54 =>
  bd (sa 17 s26 r54) fun _ =>
  lt (s26 + 1) fun y55 =>
  self25 y55)
def kq2 : MM Int32 := loopC 100000 (kq2B) 0
def kq1B : (Int32 → MM Int32) → Int32 → MM Int32 := fun (self23 : Int32 → MM Int32) (s24 : Int32) =>
  (if 20 ≤ s24 then
  (kq2)
  else
  bd (la 4 s24) fun v56 =>
  bd (gX11_keeps v56) fun r57 =>
  bd (sa 4 s24 r57) fun _ =>
  bd (la 5 s24) fun v58 =>
  bd (gX11_keeps v58) fun r59 =>
  bd (sa 5 s24 r59) fun _ =>
  lt (s24 + 1) fun y60 =>
  self23 y60)
def kq1 : MM Int32 := loopC 100000 (kq1B) 0
theorem kqe_eq : gX11_keepsTold =
  bd (ld 0 6) fun v1 =>
  bd (gX11_keeps v1) fun r2 =>
  bd (sv 0 6 r2) fun _ =>
  bd (ld 0 7) fun v3 =>
  bd (gX11_keeps v3) fun r4 =>
  bd (sv 0 7 r4) fun _ =>
  bd (ld 0 8) fun v5 =>
  bd (gX11_keeps v5) fun r6 =>
  bd (sv 0 8 r6) fun _ =>
  bd (ld 0 35) fun v7 =>
  bd (gX11_keeps v7) fun r8 =>
  bd (sv 0 35 r8) fun _ =>
  bd (ld 0 37) fun v9 =>
  bd (gX11_keeps v9) fun r10 =>
  bd (sv 0 37 r10) fun _ =>
  bd (ld 0 39) fun v11 =>
  bd (gX11_keeps v11) fun r12 =>
  bd (sv 0 39 r12) fun _ =>
  bd (ld 0 43) fun v13 =>
  bd (gX11_keeps v13) fun r14 =>
  bd (sv 0 43 r14) fun _ =>
  bd (ld 0 52) fun v15 =>
  bd (gX11_keeps v15) fun r16 =>
  bd (sv 0 52 r16) fun _ =>
  bd (ld 0 54) fun v17 =>
  bd (gX11_keeps v17) fun r18 =>
  bd (sv 0 54 r18) fun _ =>
  bd (ld 0 57) fun v19 =>
  bd (gX11_keeps v19) fun r20 =>
  bd (sv 0 57 r20) fun _ =>
  bd (ld 0 61) fun v21 =>
  bd (gX11_keeps v21) fun r22 =>
  bd (sv 0 61 r22) fun _ =>
  (kq1) := rfl
def kl2B : (Int32 → MM Int32) → Int32 → MM Int32 := fun (self5 : Int32 → MM Int32) (s6 : Int32) =>
  (if 400 ≤ s6 then
  pr 0
  else
  bd (la 14 s6) fun v7 =>
  bd (gX11_keeps v7) fun r8 =>
  bd (sa 14 s6 r8) fun _ =>
  bd (la 15 s6) fun v9 =>
  bd (gX11_keeps v9) fun r10 =>
  bd (sa 15 s6 r10) fun _ =>
  lt (s6 + 1) fun y11 =>
  self5 y11)
def kl2 : MM Int32 := loopC 100000 (kl2B) 0
def kl1B : (Int32 → MM Int32) → Int32 → MM Int32 := fun (self3 : Int32 → MM Int32) (s4 : Int32) =>
  (if 16 ≤ s4 then
  (kl2)
  else
  bd (la 10 s4) fun v12 =>
  bd (gX11_keeps v12) fun r13 =>
  bd (sa 10 s4 r13) fun _ =>
  bd (la 11 s4) fun v14 =>
  bd (gX11_keeps v14) fun r15 =>
  bd (sa 11 s4 r15) fun _ =>
  bd (la 12 s4) fun v16 =>
  bd (gX11_keeps v16) fun r17 =>
  bd (sa 12 s4 r17) fun _ =>
  bd (la 13 s4) fun v18 =>
  bd (gX11_keeps v18) fun r19 =>
  bd (sa 13 s4 r19) fun _ =>
  lt (s4 + 1) fun y20 =>
  self3 y20)
def kl1 : MM Int32 := loopC 100000 (kl1B) 0
theorem kle_eq : gX11_keepsLaw =
  bd (la 9 0) fun v1 =>
  bd (gX11_keeps v1) fun r2 =>
  bd (sa 9 0 r2) fun _ =>
  (kl1) := rfl
def mg2B (x1 : Int32) : (Int32 → MM Int32) → Int32 → MM Int32 := fun (self6 : Int32 → MM Int32) (s7 : Int32) =>
  (if 600 ≤ s7 then
  bd gX11_keepsLaw fun r8 =>
  jn (fun (a10 : Unit) =>
  rz 1) (fun j9 =>
  (if x1 = 0 then
  bd (sv 0 3 0) fun _ =>
  j9 ()
  else
  j9 ()))
  else
  bd (la 6 s7) fun v11 =>
  bd (gX11_keeps v11) fun r12 =>
  bd (sa 6 s7 r12) fun _ =>
  lt (s7 + 1) fun y13 =>
  self6 y13)
def mg2 (x1 : Int32) : MM Int32 := loopC 100000 (mg2B x1) 0
def mg1B (x1 : Int32) : (Int32 → MM Int32) → Int32 → MM Int32 := fun (self3 : Int32 → MM Int32) (s4 : Int32) =>
  (if 183 ≤ s4 then
  bd gX11_keepsTold fun r5 =>
  (mg2 x1)
  else
  bd (la 1 s4) fun v14 =>
  bd (gX11_keeps v14) fun r15 =>
  bd (sa 1 s4 r15) fun _ =>
  lt (s4 + 1) fun y16 =>
  self3 y16)
def mg1 (x1 : Int32) : MM Int32 := loopC 100000 (mg1B x1) 0
theorem mge_eq (x1 : Int32) : gX11_image x1 =
  bd (sv 0 0 0) fun _ =>
  jn (fun (a2 : Unit) =>
  bd (svz 0 64 x1) fun _ =>
  bd (svz 0 65 1) fun _ =>
  bd (sv 0 66 0) fun _ =>
  (mg1 x1)) (fun j1 =>
  (if x1 = 0 then
  bd (ld 0 65) fun v17 =>
  (if v17 = 0 then
  rz 0
  else
  j1 ())
  else
  j1 ())) := rfl
theorem lcf_kq6 : ∀ j, j < 10 → (lc2 (414 + 1 * j + 0) = 35 ∧ li2 (414 + 1 * j + 0) = j) := by decide +kernel
set_option maxHeartbeats 400000 in
theorem p_kq6 {B D S : Bk} {tk : Nat} (hC : CB B D tk) (h : PI B D tk 414 S) : Ht (kq6 S) (fun _ S' => PI B D tk 424 S') := by
  unfold kq6
  refine loopI 10 (fun j s A => s = nI j ∧ PI B D tk (414 + 1 * j) A) _ (fun j s A hj hI => ?_) (fun s A hI f => ?_) (by omega) ⟨rfl, h⟩
  · obtain ⟨rfl, h0⟩ := hI
    obtain ⟨a0, b0⟩ := lcf_kq6 j hj
    obtain ⟨S1, h1, g1⟩ := kp_la hC (show 414 + 1 * j + 0 < 1889 by omega) h0 a0 b0 (by decide)
    refine ⟨nI (j + 1), S1, fun f => ?_, rfl, by rw [show 414 + 1 * (j + 1) = 414 + 1 * j + 0 + 1 by omega]; exact h1⟩
    unfold kq6B
    rw [if_neg (show ¬ (10 : Int32) ≤ nI j from nI_ge (b := 10) hj (by omega))]
    refine (g1 _).trans ?_
    rw [lt_eq, nI_1]
  · obtain ⟨rfl, h0⟩ := hI
    unfold kq6B
    rw [if_pos (show (10 : Int32) ≤ nI 10 from Int32.le_refl _)]
    exact ⟨_, _, rfl, h0⟩
theorem lcf_kq5 : ∀ j, j < 16 → (lc2 (382 + 2 * j + 0) = 29 ∧ li2 (382 + 2 * j + 0) = j) ∧ (lc2 (382 + 2 * j + 1) = 32 ∧ li2 (382 + 2 * j + 1) = j) := by decide +kernel
set_option maxHeartbeats 400000 in
theorem p_kq5 {B D S : Bk} {tk : Nat} (hC : CB B D tk) (h : PI B D tk 382 S) : Ht (kq5 S) (fun _ S' => PI B D tk 424 S') := by
  unfold kq5
  refine loopI 16 (fun j s A => s = nI j ∧ PI B D tk (382 + 2 * j) A) _ (fun j s A hj hI => ?_) (fun s A hI f => ?_) (by omega) ⟨rfl, h⟩
  · obtain ⟨rfl, h0⟩ := hI
    obtain ⟨⟨a0, b0⟩, ⟨a1, b1⟩⟩ := lcf_kq5 j hj
    obtain ⟨S1, h1, g1⟩ := kp_la hC (show 382 + 2 * j + 0 < 1889 by omega) h0 a0 b0 (by decide)
    obtain ⟨S2, h2, g2⟩ := kp_la hC (show 382 + 2 * j + 1 < 1889 by omega) h1 a1 b1 (by decide)
    refine ⟨nI (j + 1), S2, fun f => ?_, rfl, by rw [show 382 + 2 * (j + 1) = 382 + 2 * j + 1 + 1 by omega]; exact h2⟩
    unfold kq5B
    rw [if_neg (show ¬ (16 : Int32) ≤ nI j from nI_ge (b := 16) hj (by omega))]
    refine (g1 _).trans ?_
    refine (g2 _).trans ?_
    rw [lt_eq, nI_1]
  · obtain ⟨rfl, h0⟩ := hI
    unfold kq5B
    rw [if_pos (show (16 : Int32) ≤ nI 16 from Int32.le_refl _)]
    exact p_kq6 hC h0
theorem lcf_kq4 : ∀ j, j < 12 → (lc2 (346 + 3 * j + 0) = 19 ∧ li2 (346 + 3 * j + 0) = j) ∧ (lc2 (346 + 3 * j + 1) = 22 ∧ li2 (346 + 3 * j + 1) = j) ∧ (lc2 (346 + 3 * j + 2) = 30 ∧ li2 (346 + 3 * j + 2) = j) := by decide +kernel
set_option maxHeartbeats 400000 in
theorem p_kq4 {B D S : Bk} {tk : Nat} (hC : CB B D tk) (h : PI B D tk 346 S) : Ht (kq4 S) (fun _ S' => PI B D tk 424 S') := by
  unfold kq4
  refine loopI 12 (fun j s A => s = nI j ∧ PI B D tk (346 + 3 * j) A) _ (fun j s A hj hI => ?_) (fun s A hI f => ?_) (by omega) ⟨rfl, h⟩
  · obtain ⟨rfl, h0⟩ := hI
    obtain ⟨⟨a0, b0⟩, ⟨a1, b1⟩, ⟨a2, b2⟩⟩ := lcf_kq4 j hj
    obtain ⟨S1, h1, g1⟩ := kp_la hC (show 346 + 3 * j + 0 < 1889 by omega) h0 a0 b0 (by decide)
    obtain ⟨S2, h2, g2⟩ := kp_la hC (show 346 + 3 * j + 1 < 1889 by omega) h1 a1 b1 (by decide)
    obtain ⟨S3, h3, g3⟩ := kp_la hC (show 346 + 3 * j + 2 < 1889 by omega) h2 a2 b2 (by decide)
    refine ⟨nI (j + 1), S3, fun f => ?_, rfl, by rw [show 346 + 3 * (j + 1) = 346 + 3 * j + 2 + 1 by omega]; exact h3⟩
    unfold kq4B
    rw [if_neg (show ¬ (12 : Int32) ≤ nI j from nI_ge (b := 12) hj (by omega))]
    refine (g1 _).trans ?_
    refine (g2 _).trans ?_
    refine (g3 _).trans ?_
    rw [lt_eq, nI_1]
  · obtain ⟨rfl, h0⟩ := hI
    unfold kq4B
    rw [if_pos (show (12 : Int32) ≤ nI 12 from Int32.le_refl _)]
    exact p_kq5 hC h0
theorem lcf_kq3 : ∀ j, j < 48 → (lc2 (298 + 1 * j + 0) = 18 ∧ li2 (298 + 1 * j + 0) = j) := by decide +kernel
set_option maxHeartbeats 400000 in
theorem p_kq3 {B D S : Bk} {tk : Nat} (hC : CB B D tk) (h : PI B D tk 298 S) : Ht (kq3 S) (fun _ S' => PI B D tk 424 S') := by
  unfold kq3
  refine loopI 48 (fun j s A => s = nI j ∧ PI B D tk (298 + 1 * j) A) _ (fun j s A hj hI => ?_) (fun s A hI f => ?_) (by omega) ⟨rfl, h⟩
  · obtain ⟨rfl, h0⟩ := hI
    obtain ⟨a0, b0⟩ := lcf_kq3 j hj
    obtain ⟨S1, h1, g1⟩ := kp_la hC (show 298 + 1 * j + 0 < 1889 by omega) h0 a0 b0 (by decide)
    refine ⟨nI (j + 1), S1, fun f => ?_, rfl, by rw [show 298 + 1 * (j + 1) = 298 + 1 * j + 0 + 1 by omega]; exact h1⟩
    unfold kq3B
    rw [if_neg (show ¬ (48 : Int32) ≤ nI j from nI_ge (b := 48) hj (by omega))]
    refine (g1 _).trans ?_
    rw [lt_eq, nI_1]
  · obtain ⟨rfl, h0⟩ := hI
    unfold kq3B
    rw [if_pos (show (48 : Int32) ≤ nI 48 from Int32.le_refl _)]
    exact p_kq4 hC h0
theorem lcf_kq2 : ∀ j, j < 64 → (lc2 (234 + 1 * j + 0) = 17 ∧ li2 (234 + 1 * j + 0) = j) := by decide +kernel
set_option maxHeartbeats 400000 in
theorem p_kq2 {B D S : Bk} {tk : Nat} (hC : CB B D tk) (h : PI B D tk 234 S) : Ht (kq2 S) (fun _ S' => PI B D tk 424 S') := by
  unfold kq2
  refine loopI 64 (fun j s A => s = nI j ∧ PI B D tk (234 + 1 * j) A) _ (fun j s A hj hI => ?_) (fun s A hI f => ?_) (by omega) ⟨rfl, h⟩
  · obtain ⟨rfl, h0⟩ := hI
    obtain ⟨a0, b0⟩ := lcf_kq2 j hj
    obtain ⟨S1, h1, g1⟩ := kp_la hC (show 234 + 1 * j + 0 < 1889 by omega) h0 a0 b0 (by decide)
    refine ⟨nI (j + 1), S1, fun f => ?_, rfl, by rw [show 234 + 1 * (j + 1) = 234 + 1 * j + 0 + 1 by omega]; exact h1⟩
    unfold kq2B
    rw [if_neg (show ¬ (64 : Int32) ≤ nI j from nI_ge (b := 64) hj (by omega))]
    refine (g1 _).trans ?_
    rw [lt_eq, nI_1]
  · obtain ⟨rfl, h0⟩ := hI
    unfold kq2B
    rw [if_pos (show (64 : Int32) ≤ nI 64 from Int32.le_refl _)]
    exact p_kq3 hC h0
theorem lcf_kq1 : ∀ j, j < 20 → (lc2 (194 + 2 * j + 0) = 4 ∧ li2 (194 + 2 * j + 0) = j) ∧ (lc2 (194 + 2 * j + 1) = 5 ∧ li2 (194 + 2 * j + 1) = j) := by decide +kernel
set_option maxHeartbeats 400000 in
theorem p_kq1 {B D S : Bk} {tk : Nat} (hC : CB B D tk) (h : PI B D tk 194 S) : Ht (kq1 S) (fun _ S' => PI B D tk 424 S') := by
  unfold kq1
  refine loopI 20 (fun j s A => s = nI j ∧ PI B D tk (194 + 2 * j) A) _ (fun j s A hj hI => ?_) (fun s A hI f => ?_) (by omega) ⟨rfl, h⟩
  · obtain ⟨rfl, h0⟩ := hI
    obtain ⟨⟨a0, b0⟩, ⟨a1, b1⟩⟩ := lcf_kq1 j hj
    obtain ⟨S1, h1, g1⟩ := kp_la hC (show 194 + 2 * j + 0 < 1889 by omega) h0 a0 b0 (by decide)
    obtain ⟨S2, h2, g2⟩ := kp_la hC (show 194 + 2 * j + 1 < 1889 by omega) h1 a1 b1 (by decide)
    refine ⟨nI (j + 1), S2, fun f => ?_, rfl, by rw [show 194 + 2 * (j + 1) = 194 + 2 * j + 1 + 1 by omega]; exact h2⟩
    unfold kq1B
    rw [if_neg (show ¬ (20 : Int32) ≤ nI j from nI_ge (b := 20) hj (by omega))]
    refine (g1 _).trans ?_
    refine (g2 _).trans ?_
    rw [lt_eq, nI_1]
  · obtain ⟨rfl, h0⟩ := hI
    unfold kq1B
    rw [if_pos (show (20 : Int32) ≤ nI 20 from Int32.le_refl _)]
    exact p_kq2 hC h0
theorem lcf_kl2 : ∀ j, j < 400 → (lc2 (1089 + 2 * j + 0) = 14 ∧ li2 (1089 + 2 * j + 0) = j) ∧ (lc2 (1089 + 2 * j + 1) = 15 ∧ li2 (1089 + 2 * j + 1) = j) := by decide +kernel
set_option maxHeartbeats 400000 in
theorem p_kl2 {B D S : Bk} {tk : Nat} (hC : CB B D tk) (h : PI B D tk 1089 S) : Ht (kl2 S) (fun _ S' => PI B D tk 1889 S') := by
  unfold kl2
  refine loopI 400 (fun j s A => s = nI j ∧ PI B D tk (1089 + 2 * j) A) _ (fun j s A hj hI => ?_) (fun s A hI f => ?_) (by omega) ⟨rfl, h⟩
  · obtain ⟨rfl, h0⟩ := hI
    obtain ⟨⟨a0, b0⟩, ⟨a1, b1⟩⟩ := lcf_kl2 j hj
    obtain ⟨S1, h1, g1⟩ := kp_la hC (show 1089 + 2 * j + 0 < 1889 by omega) h0 a0 b0 (by decide)
    obtain ⟨S2, h2, g2⟩ := kp_la hC (show 1089 + 2 * j + 1 < 1889 by omega) h1 a1 b1 (by decide)
    refine ⟨nI (j + 1), S2, fun f => ?_, rfl, by rw [show 1089 + 2 * (j + 1) = 1089 + 2 * j + 1 + 1 by omega]; exact h2⟩
    unfold kl2B
    rw [if_neg (show ¬ (400 : Int32) ≤ nI j from nI_ge (b := 400) hj (by omega))]
    refine (g1 _).trans ?_
    refine (g2 _).trans ?_
    rw [lt_eq, nI_1]
  · obtain ⟨rfl, h0⟩ := hI
    unfold kl2B
    rw [if_pos (show (400 : Int32) ≤ nI 400 from Int32.le_refl _)]
    exact ⟨_, _, rfl, h0⟩
theorem lcf_kl1 : ∀ j, j < 16 → (lc2 (1025 + 4 * j + 0) = 10 ∧ li2 (1025 + 4 * j + 0) = j) ∧ (lc2 (1025 + 4 * j + 1) = 11 ∧ li2 (1025 + 4 * j + 1) = j) ∧ (lc2 (1025 + 4 * j + 2) = 12 ∧ li2 (1025 + 4 * j + 2) = j) ∧ (lc2 (1025 + 4 * j + 3) = 13 ∧ li2 (1025 + 4 * j + 3) = j) := by decide +kernel
set_option maxHeartbeats 400000 in
theorem p_kl1 {B D S : Bk} {tk : Nat} (hC : CB B D tk) (h : PI B D tk 1025 S) : Ht (kl1 S) (fun _ S' => PI B D tk 1889 S') := by
  unfold kl1
  refine loopI 16 (fun j s A => s = nI j ∧ PI B D tk (1025 + 4 * j) A) _ (fun j s A hj hI => ?_) (fun s A hI f => ?_) (by omega) ⟨rfl, h⟩
  · obtain ⟨rfl, h0⟩ := hI
    obtain ⟨⟨a0, b0⟩, ⟨a1, b1⟩, ⟨a2, b2⟩, ⟨a3, b3⟩⟩ := lcf_kl1 j hj
    obtain ⟨S1, h1, g1⟩ := kp_la hC (show 1025 + 4 * j + 0 < 1889 by omega) h0 a0 b0 (by decide)
    obtain ⟨S2, h2, g2⟩ := kp_la hC (show 1025 + 4 * j + 1 < 1889 by omega) h1 a1 b1 (by decide)
    obtain ⟨S3, h3, g3⟩ := kp_la hC (show 1025 + 4 * j + 2 < 1889 by omega) h2 a2 b2 (by decide)
    obtain ⟨S4, h4, g4⟩ := kp_la hC (show 1025 + 4 * j + 3 < 1889 by omega) h3 a3 b3 (by decide)
    refine ⟨nI (j + 1), S4, fun f => ?_, rfl, by rw [show 1025 + 4 * (j + 1) = 1025 + 4 * j + 3 + 1 by omega]; exact h4⟩
    unfold kl1B
    rw [if_neg (show ¬ (16 : Int32) ≤ nI j from nI_ge (b := 16) hj (by omega))]
    refine (g1 _).trans ?_
    refine (g2 _).trans ?_
    refine (g3 _).trans ?_
    refine (g4 _).trans ?_
    rw [lt_eq, nI_1]
  · obtain ⟨rfl, h0⟩ := hI
    unfold kl1B
    rw [if_pos (show (16 : Int32) ≤ nI 16 from Int32.le_refl _)]
    exact p_kl2 hC h0
set_option maxHeartbeats 400000 in
theorem p_told {B D S : Bk} {tk : Nat} (hC : CB B D tk) (h0 : PI B D tk 183 S) : Ht (gX11_keepsTold S) (fun _ S' => PI B D tk 424 S') := by
  rw [kqe_eq]
  obtain ⟨S1, h1, g1⟩ := kp_ld hC (show 183 < 1889 by decide) h0 (show lc2 183 = 0 by decide) (show li2 183 = 6 by decide)
  obtain ⟨S2, h2, g2⟩ := kp_ld hC (show 184 < 1889 by decide) h1 (show lc2 184 = 0 by decide) (show li2 184 = 7 by decide)
  obtain ⟨S3, h3, g3⟩ := kp_ld hC (show 185 < 1889 by decide) h2 (show lc2 185 = 0 by decide) (show li2 185 = 8 by decide)
  obtain ⟨S4, h4, g4⟩ := kp_ld hC (show 186 < 1889 by decide) h3 (show lc2 186 = 0 by decide) (show li2 186 = 35 by decide)
  obtain ⟨S5, h5, g5⟩ := kp_ld hC (show 187 < 1889 by decide) h4 (show lc2 187 = 0 by decide) (show li2 187 = 37 by decide)
  obtain ⟨S6, h6, g6⟩ := kp_ld hC (show 188 < 1889 by decide) h5 (show lc2 188 = 0 by decide) (show li2 188 = 39 by decide)
  obtain ⟨S7, h7, g7⟩ := kp_ld hC (show 189 < 1889 by decide) h6 (show lc2 189 = 0 by decide) (show li2 189 = 43 by decide)
  obtain ⟨S8, h8, g8⟩ := kp_ld hC (show 190 < 1889 by decide) h7 (show lc2 190 = 0 by decide) (show li2 190 = 52 by decide)
  obtain ⟨S9, h9, g9⟩ := kp_ld hC (show 191 < 1889 by decide) h8 (show lc2 191 = 0 by decide) (show li2 191 = 54 by decide)
  obtain ⟨S10, h10, g10⟩ := kp_ld hC (show 192 < 1889 by decide) h9 (show lc2 192 = 0 by decide) (show li2 192 = 57 by decide)
  obtain ⟨S11, h11, g11⟩ := kp_ld hC (show 193 < 1889 by decide) h10 (show lc2 193 = 0 by decide) (show li2 193 = 61 by decide)
  rw [g1]
  rw [g2]
  rw [g3]
  rw [g4]
  rw [g5]
  rw [g6]
  rw [g7]
  rw [g8]
  rw [g9]
  rw [g10]
  rw [g11]
  exact p_kq1 hC h11
set_option maxHeartbeats 400000 in
theorem p_law {B D S : Bk} {tk : Nat} (hC : CB B D tk) (h0 : PI B D tk 1024 S) : Ht (gX11_keepsLaw S) (fun _ S' => PI B D tk 1889 S') := by
  rw [kle_eq]
  obtain ⟨S1, h1, g1⟩ := kp_la hC (show 1024 < 1889 by decide) h0 (show lc2 1024 = 9 by decide) (show li2 1024 = 0 by decide) (by decide)
  have g1' : ∀ {β : Type} (K : MM β), bd (la 9 0) (fun v => bd (gX11_keeps v) (fun r => bd (sa 9 0 r) (fun _ => K))) S = K S1 := fun K => g1 K
  rw [g1']
  exact p_kl1 hC h1
theorem lcf_mg2 : ∀ j, j < 600 → (lc2 (424 + j) = 6 ∧ li2 (424 + j) = j) := by decide +kernel
theorem lcf_mg1 : ∀ j, j < 183 → (lc2 j = 1 ∧ li2 j = j) := by decide +kernel
set_option maxHeartbeats 400000 in
theorem p_mg2 {B D S : Bk} {tk : Nat} (hC : CB B D tk) (h : PI B D tk 424 S) : Ht (mg2 (nI tk) S) (fun r S' => r = 1 ∧ ∃ S1, PI B D tk 1889 S1 ∧ S' = if tk = 0 then up S1 0 ((S1 0).set 3 0) else S1) := by
  unfold mg2
  refine loopI 600 (fun j s A => s = nI j ∧ PI B D tk (424 + j) A) _ (fun j s A hj hI => ?_) (fun s A hI f => ?_) (by omega) ⟨rfl, h⟩
  · obtain ⟨rfl, h0⟩ := hI
    obtain ⟨a0, b0⟩ := lcf_mg2 j hj
    obtain ⟨S1, h1, g1⟩ := kp_la hC (show 424 + j < 1889 by omega) h0 a0 b0 (by decide)
    refine ⟨nI (j + 1), S1, fun f => ?_, rfl, h1⟩
    unfold mg2B
    rw [if_neg (show ¬ (600 : Int32) ≤ nI j from nI_ge (b := 600) hj (by omega))]
    refine (g1 _).trans ?_
    rw [lt_eq, nI_1]
  · obtain ⟨rfl, h0⟩ := hI
    obtain ⟨r, S1, g1, h1⟩ := p_law hC h0
    unfold mg2B
    rw [if_pos (show (600 : Int32) ≤ nI 600 from Int32.le_refl _), bd_some g1]
    simp only [jn_eq]
    have l0 : (S1 0).length = 68 := by rw [h1.1 0, hC.2.1]
    by_cases c : tk = 0
    · rw [if_pos (show nI tk = 0 by rw [c]; rfl), bd_sv _ (by omega)]
      exact ⟨1, _, rfl, rfl, S1, h1, by rw [if_pos c]⟩
    · rw [if_neg (show ¬ nI tk = 0 from fun q => c ((nI_0i (by have := hC.1; omega)).mp q))]
      exact ⟨1, _, rfl, rfl, S1, h1, by rw [if_neg c]⟩
set_option maxHeartbeats 400000 in
theorem p_mg1 {B D S : Bk} {tk : Nat} (hC : CB B D tk) (h : PI B D tk 0 S) : Ht (mg1 (nI tk) S) (fun r S' => r = 1 ∧ ∃ S1, PI B D tk 1889 S1 ∧ S' = if tk = 0 then up S1 0 ((S1 0).set 3 0) else S1) := by
  unfold mg1
  refine loopI 183 (fun j s A => s = nI j ∧ PI B D tk j A) _ (fun j s A hj hI => ?_) (fun s A hI f => ?_) (by omega) ⟨rfl, h⟩
  · obtain ⟨rfl, h0⟩ := hI
    obtain ⟨a0, b0⟩ := lcf_mg1 j hj
    obtain ⟨S1, h1, g1⟩ := kp_la hC (show j < 1889 by omega) h0 a0 b0 (by decide)
    refine ⟨nI (j + 1), S1, fun f => ?_, rfl, h1⟩
    unfold mg1B
    rw [if_neg (show ¬ (183 : Int32) ≤ nI j from nI_ge (b := 183) hj (by omega))]
    refine (g1 _).trans ?_
    rw [lt_eq, nI_1]
  · obtain ⟨rfl, h0⟩ := hI
    obtain ⟨r, S1, g1, h1⟩ := p_told hC h0
    unfold mg1B
    rw [if_pos (show (183 : Int32) ≤ nI 183 from Int32.le_refl _), bd_some g1]
    exact p_mg2 hC h1
