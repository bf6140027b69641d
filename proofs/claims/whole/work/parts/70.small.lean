/-! PURE: the small functions -/
theorem bd_bd {α β γ : Type} (f : MM α) (k : α → MM β) (K : β → MM γ) (A : Bk) : bd (bd f k) K A = bd f (fun a => bd (k a) K) A := by
  unfold bd
  cases f A <;> rfl
theorem bd_ite {α β : Type} {c : Prop} [Decidable c] (f g : MM α) (K : α → MM β) (A : Bk) : bd (if c then f else g) K A = if c then bd f K A else bd g K A := by
  by_cases h : c <;> simp [h]
theorem nI_pred2 (n : Nat) : nI (n + 1) - nI 1 = nI n := nI_pred n
theorem e_nz {α : Type} {n : Nat} (h0 : 0 < n) (h : n < 2 ^ 31) (k : MM α) : nz (nI n) k = k := nz_fn (nI_ne0 h0 h) k
theorem b2i_t {c : Prop} [Decidable c] (h : c) : b2i c = nI 1 := by unfold b2i; rw [if_pos h]; rfl
theorem b2i_f {c : Prop} [Decidable c] (h : ¬ c) : b2i c = nI 0 := by unfold b2i; rw [if_neg h]; rfl
theorem in_ok {p n : Nat} (h : p < n) (hn : n < 2 ^ 31) : 0 ≤ nI p ∧ nI p < nI n := ⟨nI_pos' (by omega), nI_lt h hn⟩
theorem in_rng {x : Int32} {n : Nat} (hn : n < 2 ^ 31) (h : 0 ≤ x ∧ x < nI n) : ∃ p : Nat, p < n ∧ x = nI p := by
  obtain ⟨j, hj, rfl⟩ := nI_of (Int32.not_lt.mpr h.1)
  exact ⟨j, (nI_ltI hj hn).mp h.2, rfl⟩
theorem wi_rng {x : Int32} {n : Nat} (hn : n < 2 ^ 31) (h : 0 ≤ x ∧ x ≤ nI n) : ∃ p : Nat, p ≤ n ∧ x = nI p := by
  obtain ⟨j, hj, rfl⟩ := nI_of (Int32.not_lt.mpr h.1)
  exact ⟨j, (nI_leI hj hn).mp h.2, rfl⟩
theorem in_no {x : Int32} {n : Nat} (hn : n < 2 ^ 31) (h : ¬ (0 ≤ x ∧ x < nI n)) (p : Nat) (hp : p < n) : x ≠ nI p := fun e => h (by rw [e]; exact in_ok hp hn)
theorem p_hasPerson {W : Bk} {n : Nat} (hl : (W 0).length = 19) (h : (W 0).getD 4 0 = nI n) (x : Int32) : gX9_hasPerson x W = some (b2i (0 ≤ x ∧ x < nI n), W) := by
  unfold gX9_hasPerson
  by_cases h1 : x < 0
  · have : ¬ (0 ≤ x ∧ x < nI n) := fun q => Int32.not_le.mpr h1 q.1
    rw [b2i_f this]
    simp only [jn_eq, h1, if_true]; rfl
  · have h1' : 0 ≤ x := Int32.not_lt.mp h1
    simp only [jn_eq, h1, if_false]
    rw [bd_ld _ (by omega), h]
    by_cases h2 : nI n ≤ x
    · have : ¬ (0 ≤ x ∧ x < nI n) := fun q => Int32.not_le.mpr q.2 h2
      rw [b2i_f this]
      simp only [h2, if_true]; rfl
    · rw [b2i_t ⟨h1', Int32.not_le.mp h2⟩]
      simp only [h2, if_false]; rfl
theorem t_hasPerson {W : Bk} {n p : Nat} (hl : (W 0).length = 19) (h : (W 0).getD 4 0 = nI n) (hp : p < n) (hn : n < 2 ^ 31) : gX9_hasPerson (nI p) W = some (nI 1, W) := by
  rw [p_hasPerson hl h, b2i_t (in_ok hp hn)]
theorem f_hasPerson {W : Bk} {n : Nat} (hl : (W 0).length = 19) (h : (W 0).getD 4 0 = nI n) {x : Int32} (hx : ¬ (0 ≤ x ∧ x < nI n)) : gX9_hasPerson x W = some (nI 0, W) := by
  rw [p_hasPerson hl h, b2i_f hx]
theorem p_hasCloth {W : Bk} {n : Nat} (hl : (W 0).length = 19) (h : (W 0).getD 5 0 = nI n) (x : Int32) : gX9_hasCloth x W = some (b2i (0 ≤ x ∧ x < nI n), W) := by
  unfold gX9_hasCloth
  by_cases h1 : x < 0
  · have : ¬ (0 ≤ x ∧ x < nI n) := fun q => Int32.not_le.mpr h1 q.1
    rw [b2i_f this]
    simp only [jn_eq, h1, if_true]; rfl
  · have h1' : 0 ≤ x := Int32.not_lt.mp h1
    simp only [jn_eq, h1, if_false]
    rw [bd_ld _ (by omega), h]
    by_cases h2 : nI n ≤ x
    · have : ¬ (0 ≤ x ∧ x < nI n) := fun q => Int32.not_le.mpr q.2 h2
      rw [b2i_f this]
      simp only [h2, if_true]; rfl
    · rw [b2i_t ⟨h1', Int32.not_le.mp h2⟩]
      simp only [h2, if_false]; rfl
theorem t_hasCloth {W : Bk} {n p : Nat} (hl : (W 0).length = 19) (h : (W 0).getD 5 0 = nI n) (hp : p < n) (hn : n < 2 ^ 31) : gX9_hasCloth (nI p) W = some (nI 1, W) := by
  rw [p_hasCloth hl h, b2i_t (in_ok hp hn)]
theorem f_hasCloth {W : Bk} {n : Nat} (hl : (W 0).length = 19) (h : (W 0).getD 5 0 = nI n) {x : Int32} (hx : ¬ (0 ≤ x ∧ x < nI n)) : gX9_hasCloth x W = some (nI 0, W) := by
  rw [p_hasCloth hl h, b2i_f hx]
theorem p_hasThing {W : Bk} {n : Nat} (hl : (W 0).length = 19) (h : (W 0).getD 6 0 = nI n) (x : Int32) : gX9_hasThing x W = some (b2i (0 ≤ x ∧ x < nI n), W) := by
  unfold gX9_hasThing
  by_cases h1 : x < 0
  · have : ¬ (0 ≤ x ∧ x < nI n) := fun q => Int32.not_le.mpr h1 q.1
    rw [b2i_f this]
    simp only [jn_eq, h1, if_true]; rfl
  · have h1' : 0 ≤ x := Int32.not_lt.mp h1
    simp only [jn_eq, h1, if_false]
    rw [bd_ld _ (by omega), h]
    by_cases h2 : nI n ≤ x
    · have : ¬ (0 ≤ x ∧ x < nI n) := fun q => Int32.not_le.mpr q.2 h2
      rw [b2i_f this]
      simp only [h2, if_true]; rfl
    · rw [b2i_t ⟨h1', Int32.not_le.mp h2⟩]
      simp only [h2, if_false]; rfl
theorem t_hasThing {W : Bk} {n p : Nat} (hl : (W 0).length = 19) (h : (W 0).getD 6 0 = nI n) (hp : p < n) (hn : n < 2 ^ 31) : gX9_hasThing (nI p) W = some (nI 1, W) := by
  rw [p_hasThing hl h, b2i_t (in_ok hp hn)]
theorem f_hasThing {W : Bk} {n : Nat} (hl : (W 0).length = 19) (h : (W 0).getD 6 0 = nI n) {x : Int32} (hx : ¬ (0 ≤ x ∧ x < nI n)) : gX9_hasThing x W = some (nI 0, W) := by
  rw [p_hasThing hl h, b2i_f hx]
theorem p_isPerson {W : Bk} {n : Nat} (hl : (W 0).length = 68) (h : (W 0).getD 6 0 = nI n) (x : Int32) : gX11_isPerson x W = some (b2i (0 ≤ x ∧ x < nI n), W) := by
  unfold gX11_isPerson
  by_cases h1 : x < 0
  · have : ¬ (0 ≤ x ∧ x < nI n) := fun q => Int32.not_le.mpr h1 q.1
    rw [b2i_f this]
    simp only [jn_eq, h1, if_true]; rfl
  · have h1' : 0 ≤ x := Int32.not_lt.mp h1
    simp only [jn_eq, h1, if_false]
    rw [bd_ld _ (by omega), h]
    by_cases h2 : nI n ≤ x
    · have : ¬ (0 ≤ x ∧ x < nI n) := fun q => Int32.not_le.mpr q.2 h2
      rw [b2i_f this]
      simp only [h2, if_true]; rfl
    · rw [b2i_t ⟨h1', Int32.not_le.mp h2⟩]
      simp only [h2, if_false]; rfl
theorem t_isPerson {W : Bk} {n p : Nat} (hl : (W 0).length = 68) (h : (W 0).getD 6 0 = nI n) (hp : p < n) (hn : n < 2 ^ 31) : gX11_isPerson (nI p) W = some (nI 1, W) := by
  rw [p_isPerson hl h, b2i_t (in_ok hp hn)]
theorem f_isPerson {W : Bk} {n : Nat} (hl : (W 0).length = 68) (h : (W 0).getD 6 0 = nI n) {x : Int32} (hx : ¬ (0 ≤ x ∧ x < nI n)) : gX11_isPerson x W = some (nI 0, W) := by
  rw [p_isPerson hl h, b2i_f hx]
theorem p_isCloth {W : Bk} {n : Nat} (hl : (W 0).length = 68) (h : (W 0).getD 7 0 = nI n) (x : Int32) : gX11_isCloth x W = some (b2i (0 ≤ x ∧ x < nI n), W) := by
  unfold gX11_isCloth
  by_cases h1 : x < 0
  · have : ¬ (0 ≤ x ∧ x < nI n) := fun q => Int32.not_le.mpr h1 q.1
    rw [b2i_f this]
    simp only [jn_eq, h1, if_true]; rfl
  · have h1' : 0 ≤ x := Int32.not_lt.mp h1
    simp only [jn_eq, h1, if_false]
    rw [bd_ld _ (by omega), h]
    by_cases h2 : nI n ≤ x
    · have : ¬ (0 ≤ x ∧ x < nI n) := fun q => Int32.not_le.mpr q.2 h2
      rw [b2i_f this]
      simp only [h2, if_true]; rfl
    · rw [b2i_t ⟨h1', Int32.not_le.mp h2⟩]
      simp only [h2, if_false]; rfl
theorem t_isCloth {W : Bk} {n p : Nat} (hl : (W 0).length = 68) (h : (W 0).getD 7 0 = nI n) (hp : p < n) (hn : n < 2 ^ 31) : gX11_isCloth (nI p) W = some (nI 1, W) := by
  rw [p_isCloth hl h, b2i_t (in_ok hp hn)]
theorem f_isCloth {W : Bk} {n : Nat} (hl : (W 0).length = 68) (h : (W 0).getD 7 0 = nI n) {x : Int32} (hx : ¬ (0 ≤ x ∧ x < nI n)) : gX11_isCloth x W = some (nI 0, W) := by
  rw [p_isCloth hl h, b2i_f hx]
theorem p_isThing {W : Bk} {n : Nat} (hl : (W 0).length = 68) (h : (W 0).getD 8 0 = nI n) (x : Int32) : gX11_isThing x W = some (b2i (0 ≤ x ∧ x < nI n), W) := by
  unfold gX11_isThing
  by_cases h1 : x < 0
  · have : ¬ (0 ≤ x ∧ x < nI n) := fun q => Int32.not_le.mpr h1 q.1
    rw [b2i_f this]
    simp only [jn_eq, h1, if_true]; rfl
  · have h1' : 0 ≤ x := Int32.not_lt.mp h1
    simp only [jn_eq, h1, if_false]
    rw [bd_ld _ (by omega), h]
    by_cases h2 : nI n ≤ x
    · have : ¬ (0 ≤ x ∧ x < nI n) := fun q => Int32.not_le.mpr q.2 h2
      rw [b2i_f this]
      simp only [h2, if_true]; rfl
    · rw [b2i_t ⟨h1', Int32.not_le.mp h2⟩]
      simp only [h2, if_false]; rfl
theorem t_isThing {W : Bk} {n p : Nat} (hl : (W 0).length = 68) (h : (W 0).getD 8 0 = nI n) (hp : p < n) (hn : n < 2 ^ 31) : gX11_isThing (nI p) W = some (nI 1, W) := by
  rw [p_isThing hl h, b2i_t (in_ok hp hn)]
theorem f_isThing {W : Bk} {n : Nat} (hl : (W 0).length = 68) (h : (W 0).getD 8 0 = nI n) {x : Int32} (hx : ¬ (0 ≤ x ∧ x < nI n)) : gX11_isThing x W = some (nI 0, W) := by
  rw [p_isThing hl h, b2i_f hx]

theorem neg_lt : -nI 1 < 0 := by decide
/-- adding -/
theorem WR_np {W : Bk} {nw ow du : List Int32} {np nc nt : Nat} {ks : Nat → List Nat} {wh : Nat → Nat} (h : WR W nw ow du np nc nt ks wh) (hp : np < 12) : WR (up W 0 ((W 0).set 4 (nI (np + 1)))) nw ow du (np + 1) nc nt ks wh := by
  obtain ⟨hl, ⟨hn1, hn2, hn3, hn4⟩, ⟨p1, p2, p3, p4, p5, p6⟩, he, hs, hod, ho, hd, hw, hk⟩ := h
  have l0 := hl.1
  have q0 : P0 ((W 0).set 4 (nI (np + 1))) nw (np + 1) nc nt := ⟨by rw [gd_set_ne (by omega)]; exact p1, by rw [gd_set_ne (by omega)]; exact p2, by rw [gd_set_ne (by omega)]; exact p3, gd_set_same (by omega), by rw [gd_set_ne (by omega)]; exact p5, by rw [gd_set_ne (by omega)]; exact p6⟩
  exact ⟨WL_up hl List.length_set, ⟨hn1, by omega, hn3, hn4⟩, q0, he, hs, hod, fun t ht => (ho t ht).imp fun o q => ⟨by omega, q.2⟩, hd, fun c hc => (hw c hc).imp fun o q => ⟨by omega, q.2⟩, hk⟩
theorem WR_cloth {W : Bk} {nw nw' ow du : List Int32} {np nc nt w : Nat} {ks : Nat → List Nat} {wh : Nat → Nat} (h : WR W nw ow du np nc nt ks wh) (hc : nc < 14) (hww : w < np) (l' : nw'.length = 183)
    (e : ∀ k, nw'.getD k 0 = if k = 39 + nc then nI w else if k = 53 + nc then nI 0 else if 67 + 4 * nc ≤ k ∧ k < 71 + 4 * nc then nI 0 else nw.getD k 0) :
    WR (up (up (up (up W 4 ((W 4).set nc (nI w))) 5 ((W 5).set nc (nI 0))) 6 ((W 6).set nc (nI 0))) 0 ((W 0).set 5 (nI (nc + 1)))) nw' ow du np (nc + 1) nt (fun x => if x = nc then [] else ks x) wh := by
  obtain ⟨hl, ⟨hn1, hn2, hn3, hn4⟩, ⟨p1, p2, p3, p4, p5, p6⟩, he, ⟨s1, s2, s3, s4, s5, s6, s7⟩, hod, ho, hd, hw, ⟨k1, k2, k3⟩⟩ := h
  obtain ⟨l0, l1, l2, l3, l4, l5, l6, l7, l8, l9, l10, l11, l12⟩ := id hl
  have eo : ∀ k, k < 39 ∨ 123 ≤ k → nw'.getD k 0 = nw.getD k 0 := fun k hk => by rw [e k, if_neg (by omega), if_neg (by omega), if_neg (by omega)]
  have q0 : P0 ((W 0).set 5 (nI (nc + 1))) nw' np (nc + 1) nt := ⟨by rw [gd_set_ne (by omega), eo 1 (by omega)]; exact p1, by rw [gd_set_ne (by omega), eo 0 (by omega)]; exact p2, by rw [gd_set_ne (by omega), eo 2 (by omega)]; exact p3, by rw [gd_set_ne (by omega)]; exact p4, gd_set_same (by omega), by rw [gd_set_ne (by omega)]; exact p6⟩
  have so : ∀ {c o n}, Sw c nw o n → (o + n ≤ 39 ∨ 123 ≤ o) → Sw c nw' o n := fun hs ho i hi => by rw [eo _ (by omega)]; exact hs i hi
  refine ⟨WL_up (WL_up (WL_up (WL_up hl List.length_set) List.length_set) List.length_set) List.length_set, ⟨l', hn2, hc, hn4⟩, q0, by rw [eo 2 (by omega)]; exact he, ⟨so s1 (by omega), so s2 (by omega), so s3 (by omega), fun i hi => ?_, fun i hi => ?_, so s6 (by omega), so s7 (by omega)⟩, hod, ho, hd, fun c hcc => ?_, fun c hcc => ?_, fun t ht => ?_, fun c t hcc => ?_⟩
  · show ((W 4).set nc (nI w)).getD i 0 = _
    by_cases hq : i = nc
    · subst hq; rw [gd_set_same (by omega), e, if_pos rfl]
    · rw [gd_set_ne (fun q => hq q.symm), e, if_neg (by omega), if_neg (by omega), if_neg (by omega)]; exact s4 i hi
  · show ((W 5).set nc (nI 0)).getD i 0 = _
    by_cases hq : i = nc
    · subst hq; rw [gd_set_same (by omega), e, if_neg (by omega), if_pos rfl]
    · rw [gd_set_ne (fun q => hq q.symm), e, if_neg (by omega), if_neg (by omega), if_neg (by omega)]; exact s5 i hi
  · by_cases hq : c = nc
    · subst hq; exact ⟨w, hww, by rw [e, if_pos rfl]⟩
    · rw [e, if_neg (by omega), if_neg (by omega), if_neg (by omega)]; exact hw c (by omega)
  · show _ ∧ _ ∧ ((W 6).set nc (nI 0)).getD c 0 = _ ∧ _
    by_cases hq : c = nc
    · subst hq
      simp only [if_true]
      refine ⟨by simp, by simp, by rw [gd_set_same (by omega)]; rfl, fun i hi => by simp at hi, fun i hi => ?_⟩
      rw [e, if_neg (by omega), if_neg (by omega), if_pos (by omega)]; simp
    · simp only [if_neg hq]
      obtain ⟨a1, a2, a3, a4, a5⟩ := k1 c (by omega)
      exact ⟨a1, a2, by rw [gd_set_ne (fun q => hq q.symm)]; exact a3, a4, fun i hi => by rw [e, if_neg (by omega), if_neg (by omega), if_neg (by omega)]; exact a5 i hi⟩
  · obtain ⟨a1, a2, a3, a4⟩ := k2 t ht
    exact ⟨by omega, by rw [eo _ (by omega)]; exact a2, a3, fun q => by rw [eo _ (by omega)]; exact a4 q⟩
  · by_cases hq : c = nc
    · subst hq
      simp only [if_true]
      exact ⟨fun q => by simp at q, fun q => absurd q.2 (by have := (k2 t q.1).1; omega)⟩
    · simp only [if_neg hq]
      exact k3 c t (by omega)
theorem WR_thing {W : Bk} {nw ow du : List Int32} {np nc nt o d : Nat} {ks : Nat → List Nat} {wh : Nat → Nat} (h : WR W nw ow du np nc nt ks wh) (ht : nt < 20) (hoo : o < np) (hdd : d ≤ 999) :
    WR (up (up (up (up (up (up W 8 ((W 8).set nt (nI o))) 9 ((W 9).set nt (nI d))) 10 ((W 10).set nt (-nI 1))) 11 ((W 11).set nt (nI 0))) 12 ((W 12).set nt (nI 0))) 0 ((W 0).set 6 (nI (nt + 1)))) (((nw.set (123 + nt) (nI 0)).set (143 + nt) (nI 0)).set (163 + nt) (nI 0)) (ow.set nt (nI o)) (du.set nt (nI d)) np nc (nt + 1) ks (fun x => if x = nt then 0 else wh x) := by
  obtain ⟨hl, ⟨hn1, hn2, hn3, hn4⟩, ⟨p1, p2, p3, p4, p5, p6⟩, he, ⟨s1, s2, s3, s4, s5, s6, s7⟩, hod, ho, hd, hw, ⟨k1, k2, k3⟩⟩ := h
  obtain ⟨l0, l1, l2, l3, l4, l5, l6, l7, l8, l9, l10, l11, l12⟩ := id hl
  have hol : ow.length = 20 := by rw [← hod.1]; exact l8
  have hdl : du.length = 20 := by rw [← hod.2]; exact l9
  have eo : ∀ k, k < 123 → (((nw.set (123 + nt) (nI 0)).set (143 + nt) (nI 0)).set (163 + nt) (nI 0)).getD k 0 = nw.getD k 0 := fun k hk => by rw [gd_set_ne (by omega), gd_set_ne (by omega), gd_set_ne (by omega)]
  have q0 : P0 ((W 0).set 6 (nI (nt + 1))) (((nw.set (123 + nt) (nI 0)).set (143 + nt) (nI 0)).set (163 + nt) (nI 0)) np nc (nt + 1) := ⟨by rw [gd_set_ne (by omega), eo 1 (by omega)]; exact p1, by rw [gd_set_ne (by omega), eo 0 (by omega)]; exact p2, by rw [gd_set_ne (by omega), eo 2 (by omega)]; exact p3, by rw [gd_set_ne (by omega)]; exact p4, by rw [gd_set_ne (by omega)]; exact p5, gd_set_same (by omega)⟩
  have so : ∀ {c o n}, Sw c nw o n → o + n ≤ 123 → Sw c (((nw.set (123 + nt) (nI 0)).set (143 + nt) (nI 0)).set (163 + nt) (nI 0)) o n := fun hs ho i hi => by rw [eo _ (by omega)]; exact hs i hi
  refine ⟨WL_up (WL_up (WL_up (WL_up (WL_up (WL_up hl List.length_set) List.length_set) List.length_set) List.length_set) List.length_set) List.length_set, ⟨by simp only [List.length_set]; exact hn1, hn2, hn3, ht⟩, q0, by rw [eo 2 (by omega)]; exact he, ⟨so s1 (by omega), so s2 (by omega), so s3 (by omega), so s4 (by omega), so s5 (by omega), Sw_out (Sw_in (Sw_out s6 (by omega)) ht l11 (by simp only [List.length_set]; omega)) (by omega), Sw_in (Sw_out (Sw_out s7 (by omega)) (by omega)) ht l12 (by simp only [List.length_set]; omega)⟩, ⟨?_, ?_⟩, fun t htt => ?_, fun t htt => ?_, fun c hc => ?_, fun c hc => ?_, fun t htt => ?_, fun c t hc => ?_⟩
  · show (W 8).set nt (nI o) = _; rw [hod.1]
  · show (W 9).set nt (nI d) = _; rw [hod.2]
  · by_cases hq : t = nt
    · subst hq; exact ⟨o, hoo, gd_set_same (by omega)⟩
    · rw [gd_set_ne (fun q => hq q.symm)]; exact ho t (by omega)
  · by_cases hq : t = nt
    · subst hq; exact ⟨d, hdd, gd_set_same (by omega)⟩
    · rw [gd_set_ne (fun q => hq q.symm)]; exact hd t (by omega)
  · rw [eo _ (by omega)]; exact hw c hc
  · obtain ⟨a1, a2, a3, a4, a5⟩ := k1 c hc
    exact ⟨a1, a2, a3, a4, fun i hi => by rw [eo _ (by omega)]; exact a5 i hi⟩
  · show _ ∧ _ ∧ ((W 10).set nt (-nI 1)).getD t 0 = _ ∧ _
    by_cases hq : t = nt
    · subst hq
      simp only [if_true]
      exact ⟨Nat.zero_le _, by rw [gd_set_ne (by omega), gd_set_ne (by omega), gd_set_same (by omega)], by rw [gd_set_same (by omega), e_01], fun _ => by rw [gd_set_ne (by omega), gd_set_same (by simp only [List.length_set]; omega)]⟩
    · simp only [if_neg hq]
      obtain ⟨a1, a2, a3, a4⟩ := k2 t (by omega)
      exact ⟨a1, by rw [gd_set_ne (by omega), gd_set_ne (by omega), gd_set_ne (by omega)]; exact a2, by rw [gd_set_ne (fun q => hq q.symm)]; exact a3, fun q => by rw [gd_set_ne (by omega), gd_set_ne (by omega), gd_set_ne (by omega)]; exact a4 q⟩
  · by_cases hq : t = nt
    · subst hq
      simp only [if_true]
      rw [k3 c t hc]
      exact ⟨fun q => by omega, fun q => by omega⟩
    · simp only [if_neg hq]
      rw [k3 c t hc]
      exact ⟨fun q => ⟨by omega, q.2⟩, fun q => ⟨by omega, q.2⟩⟩
/-- the knots counted -/
theorem p_knotsOf {B : Bk} {c : Nat} {l : List Nat} (hB : (B 1).length = 183) (hc : c < 14) (hl : l.length ≤ 4) (h : ∀ i, i < 4 → (B 1).getD (67 + 4 * c + i) 0 = if i < l.length then nI (l.getD i 0 + 1) else nI 0) (hb : ∀ t, t ∈ l → t < 20) : gX11_knotsOf (nI c) B = some (nI l.length, B) := by
  unfold gX11_knotsOf
  refine loopF l.length (fun j => nI j) (fun _ => B) rfl rfl (fun j hj self => ?_) (fun self => ?_) (by omega)
  · have hm : l.getD j 0 < 20 := hb _ (by rw [List.getD_eq_getElem?_getD, List.getElem?_eq_getElem hj]; exact List.getElem_mem hj)
    have hj4 : j < 4 := by omega
    have h1 := h j hj4
    rw [if_pos hj] at h1
    have n4 : ¬ 4 ≤ j := by omega
    simp (disch := first | omega | (simp only [up_ap, List.length_set, Nat.reduceEqDiff, reduceIte]; omega)) only [bd_pr, pr_ap, jn_eq, lt_eq, bd_bd, bd_ite, ite_ap, bd_ld, bd_sv, bd_la, bd_sa, bd_ln, bd_rz0, bd_rz1, rz_n0, rz_n1, e_lit2, nI_z, nI_eq0, nI_0eq, nI_le0, nI_lt0, nI_0lt, nI_0le, e_001, e_n10, e_n1lt, bd_la0, bd_sa0, bd_rz00, rz_0, rz_1, b2i_0, Int32.add_zero, Int32.zero_add, nI_add, nI_pred2, pk_sub, pk_mul, pk_div, e_nz, nI_eq, nI_leI, nI_ltI, e_nm1, e_nm2, up_ap, gd_set_ne, gd_set_same, List.length_set, Nat.reduceEqDiff, Nat.reduceAdd, Nat.reduceMul, Nat.reduceSub, Nat.reduceLT, Nat.reduceLeDiff, reduceIte, Nat.not_lt_zero, not_true_eq_false, not_false_eq_true, and_true, true_and, and_false, false_and, gX11_knotOf, h1, n4]
  · by_cases h4 : l.length = 4
    · simp (disch := first | omega | (simp only [up_ap, List.length_set, Nat.reduceEqDiff, reduceIte]; omega)) only [bd_pr, pr_ap, jn_eq, lt_eq, bd_bd, bd_ite, ite_ap, bd_ld, bd_sv, bd_la, bd_sa, bd_ln, bd_rz0, bd_rz1, rz_n0, rz_n1, e_lit2, nI_z, nI_eq0, nI_0eq, nI_le0, nI_lt0, nI_0lt, nI_0le, e_001, e_n10, e_n1lt, bd_la0, bd_sa0, bd_rz00, rz_0, rz_1, b2i_0, Int32.add_zero, Int32.zero_add, nI_add, nI_pred2, pk_sub, pk_mul, pk_div, e_nz, nI_eq, nI_leI, nI_ltI, e_nm1, e_nm2, up_ap, gd_set_ne, gd_set_same, List.length_set, Nat.reduceEqDiff, Nat.reduceAdd, Nat.reduceMul, Nat.reduceSub, Nat.reduceLT, Nat.reduceLeDiff, reduceIte, Nat.not_lt_zero, not_true_eq_false, not_false_eq_true, and_true, true_and, and_false, false_and, h4]
    · have n4 : ¬ 4 ≤ l.length := by omega
      have h1 := h l.length (by omega)
      rw [if_neg (Nat.lt_irrefl _)] at h1
      simp (disch := first | omega | (simp only [up_ap, List.length_set, Nat.reduceEqDiff, reduceIte]; omega)) only [bd_pr, pr_ap, jn_eq, lt_eq, bd_bd, bd_ite, ite_ap, bd_ld, bd_sv, bd_la, bd_sa, bd_ln, bd_rz0, bd_rz1, rz_n0, rz_n1, e_lit2, nI_z, nI_eq0, nI_0eq, nI_le0, nI_lt0, nI_0lt, nI_0le, e_001, e_n10, e_n1lt, bd_la0, bd_sa0, bd_rz00, rz_0, rz_1, b2i_0, Int32.add_zero, Int32.zero_add, nI_add, nI_pred2, pk_sub, pk_mul, pk_div, e_nz, nI_eq, nI_leI, nI_ltI, e_nm1, e_nm2, up_ap, gd_set_ne, gd_set_same, List.length_set, Nat.reduceEqDiff, Nat.reduceAdd, Nat.reduceMul, Nat.reduceSub, Nat.reduceLT, Nat.reduceLeDiff, reduceIte, Nat.not_lt_zero, not_true_eq_false, not_false_eq_true, and_true, true_and, and_false, false_and, gX11_knotOf, h1, n4]
theorem p_knotAt {W : Bk} {nc c i : Nat} {l : List Nat} (hW : WL W) (h5 : (W 0).getD 5 0 = nI nc) (hc : c < nc) (hnc : nc ≤ 14) (hl : l.length ≤ 4) (h6 : (W 6).getD c 0 = nI l.length) (h7 : (W 7).getD (4 * c + i) 0 = nI (l.getD i 0)) (hi : i < l.length) : gX9_knotAt (nI c) (nI i) W = some (nI (l.getD i 0), W) := by
  obtain ⟨l0, l1, l2, l3, l4, l5, l6, l7, -⟩ := hW
  unfold gX9_knotAt
  rw [bd_some (t_hasCloth l0 h5 hc (by omega))]
  have n4 : ¬ 4 ≤ i := by omega
  have e1 : c * 4 = 4 * c := Nat.mul_comm _ _
  simp (disch := first | omega | (simp only [up_ap, List.length_set, Nat.reduceEqDiff, reduceIte]; omega)) only [bd_pr, pr_ap, jn_eq, lt_eq, bd_bd, bd_ite, ite_ap, bd_ld, bd_sv, bd_la, bd_sa, bd_ln, bd_rz0, bd_rz1, rz_n0, rz_n1, e_lit2, nI_z, nI_eq0, nI_0eq, nI_le0, nI_lt0, nI_0lt, nI_0le, e_001, e_n10, e_n1lt, bd_la0, bd_sa0, bd_rz00, rz_0, rz_1, b2i_0, Int32.add_zero, Int32.zero_add, nI_add, nI_pred2, pk_sub, pk_mul, pk_div, e_nz, nI_eq, nI_leI, nI_ltI, e_nm1, e_nm2, up_ap, gd_set_ne, gd_set_same, List.length_set, Nat.reduceEqDiff, Nat.reduceAdd, Nat.reduceMul, Nat.reduceSub, Nat.reduceLT, Nat.reduceLeDiff, reduceIte, Nat.not_lt_zero, not_true_eq_false, not_false_eq_true, and_true, true_and, and_false, false_and, e1, h6, h7, n4, hi]
