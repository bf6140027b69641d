/-! PURE: image, where each number is kept -/
def slk : List Nat := [6, 7, 8, 35, 37, 39, 43, 52, 54, 57, 61]
/-- the cell that the k-th number kept comes from, and its place there -/
def lc2 (k : Nat) : Nat :=
  if k < 183 then 1 else if k < 194 then 0 else if k < 234 then 4 + (k - 194) % 2 else if k < 298 then 17 else if k < 346 then 18
  else if k < 382 then (if (k - 346) % 3 = 0 then 19 else if (k - 346) % 3 = 1 then 22 else 30) else if k < 414 then 29 + 3 * ((k - 382) % 2) else if k < 424 then 35
  else if k < 1024 then 6 else if k < 1025 then 9 else if k < 1089 then 10 + (k - 1025) % 4 else 14 + (k - 1089) % 2
def li2 (k : Nat) : Nat :=
  if k < 183 then k else if k < 194 then slk.getD (k - 183) 0 else if k < 234 then (k - 194) / 2 else if k < 298 then k - 234 else if k < 346 then k - 298
  else if k < 382 then (k - 346) / 3 else if k < 414 then (k - 382) / 2 else if k < 424 then k - 414
  else if k < 1024 then k - 424 else if k < 1025 then 0 else if k < 1089 then (k - 1025) / 4 else (k - 1089) / 2
/-- and back -/
def ps2 (c i : Nat) : Nat :=
  if c = 1 then i else if c = 0 then 183 + slk.idxOf i else if c = 4 then 194 + 2 * i else if c = 5 then 195 + 2 * i else if c = 17 then 234 + i else if c = 18 then 298 + i
  else if c = 19 then 346 + 3 * i else if c = 22 then 347 + 3 * i else if c = 30 then 348 + 3 * i else if c = 29 then 382 + 2 * i else if c = 32 then 383 + 2 * i else if c = 35 then 414 + i
  else if c = 6 then 424 + i else if c = 9 then 1024 else if c = 14 then 1089 + 2 * i else if c = 15 then 1090 + 2 * i else 1025 + (c - 10) + 4 * i
def ln2 (c : Nat) : Nat :=
  if c = 1 then 183 else if c = 0 then 68 else if c = 4 ∨ c = 5 then 20 else if c = 17 then 128 else if c = 18 then 96 else if c = 19 then 24 else if c = 22 ∨ c = 30 then 12
  else if c = 29 ∨ c = 32 then 16 else if c = 35 then 10 else if c = 6 then 600 else if c = 9 then 2 else if 10 ≤ c ∧ c ≤ 13 then 48 else 1200
theorem loc_all : ∀ k, k < 1889 → ps2 (lc2 k) (li2 k) = k ∧ li2 k < ln2 (lc2 k) ∧ lc2 k < 36 ∧ (lc2 k = 0 → li2 k ∈ slk) := by decide +kernel
theorem ln2_le : ∀ c, c < 36 → ln2 c ≤ 1200 := by decide
theorem loc_inj {k j : Nat} (hk : k < 1889) (hj : j < 1889) (e1 : lc2 k = lc2 j) (e2 : li2 k = li2 j) : k = j := by
  rw [← (loc_all k hk).1, ← (loc_all j hj).1, e1, e2]
def fv2 (D : Bk) (k : Nat) : Int32 := (D (lc2 k)).getD (li2 k) 0
/-- the images, as far as they are written, or to be read -/
def JI (D : Bk) (tk pos : Nat) (im : List Int32) : Prop := im.length = 2400 ∧ (∀ k, k < pos → im.getD k 0 = fv2 D k) ∧ (tk = 0 → ∀ k, k < 1889 → im.getD k 0 = fv2 D k)
/-- so far the numbers are kept, or taken back -/
def PI (B D : Bk) (tk pos : Nat) (S : Bk) : Prop :=
  (∀ c, (S c).length = (B c).length) ∧ ((S 0).getD 64 0 = nI tk ∧ (S 0).getD 66 0 = nI pos) ∧ JI D tk pos (S 37) ∧
  (∀ k, k < 1889 → fv2 S k = if k < pos then fv2 D k else fv2 B k) ∧
  (∀ c i, c ≠ 37 → (∀ k, k < 1889 → ¬ (lc2 k = c ∧ li2 k = i)) → ¬ (c = 0 ∧ i = 66) → (S c).getD i 0 = (B c).getD i 0)
def LB (B : Bk) : Prop := ∀ c, c < 36 → (∃ k, k < 1889 ∧ lc2 k = c) → (B c).length = ln2 c
set_option maxHeartbeats 400000 in
theorem p_keeps {B D S : Bk} {tk pos : Nat} {v : Int32} (htk : tk ≤ 1) (hp : pos < 1889) (hz : (B 0).length = 68) (h37 : (B 37).length = 2400) (h : PI B D tk pos S) (hv : tk = 1 → v = fv2 D pos) :
    ∃ im, JI D tk (pos + 1) im ∧ gX11_keeps v S = some (fv2 D pos, up (up S 0 ((S 0).set 66 (nI (pos + 1)))) 37 im) := by
  obtain ⟨l, ⟨e64, e66⟩, ⟨j1, j2, j3⟩, e1, e2⟩ := h
  have l0 : (S 0).length = 68 := by rw [l 0, hz]
  obtain ⟨S1, hS1⟩ : ∃ S1, up S 0 ((S 0).set 66 (nI (pos + 1))) = S1 := ⟨_, rfl⟩
  have s0 : S1 0 = (S 0).set 66 (nI (pos + 1)) := by rw [← hS1, up_same]
  have s37 : S1 37 = S 37 := by rw [← hS1, up_ne _ _ (by decide)]
  have k64 : (S1 0).getD 64 0 = nI tk := by rw [s0, gd_set_ne (by decide)]; exact e64
  have k66 : (S1 0).getD 66 0 = nI (pos + 1) := by rw [s0, gd_set_same (by omega)]
  have k0 : (S1 0).length = 68 := by rw [s0, List.length_set, l0]
  have km : (nI (pos + 1) - 1 : Int32) = nI pos := nI_pred2 pos
  unfold gX11_keeps
  rw [bd_ld _ (by omega), e66, nI_1, bd_sv _ (by omega), hS1, bd_ld _ (by omega), k64]
  by_cases c : tk = 0
  · refine ⟨S 37, ⟨j1, fun k hk => j3 c k (by omega), j3⟩, ?_⟩
    rw [if_pos (by rw [c]; rfl), bd_ld _ (by omega), k66, km, bd_la _ (by rw [s37]; omega) (by rw [s37]; omega), s37, j3 c pos hp, ← s37, up_self]; rfl
  · have c1 : tk = 1 := by omega
    refine ⟨(S 37).set pos v, ⟨by rw [List.length_set, j1], fun k hk => ?_, fun q => absurd q c⟩, ?_⟩
    · by_cases e : k = pos
      · subst e; rw [gd_set_same (by omega), hv c1]
      · rw [gd_set_ne (fun q => e q.symm)]; exact j2 k (by omega)
    · rw [if_neg (show ¬ nI tk = 0 by rw [c1]; decide), bd_ld _ (by omega), k66, km, bd_sa _ (by rw [s37]; omega) (by rw [s37]; omega), s37, hv c1]; rfl
set_option maxHeartbeats 400000 in
theorem PI_step {B D S : Bk} {tk pos : Nat} {im : List Int32} (hp : pos < 1889) (hz : (B 0).length = 68) (h37 : (B 37).length = 2400) (hB : LB B) (h : PI B D tk pos S) (hj : JI D tk (pos + 1) im) {c i : Nat} (hc : lc2 pos = c) (hi : li2 pos = i) :
    PI B D tk (pos + 1) (up (up (up S 0 ((S 0).set 66 (nI (pos + 1)))) 37 im) c (((up (up S 0 ((S 0).set 66 (nI (pos + 1)))) 37 im) c).set i (fv2 D pos))) := by
  obtain ⟨l, ⟨e64, e66⟩, ⟨j1, j2, j3⟩, e1, e2⟩ := h
  obtain ⟨q1, q2, q3, q4⟩ := loc_all pos hp
  have l0 : (S 0).length = 68 := by rw [l 0, hz]
  obtain ⟨S1, hS1⟩ : ∃ S1, up (up S 0 ((S 0).set 66 (nI (pos + 1)))) 37 im = S1 := ⟨_, rfl⟩
  rw [hS1]
  have s0 : S1 0 = (S 0).set 66 (nI (pos + 1)) := by rw [← hS1]; rfl
  have s37 : S1 37 = im := by rw [← hS1, up_same]
  have sn : ∀ j, j ≠ 0 → j ≠ 37 → S1 j = S j := fun j h1 h2 => by rw [← hS1, up_ne _ _ h2, up_ne _ _ h1]
  have sl : ∀ j, (S1 j).length = (B j).length := fun j => by
    by_cases a : j = 0
    · rw [a, s0, List.length_set]; exact l 0
    · by_cases b : j = 37
      · rw [b, s37, hj.1, h37]
      · rw [sn j a b]; exact l j
  have hc37 : c ≠ 37 := by omega
  have hil : i < (B c).length := by
    have := hB (lc2 pos) q3 ⟨pos, hp, rfl⟩
    rw [← hc, ← hi, this]; exact q2
  have s66 : ∀ x, x ≠ 66 → (S1 0).getD x 0 = (S 0).getD x 0 := fun x hx => by rw [s0, gd_set_ne (fun q => hx q.symm)]
  have hs0 : c = 0 → i ≠ 66 ∧ i ≠ 64 := fun e => by
    have := q4 (by rw [hc]; exact e)
    rw [hi] at this
    exact ⟨fun q => by rw [q] at this; exact absurd this (by decide), fun q => by rw [q] at this; exact absurd this (by decide)⟩
  have hent : ∀ c' i', c' ≠ 37 → ¬ (c' = 0 ∧ i' = 66) → ((up S1 c ((S1 c).set i (fv2 D pos))) c').getD i' 0 = if c' = c ∧ i' = i then fv2 D pos else (S c').getD i' 0 := fun c' i' h1 h2 => by
    by_cases e : c' = c
    · subst e
      rw [up_same]
      by_cases e3 : i' = i
      · subst e3; rw [gd_set_same (by rw [sl]; exact hil), if_pos ⟨rfl, rfl⟩]
      · rw [gd_set_ne (fun q => e3 q.symm), if_neg (fun q => e3 q.2)]
        by_cases a : c' = 0
        · subst a; exact s66 i' (fun q => h2 ⟨rfl, q⟩)
        · rw [sn c' a h1]
    · rw [up_ne _ _ e, if_neg (fun q => e q.1)]
      by_cases a : c' = 0
      · subst a; exact s66 i' (fun q => h2 ⟨rfl, q⟩)
      · rw [sn c' a h1]
  refine ⟨fun j => ?_, ⟨?_, ?_⟩, ?_, fun k hk => ?_, fun c' i' h1 h2 h3 => ?_⟩
  · by_cases e : j = c
    · subst e; rw [up_same, List.length_set]; exact sl j
    · rw [up_ne _ _ e]; exact sl j
  · rw [hent 0 64 (by decide) (by decide), if_neg (fun q => (hs0 q.1.symm).2 q.2.symm)]; exact e64
  · by_cases e : c = 0
    · subst e
      rw [up_same, gd_set_ne (hs0 rfl).1, s0, gd_set_same (by omega)]
    · rw [up_ne _ _ (fun q => e q.symm), s0, gd_set_same (by omega)]
  · rw [up_ne _ _ (fun q => hc37 q.symm), s37]; exact hj
  · obtain ⟨w1, w2, w3, w4⟩ := loc_all k hk
    show ((up S1 c ((S1 c).set i (fv2 D pos))) (lc2 k)).getD (li2 k) 0 = _
    rw [hent (lc2 k) (li2 k) (by omega) (fun q => by
      have := w4 q.1
      rw [q.2] at this
      exact absurd this (by decide))]
    by_cases e : k = pos
    · subst e
      rw [if_pos ⟨hc, hi⟩, if_pos (by omega)]
    · rw [if_neg (fun q => e (loc_inj hk hp (q.1.trans hc.symm) (q.2.trans hi.symm)))]
      show fv2 S k = _
      rw [e1 k hk]
      by_cases a : k < pos
      · rw [if_pos a, if_pos (by omega)]
      · rw [if_neg a, if_neg (by omega)]
  · rw [hent c' i' h1 h3, if_neg (fun q => h2 pos hp ⟨hc.trans q.1.symm, hi.trans q.2.symm⟩)]
    exact e2 c' i' h1 h2 h3
theorem PI_val {B D S : Bk} {tk pos : Nat} (hp : pos < 1889) (hD : tk = 1 → ∀ k, k < 1889 → fv2 D k = fv2 B k) (h : PI B D tk pos S) : tk = 1 → fv2 S pos = fv2 D pos := fun q => by
  obtain ⟨_, _, _, e1, _⟩ := h
  rw [e1 pos hp, if_neg (Nat.lt_irrefl _), hD q pos hp]
def CB (B D : Bk) (tk : Nat) : Prop := tk ≤ 1 ∧ (B 0).length = 68 ∧ (B 37).length = 2400 ∧ LB B ∧ (tk = 1 → ∀ k, k < 1889 → fv2 D k = fv2 B k)
set_option maxHeartbeats 400000 in
theorem kp_la {B D S : Bk} {tk pos c i : Nat} (hC : CB B D tk) (hp : pos < 1889) (h : PI B D tk pos S) (hc : lc2 pos = c) (hi : li2 pos = i) (hc0 : c ≠ 0) :
    ∃ S', PI B D tk (pos + 1) S' ∧ ∀ {β : Type} (K : MM β), bd (la c (nI i)) (fun v => bd (gX11_keeps v) (fun r => bd (sa c (nI i) r) (fun _ => K))) S = K S' := by
  obtain ⟨htk, hz, h37, hB, hD⟩ := hC
  obtain ⟨q1, q2, q3, q4⟩ := loc_all pos hp
  have hlen : ∀ j, (S j).length = (B j).length := h.1
  have hln := hB (lc2 pos) q3 ⟨pos, hp, rfl⟩
  have hb := ln2_le (lc2 pos) q3
  obtain ⟨im, g1, g2⟩ := p_keeps (v := (S c).getD i 0) htk hp hz h37 h (fun q => by
    have := PI_val hp hD h q
    rw [← this]
    unfold fv2
    rw [hc, hi])
  refine ⟨_, PI_step hp hz h37 hB h g1 hc hi, fun K => ?_⟩
  have hcn : c ≠ 37 := by omega
  have e : (up (up S 0 ((S 0).set 66 (nI (pos + 1)))) 37 im) c = S c := by rw [up_ne _ _ hcn, up_ne _ _ hc0]
  rw [hc] at hln q2 hb
  rw [hi] at q2
  rw [bd_la _ (by rw [hlen, hln]; exact q2) (by rw [hlen, hln]; omega), bd_some g2, bd_sa _ (by rw [e, hlen, hln]; exact q2) (by rw [e, hlen, hln]; omega)]
set_option maxHeartbeats 400000 in
theorem kp_ld {B D S : Bk} {tk pos i : Nat} (hC : CB B D tk) (hp : pos < 1889) (h : PI B D tk pos S) (hc : lc2 pos = 0) (hi : li2 pos = i) :
    ∃ S', PI B D tk (pos + 1) S' ∧ ∀ {β : Type} (K : MM β), bd (ld 0 i) (fun v => bd (gX11_keeps v) (fun r => bd (sv 0 i r) (fun _ => K))) S = K S' := by
  obtain ⟨htk, hz, h37, hB, hD⟩ := hC
  obtain ⟨q1, q2, q3, q4⟩ := loc_all pos hp
  have hlen : ∀ j, (S j).length = (B j).length := h.1
  obtain ⟨im, g1, g2⟩ := p_keeps (v := (S 0).getD i 0) htk hp hz h37 h (fun q => by
    have := PI_val hp hD h q
    rw [← this]
    unfold fv2
    rw [hc, hi])
  refine ⟨_, PI_step hp hz h37 hB h g1 hc hi, fun K => ?_⟩
  have hi68 : i < 68 := by
    rw [hc, hi] at q2; exact q2
  rw [bd_ld _ (by rw [hlen]; omega), bd_some g2, bd_sv _ (by rw [up_ne _ _ (by decide), up_same, List.length_set, hlen]; omega)]
