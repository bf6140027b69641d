/-! PURE: table, one key laid -/
noncomputable def lkM (tab : Nat → Nat) (n x : Nat) : Nat := (hit_ex tab n x n).choose
noncomputable def lkN (tab : Nat → Nat) (n x : Nat) : Nat := if lkM tab n x = n then n else lkM tab n x + 1
theorem lkN_in {tab : Nat → Nat} {n x : Nat} (hn : 0 < n) : 1 ≤ lkN tab n x ∧ lkN tab n x ≤ n := by
  have h := (hit_ex tab n x n).choose_spec.1
  have h' : lkM tab n x ≤ n := h
  unfold lkN
  by_cases e : lkM tab n x = n
  · rw [if_pos e]; omega
  · rw [if_neg e]; omega
set_option maxHeartbeats 400000 in
theorem p_lkN {A : Bk} {b : List Int32} {n x : Nat} {tab : Nat → Nat} (hT : TBL (A 3) b n tab) (hn : 0 < n) (hn6 : n ≤ 16) (hx : x ≤ 99) : gX6_looksFor (nI n) (nI x) A = some (nI (lkN tab n x), A) :=
  have h := (hit_ex tab n x n).choose_spec
  p_lk hT hn hn6 hx h.1 h.2.1 h.2.2
set_option maxHeartbeats 400000 in
theorem p_lmN {B : Bk} {a : List Int32} {n x : Nat} {tab : Nat → Nat} (hT : TBL a (B 31) n tab) (hn : 0 < n) (hn6 : n ≤ 16) (hx : x ≤ 99) : gX11_looksFor (nI n) (nI x) B = some (nI (lkN tab n x), B) :=
  have h := (hit_ex tab n x n).choose_spec
  p_lm hT hn hn6 hx h.1 h.2.1 h.2.2
/-- the last place looked at -/
noncomputable def lst (tab : Nat → Nat) (n x : Nat) : Nat := (x + lkN tab n x - 1) % n
theorem lst_lt {tab : Nat → Nat} {n x : Nat} (hn : 0 < n) : lst tab n x < n := Nat.mod_lt _ hn
noncomputable def stp (tab : Nat → Nat) (n x : Nat) : Nat → Nat := fun q => if q = lst tab n x ∧ tab q = 0 then x + 1 else tab q
set_option maxHeartbeats 400000 in
theorem TBL_put {a b : List Int32} {n x : Nat} {tab : Nat → Nat} (hT : TBL a b n tab) (hn : 0 < n) (hn6 : n ≤ 16) (hx : x ≤ 99) (h0 : tab (lst tab n x) = 0) : TBL (a.set (lst tab n x) (nI x)) (b.set (lst tab n x) (nI (x + 1))) n (stp tab n x) := by
  obtain ⟨ha, hb, ht⟩ := hT
  have hl := lst_lt (tab := tab) (x := x) hn
  refine ⟨by rw [List.length_set, ha], by rw [List.length_set, hb], fun p hp => ?_⟩
  unfold stp
  by_cases e : p = lst tab n x
  · rw [if_pos ⟨e, by rw [e]; exact h0⟩, e, gd_set_same (by omega), gd_set_same (by omega)]
    exact ⟨by omega, by rw [pk_sub (by omega), Nat.add_sub_cancel], rfl⟩
  · rw [if_neg (fun z => e z.1), gd_set_ne (fun z => e z.symm), gd_set_ne (fun z => e z.symm)]
    exact ht p hp
theorem stp_no {n x : Nat} {tab : Nat → Nat} (h0 : ¬ tab (lst tab n x) = 0) : stp tab n x = tab := by
  funext q
  unfold stp
  by_cases e : q = lst tab n x
  · rw [if_neg (fun z => h0 (by rw [← e]; exact z.2))]
  · rw [if_neg (fun z => e z.1)]
