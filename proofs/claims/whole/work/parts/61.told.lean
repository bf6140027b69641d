/-! PURE: rows and their places; a world within another -/
theorem gd_set_same {l : List Int32} {k : Nat} {v : Int32} (h : k < l.length) : (l.set k v).getD k 0 = v := by simp [List.getD_eq_getElem?_getD, List.getElem?_set, h]
theorem gd_set_ne {l : List Int32} {k j : Nat} {v : Int32} (h : k ≠ j) : (l.set k v).getD j 0 = l.getD j 0 := by simp [List.getD_eq_getElem?_getD, List.getElem?_set, h]
theorem gd_set {l : List Int32} {k j : Nat} {v : Int32} (h : k < l.length) : (l.set k v).getD j 0 = if j = k then v else l.getD j 0 := by
  by_cases hj : j = k
  · subst hj; rw [if_pos rfl, gd_set_same h]
  · rw [if_neg hj, gd_set_ne (fun q => hj q.symm)]
/-- what a call on a part of the world does to the whole -/
theorem lf_run {α : Type} {g : MM α} {ρ : Nat → Nat} {n : Nat} {S T' : Bk} {r : α} (h : g (fun i => S (ρ i)) = some (r, T')) : lf ρ n g S = some (r, pu ρ n T' S) := by simp [lf, h]
theorem bd_lf {α β : Type} {g : MM α} {ρ : Nat → Nat} {n : Nat} {S T' : Bk} {r : α} (k : α → MM β) (h : g (fun i => S (ρ i)) = some (r, T')) : bd (lf ρ n g) k S = k r (pu ρ n T' S) := bd_some (lf_run h)
theorem pu_self (ρ : Nat → Nat) (n : Nat) (S : Bk) : pu ρ n (fun i => S (ρ i)) S = S := by
  funext j
  unfold pu
  cases h : ixo ρ n j with
  | none => rfl
  | some i => show S (ρ i) = S j; rw [(ixo_some h).2]
theorem pu_up {ρ : Nat → Nat} {n i : Nat} (hinj : ∀ i j, i < n → j < n → ρ i = ρ j → i = j) (hi : i < n) (T S : Bk) (x : List Int32) : pu ρ n (up T i x) S = up (pu ρ n T S) (ρ i) x := by
  funext j
  by_cases hj : j = ρ i
  · subst hj
    rw [pu_in hinj hi, up_same, up_same]
  · rw [up_ne _ _ hj]
    unfold pu
    cases h : ixo ρ n j with
    | none => rfl
    | some k =>
      have hk : k ≠ i := fun q => hj (by rw [← (ixo_some h).2, q])
      show up T i x k = T k
      rw [up_ne _ _ hk]
/-- nothing is changed by a call that changes nothing -/
theorem bd_lf0 {α β : Type} {g : MM α} {ρ : Nat → Nat} {n : Nat} {S : Bk} {r : α} (k : α → MM β) (h : g (fun i => S (ρ i)) = some (r, fun i => S (ρ i))) : bd (lf ρ n g) k S = k r S := by rw [bd_lf k h, pu_self]
/-- a row that is told number by number: in the class, in the reference -/
def RT (c row : List Int32) (n : Int32) (arr : List Int32) (cap : Nat) (ok : Int32 → Prop) : Prop :=
  c.length = 2 ∧ row.length = cap ∧ arr.length = cap ∧ ∃ k : Nat, k ≤ cap ∧ c.getD 0 0 = nI k ∧ n = nI k ∧ ∀ i, i < k → row.getD i 0 = arr.getD i 0 ∧ ok (row.getD i 0)
theorem p_empty {T : Bk} (h : (T 0).length = 2) : gX8_empty T = some (0, up T 0 ((T 0).set 0 0)) := by
  unfold gX8_empty
  rw [bd_sv _ (by rw [h]; decide)]; rfl
theorem p_tell {T : Bk} {v : Int32} {k cap : Nat} (h0 : (T 0).length = 2) (h1 : (T 1).length = cap) (hc : cap < 2 ^ 31) (hk : k ≤ cap) (hn : (T 0).getD 0 0 = nI k) :
    gX8_tell v T = if k = cap then some (-1, T) else some (nI (k + 1), up (up T 1 ((T 1).set k v)) 0 ((T 0).set 0 (nI (k + 1)))) := by
  unfold gX8_tell
  have hl0 : 0 < (T 0).length := by rw [h0]; decide
  rw [bd_ld _ hl0, hn, bd_ln, h1]
  by_cases hkc : k = cap
  · rw [if_pos hkc, if_neg (by rw [hkc]; exact nI_nlt (Nat.le_refl _) hc)]; rfl
  · rw [if_neg hkc, if_pos (nI_lt (by omega) hc)]
    rw [bd_ld _ hl0, hn, bd_sa _ (by rw [h1]; omega) (by rw [h1]; exact hc)]
    have e0 : up T 1 ((T 1).set k v) 0 = T 0 := up_ne _ _ (by decide)
    rw [bd_ld _ (by rw [e0]; exact hl0), e0, hn, bd_sv _ (by rw [e0]; exact hl0), e0, nI_1]
    rw [bd_ld _ (by rw [up_same, List.length_set]; exact hl0), up_same, gd_set_same hl0]
    rfl
