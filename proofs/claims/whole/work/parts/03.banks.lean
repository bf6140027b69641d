/-! BANKS: a method's world as rows of ints, and what is done on them (pure) -/
abbrev Bk : Type := Nat → List Int32
abbrev MM (α : Type) : Type := Bk → Option (α × Bk)
def up (S : Bk) (i : Nat) (l : List Int32) : Bk := fun j => if j = i then l else S j
def pr {α : Type} (a : α) : MM α := fun S => some (a, S)
def fl {α : Type} : MM α := fun _ => none
def bd {α β : Type} (f : MM α) (k : α → MM β) : MM β := fun S => match f S with
  | none => none
  | some q => k q.1 q.2
def ld (i k : Nat) : MM Int32 := fun S => if k < (S i).length then some ((S i).getD k 0, S) else none
def sv (i k : Nat) (v : Int32) : MM Unit := fun S => if k < (S i).length then some ((), up S i ((S i).set k v)) else none
def svz (i k : Nat) (v : Int32) : MM Unit := fun S => if v = 0 ∨ v = 1 then sv i k v S else none
def la (i : Nat) (j : Int32) : MM Int32 := fun S => if j < 0 ∨ (S i).length ≤ j.toNatClampNeg then none else some ((S i).getD j.toNatClampNeg 0, S)
def sa (i : Nat) (j v : Int32) : MM Unit := fun S => if j < 0 ∨ (S i).length ≤ j.toNatClampNeg then none else some ((), up S i ((S i).set j.toNatClampNeg v))
def ln (i : Nat) : MM Int32 := fun S => some (Int32.ofNat (S i).length, S)
def rz (v : Int32) : MM Int32 := fun S => if v = 0 ∨ v = 1 then some (v, S) else none
def nz {α : Type} (b : Int32) (k : MM α) : MM α := fun S => if b = 0 then none else k S
def lt {α : Type} (e : Int32) (k : Int32 → MM α) : MM α := k e
def jn {α β : Type} (J : α → MM β) (B : (α → MM β) → MM β) : MM β := B J
def loopC {σ β : Type} : Nat → ((σ → MM β) → σ → MM β) → σ → MM β
  | 0, _, _ => fl
  | n + 1, F, s => F (loopC n F) s
def irm (x y : Int32) : Int32 := x - x / y * y
def ish (x y : Int32) : Int32 := (x.toUInt32 >>> (y.toUInt32 &&& Int32.toUInt32 31)).toInt32
def swt {α : Type} (x : Int32) (lo : Int) (Ks : List (MM α)) (Kd : MM α) : MM α := if x.toInt < lo then Kd else Ks.getD (x.toInt - lo).toNat Kd
def swl {α : Type} (x : Int32) : List (Int × MM α) → MM α → MM α
  | [], Kd => Kd
  | q :: r, Kd => if x.toInt = q.1 then q.2 else swl x r Kd
/-- one of some cells, by its number -/
def pick {α : Type} (x : Nat) : List Nat → (Nat → MM α) → MM α
  | [], _ => fl
  | o :: os, k => if x = o then k o else pick x os k
/-- a world within another: the cell i of the one is the cell ρ i of the other -/
def ixo (ρ : Nat → Nat) : Nat → Nat → Option Nat
  | 0, _ => none
  | n + 1, j => if ρ n = j then some n else ixo ρ n j
def pu (ρ : Nat → Nat) (n : Nat) (S' S : Bk) : Bk := fun j => match ixo ρ n j with
  | some i => S' i
  | none => S j
def lf {α : Type} (ρ : Nat → Nat) (n : Nat) (g : MM α) : MM α := fun S => match g (fun i => S (ρ i)) with
  | none => none
  | some q => some (q.1, pu ρ n q.2 S)
theorem ixo_some {ρ : Nat → Nat} : ∀ {n j i : Nat}, ixo ρ n j = some i → i < n ∧ ρ i = j
  | 0, _, _, h => by simp [ixo] at h
  | n + 1, j, i, h => by
    unfold ixo at h
    by_cases hq : ρ n = j
    · rw [if_pos hq] at h
      cases h
      exact ⟨Nat.lt_succ_self _, hq⟩
    · rw [if_neg hq] at h
      exact ⟨Nat.lt_succ_of_lt (ixo_some h).1, (ixo_some h).2⟩
theorem ixo_none {ρ : Nat → Nat} : ∀ {n j : Nat}, ixo ρ n j = none → ∀ i, i < n → ρ i ≠ j
  | 0, _, _, i, hi => absurd hi (Nat.not_lt_zero i)
  | n + 1, j, h, i, hi => by
    unfold ixo at h
    by_cases hq : ρ n = j
    · rw [if_pos hq] at h
      cases h
    · rw [if_neg hq] at h
      rcases Nat.lt_succ_iff_lt_or_eq.mp hi with h1 | h1
      · exact ixo_none h i h1
      · rw [h1]; exact hq
theorem ixo_in {ρ : Nat → Nat} {n : Nat} (hinj : ∀ i j, i < n → j < n → ρ i = ρ j → i = j) {i : Nat} (hi : i < n) : ixo ρ n (ρ i) = some i := by
  cases h : ixo ρ n (ρ i) with
  | none => exact absurd rfl (ixo_none h i hi)
  | some k => rw [hinj k i (ixo_some h).1 hi (ixo_some h).2]
theorem pu_in {ρ : Nat → Nat} {n : Nat} (hinj : ∀ i j, i < n → j < n → ρ i = ρ j → i = j) {i : Nat} (hi : i < n) (S' S : Bk) : pu ρ n S' S (ρ i) = S' i := by
  unfold pu; rw [ixo_in hinj hi]
theorem pu_out {ρ : Nat → Nat} {n j : Nat} (h : ∀ i, i < n → ρ i ≠ j) (S' S : Bk) : pu ρ n S' S j = S j := by
  unfold pu
  cases hq : ixo ρ n j with
  | none => rfl
  | some i => exact absurd (ixo_some hq).2 (h i (ixo_some hq).1)
theorem up_same (S : Bk) (i : Nat) (l : List Int32) : up S i l i = l := by simp [up]
theorem up_ne (S : Bk) {i j : Nat} (l : List Int32) (h : j ≠ i) : up S i l j = S j := by simp [up, h]
theorem bd_some {α β : Type} {f : MM α} {k : α → MM β} {S S' : Bk} {a : α} (h : f S = some (a, S')) : bd f k S = k a S' := by simp [bd, h]
theorem bd_inv {α β : Type} {f : MM α} {k : α → MM β} {S : Bk} {q : β × Bk} (h : bd f k S = some q) : ∃ a S1, f S = some (a, S1) ∧ k a S1 = some q := by
  unfold bd at h
  cases hf : f S with
  | none => rw [hf] at h; cases h
  | some r => rw [hf] at h; exact ⟨r.1, r.2, rfl, h⟩
/-! WORLDS: cells by a layout: an object (its class, of each field: an int, or the cell that it holds for good), a row of ints, a row of cells -/
abbrev Sh : Type := (Nat × List (Option Nat)) ⊕ Bool
def ren (ρ : Nat → Nat) (sh : Sh) : Sh := match sh with
  | .inl q => .inl (q.1, q.2.map (Option.map ρ))
  | .inr b => .inr b
/-- the lesser layout lies in the greater one by ρ -/
def SubL (lay lay2 : List Sh) (ρ : Nat → Nat) : Prop := (∀ i sh, lay2[i]? = some sh → sh ≠ .inr true ∧ lay[ρ i]? = some (ren ρ sh)) ∧ ∀ i j, i < lay2.length → j < lay2.length → ρ i = ρ j → i = j
def subLb (lay lay2 : List Sh) (ρ : Nat → Nat) : Bool := (List.range lay2.length).all fun i => decide (lay2.getD i (.inr true) ≠ .inr true) && decide (lay[ρ i]? = some (ren ρ (lay2.getD i (.inr true)))) && (List.range i).all (fun j => decide (ρ j ≠ ρ i))
theorem subL_of {lay lay2 : List Sh} {ρ : Nat → Nat} (h : subLb lay lay2 ρ = true) : SubL lay lay2 ρ := by
  have key : ∀ i, i < lay2.length → lay2.getD i (.inr true) ≠ .inr true ∧ lay[ρ i]? = some (ren ρ (lay2.getD i (.inr true))) ∧ ∀ j, j < i → ρ j ≠ ρ i := by
    intro i hi
    have h1 := List.all_eq_true.mp h i (List.mem_range.mpr hi)
    simp only [Bool.and_eq_true, decide_eq_true_eq] at h1
    exact ⟨h1.1.1, h1.1.2, fun j hj => by simpa using List.all_eq_true.mp h1.2 j (List.mem_range.mpr hj)⟩
  refine ⟨fun i sh hs => ?_, fun i j hi hj he => ?_⟩
  · obtain ⟨hl, rfl⟩ := List.getElem?_eq_some_iff.mp hs
    have := key i hl
    simp only [List.getD, hs, Option.getD_some] at this
    exact ⟨this.1, this.2.1⟩
  · rcases Nat.lt_trichotomy i j with q | q | q
    · exact absurd he ((key j hj).2.2 i q)
    · exact q
    · exact absurd he.symm ((key i hi).2.2 j q)
/-! what the tables say of methods and fields, as the steps ask for it -/
abbrev Mi : Type := MethodName × ByteArray × Nat × Option FieldType
abbrev mY (mi : Mi) : MethodName := mi.1
abbrev mC (mi : Mi) : ByteArray := mi.2.1
abbrev mL (mi : Mi) : Nat := mi.2.2.1
abbrev mR (mi : Mi) : Option FieldType := mi.2.2.2
/-- what the tables say of a method -/
def MOk (mi : Mi) (n : Nat) : Prop := Cond.code (mY mi) (mC mi) (mL mi) (mR mi) ∈ tb ∧ Cond.initialized (mY mi).cls ∈ tb ∧ ((mY mi).cls ≠ "java/lang/invoke/MethodHandle" ∧ (mY mi).cls ≠ "java/lang/invoke/VarHandle") ∧ (parseMethodDescriptor (mY mi).desc).map (fun d => d.parameters.length) = some n
def MVk (mi : Mi) : Prop := Cond.instanceMethod (mY mi) ∈ tb ∧ Cond.selects (mY mi).cls (mY mi) (mY mi) ∈ tb
def CF (ci : Nat) (C : String) (T : u_T) (N : Nat) : Prop := classes[ci]? = some (C, T, N) ∧ (∀ w ∈ u_ws C T N, w ∈ tb) ∧ ∃ ty0 : Nat → FieldType, (∀ k, k < N → parseFieldDescriptor (T k).2.2.1 = some (ty0 k)) ∧ ∀ a, a < N → ∀ b, b < N → a ≠ b → (T a).2.1 ≠ (T b).2.1
def FL (own : String) (idx ci k : Nat) : Prop := ∃ (C : String) (T : u_T) (N : Nat), CF ci C T N ∧ k < N ∧ Cond.fieldLink own idx (T k).1 (T k).2.1 (T k).2.2.1 ∈ tb
def FW (own : String) (idx ci k : Nat) (ty : FieldType) : Prop := ∃ (C : String) (T : u_T) (N : Nat), CF ci C T N ∧ k < N ∧ Cond.fieldLink own idx (T k).1 (T k).2.1 (T k).2.2.1 ∈ tb ∧ (T k).2.2.2 = false ∧ parseFieldDescriptor (T k).2.2.1 = some ty
/-! the decoded instructions of a method, all at once -/
def dchk (c : ByteArray) (L : List (Nat × Instr × Nat)) : Bool := L.all (fun q => decide (decode c q.1 = .ok (q.2.1, q.2.2)))
theorem dc {c : ByteArray} {L : List (Nat × Instr × Nat)} (h : dchk c L = true) (k : Nat) {pc : Nat} {i : Instr} {n : Nat} (hk : L[k]? = some (pc, i, n)) : decode c pc = .ok (i, n) := by
  have := List.all_eq_true.mp h _ (List.mem_of_getElem? hk)
  simpa using this
