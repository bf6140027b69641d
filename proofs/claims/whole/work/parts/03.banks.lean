/-! BANKS: a method's world as rows of ints, and what is done on them (pure) -/
abbrev Bk : Type := Nat → List Int32
abbrev MM (α : Type) : Type := Bk → Option (α × Bk)
def up (S : Bk) (i : Nat) (l : List Int32) : Bk := fun j => if j = i then l else S j
def pr {α : Type} (a : α) : MM α := fun S => some (a, S)
def fl {α : Type} : MM α := fun _ => none
def bd {α β : Type} (f : MM α) (k : α → MM β) : MM β := fun S => match f S with
  | none => none
  | some q => k q.1 q.2
def ld (i k : Nat) : MM Int32 := fun S => if k < (S i).length then some ((S i).getD k 0, S) else none
def sv (i k : Nat) (v : Int32) : MM Unit := fun S => if k < (S i).length then some ((), up S i ((S i).set k v)) else none
def svz (i k : Nat) (v : Int32) : MM Unit := fun S => if v = 0 ∨ v = 1 then sv i k v S else none
def la (i : Nat) (j : Int32) : MM Int32 := fun S => if j < 0 ∨ (S i).length ≤ j.toNatClampNeg then none else some ((S i).getD j.toNatClampNeg 0, S)
def sa (i : Nat) (j v : Int32) : MM Unit := fun S => if j < 0 ∨ (S i).length ≤ j.toNatClampNeg then none else some ((), up S i ((S i).set j.toNatClampNeg v))
def ln (i : Nat) : MM Int32 := fun S => some (Int32.ofNat (S i).length, S)
def rz (v : Int32) : MM Int32 := fun S => if v = 0 ∨ v = 1 then some (v, S) else none
def nz {α : Type} (b : Int32) (k : MM α) : MM α := fun S => if b = 0 then none else k S
def lt {α : Type} (e : Int32) (k : Int32 → MM α) : MM α := k e
def jn {α β : Type} (J : α → MM β) (B : (α → MM β) → MM β) : MM β := B J
def loopC {σ β : Type} : Nat → ((σ → MM β) → σ → MM β) → σ → MM β
  | 0, _, _ => fl
  | n + 1, F, s => F (loopC n F) s
def irm (x y : Int32) : Int32 := x - x / y * y
def ish (x y : Int32) : Int32 := (x.toUInt32 >>> (y.toUInt32 &&& Int32.toUInt32 31)).toInt32
def swt {α : Type} (x : Int32) (lo : Int) (Ks : List (MM α)) (Kd : MM α) : MM α := if x.toInt < lo then Kd else Ks.getD (x.toInt - lo).toNat Kd
def swl {α : Type} (x : Int32) : List (Int × MM α) → MM α → MM α
  | [], Kd => Kd
  | q :: r, Kd => if x.toInt = q.1 then q.2 else swl x r Kd
/-- one of some cells, by its number -/
def pick {α : Type} (x : Nat) : List Nat → (Nat → MM α) → MM α
  | [], _ => fl
  | o :: os, k => if x = o then k o else pick x os k
/-- a world within another: the cell i of the one is the cell ρ i of the other -/
def ixo (ρ : Nat → Nat) : Nat → Nat → Option Nat
  | 0, _ => none
  | n + 1, j => if ρ n = j then some n else ixo ρ n j
def pu (ρ : Nat → Nat) (n : Nat) (S' S : Bk) : Bk := fun j => match ixo ρ n j with
  | some i => S' i
  | none => S j
def lf {α : Type} (ρ : Nat → Nat) (n : Nat) (g : MM α) : MM α := fun S => match g (fun i => S (ρ i)) with
  | none => none
  | some q => some (q.1, pu ρ n q.2 S)
theorem ixo_some {ρ : Nat → Nat} : ∀ {n j i : Nat}, ixo ρ n j = some i → i < n ∧ ρ i = j
  | 0, _, _, h => by simp [ixo] at h
  | n + 1, j, i, h => by
    unfold ixo at h
    by_cases hq : ρ n = j
    · rw [if_pos hq] at h
      cases h
      exact ⟨Nat.lt_succ_self _, hq⟩
    · rw [if_neg hq] at h
      exact ⟨Nat.lt_succ_of_lt (ixo_some h).1, (ixo_some h).2⟩
theorem ixo_none {ρ : Nat → Nat} : ∀ {n j : Nat}, ixo ρ n j = none → ∀ i, i < n → ρ i ≠ j
  | 0, _, _, i, hi => absurd hi (Nat.not_lt_zero i)
  | n + 1, j, h, i, hi => by
    unfold ixo at h
    by_cases hq : ρ n = j
    · rw [if_pos hq] at h
      cases h
    · rw [if_neg hq] at h
      rcases Nat.lt_succ_iff_lt_or_eq.mp hi with h1 | h1
      · exact ixo_none h i h1
      · rw [h1]; exact hq
theorem ixo_in {ρ : Nat → Nat} {n : Nat} (hinj : ∀ i j, i < n → j < n → ρ i = ρ j → i = j) {i : Nat} (hi : i < n) : ixo ρ n (ρ i) = some i := by
  cases h : ixo ρ n (ρ i) with
  | none => exact absurd rfl (ixo_none h i hi)
  | some k => rw [hinj k i (ixo_some h).1 hi (ixo_some h).2]
theorem pu_in {ρ : Nat → Nat} {n : Nat} (hinj : ∀ i j, i < n → j < n → ρ i = ρ j → i = j) {i : Nat} (hi : i < n) (S' S : Bk) : pu ρ n S' S (ρ i) = S' i := by
  unfold pu; rw [ixo_in hinj hi]
theorem pu_out {ρ : Nat → Nat} {n j : Nat} (h : ∀ i, i < n → ρ i ≠ j) (S' S : Bk) : pu ρ n S' S j = S j := by
  unfold pu
  cases hq : ixo ρ n j with
  | none => rfl
  | some i => exact absurd (ixo_some hq).2 (h i (ixo_some hq).1)
theorem up_same (S : Bk) (i : Nat) (l : List Int32) : up S i l i = l := by simp [up]
theorem up_ne (S : Bk) {i j : Nat} (l : List Int32) (h : j ≠ i) : up S i l j = S j := by simp [up, h]
theorem bd_some {α β : Type} {f : MM α} {k : α → MM β} {S S' : Bk} {a : α} (h : f S = some (a, S')) : bd f k S = k a S' := by simp [bd, h]
theorem bd_inv {α β : Type} {f : MM α} {k : α → MM β} {S : Bk} {q : β × Bk} (h : bd f k S = some q) : ∃ a S1, f S = some (a, S1) ∧ k a S1 = some q := by
  unfold bd at h
  cases hf : f S with
  | none => rw [hf] at h; cases h
  | some r => rw [hf] at h; exact ⟨r.1, r.2, rfl, h⟩
/-! WORLDS: cells by a layout: an object (its class, of each field: an int, or the cell that it holds for good), a row of ints, a row of cells -/
abbrev Sh : Type := (Nat × List (Option Nat)) ⊕ Bool
abbrev Gl : Type := va_G × ClassId × ClassId × Nat × Nat × Nat × Nat × Nat
abbrev gD (G : Gl) : va_G := G.1
abbrev gI (G : Gl) : ClassId := G.2.1
abbrev gE (G : Gl) : ClassId := G.2.2.1
abbrev gB (G : Gl) : Nat := G.2.2.2.1
/-- the cells that were there before: the class's two tables, its text and the text's bytes -/
abbrev gC (G : Gl) : Nat := G.2.2.2.2.1
abbrev gN (G : Gl) : Nat := G.2.2.2.2.2.1
abbrev gW (G : Gl) : Nat := G.2.2.2.2.2.2.1
abbrev gV (G : Gl) : Nat := G.2.2.2.2.2.2.2
def CWl : List Int32 := [43690, 52428, 61680, 65280]
def NBl : List Int32 := [0, 1, 1, 1, 2, 2, 0, 3, 3, 1, 1, 1, 0, 4]
def WDl : List Int32 := [116, 105, 101, 115, 32, 115, 108, 105, 112, 115, 32, 116, 101, 108, 108, 115, 32, 109, 105, 110, 100, 32, 116, 105, 103, 104, 116, 32, 119, 111, 114, 110, 32, 107, 110, 111, 116, 115, 32, 107, 110, 111, 119, 115, 32, 107, 101, 112, 116, 32, 102, 111, 114, 103, 111, 116, 32, 111, 112, 101, 110, 32, 100, 97, 121, 32, 116, 105, 101, 32, 108, 101, 110, 100, 32, 119, 97, 115, 104, 32, 112, 117, 108, 108, 32, 119, 104, 101, 110, 32, 111, 114, 32, 97, 110, 100, 32, 110, 111, 116, 32, 111, 110, 32, 112, 101, 114, 115, 111, 110, 32]
def wordsTx : String := "ties slips tells mind tight worn knots knows kept forgot open day tie lend wash pull when or and not on person "
/-- what is given of the statics: nobody writes there -/
def gS (G : Gl) (U : State) (H : Heap) : Prop :=
  va_Z "KnotLaundry$Puzzles" "CASES_WITH" "[I" (.ref (gC G)) (fun q => gB G ≤ q) U H ∧ va_T .int (gC G) 4 (fun j => .int (CWl.getD j 0)) (fun q => gB G ≤ q) U H ∧
  va_Z "KnotLaundry$Puzzles" "NIMBERS" "[I" (.ref (gN G)) (fun q => gB G ≤ q) U H ∧ va_T .int (gN G) 14 (fun j => .int (NBl.getD j 0)) (fun q => gB G ≤ q) U H ∧
  vk_R "KnotLaundry$Tape" 48 wordsTx (gW G) U ∧ vk_S 1 [111] [WDl] (fun _ => gW G) (fun _ => gV G) (fun q => gB G ≤ q) U H ∧
  va_Z "java/lang/String" "COMPACT_STRINGS" "Z" (.int 1) (fun q => gB G ≤ q) U H
theorem gS_moved {G : Gl} {u U : State} {H : Heap} (hvm : u.vm.Alike U.vm) (hR : vk_R "KnotLaundry$Tape" 48 wordsTx (gW G) u → vk_R "KnotLaundry$Tape" 48 wordsTx (gW G) U) (h : gS G u H) : gS G U H :=
  ⟨h.1.moved hvm, h.2.1.moved hvm, h.2.2.1.moved hvm, h.2.2.2.1.moved hvm, hR h.2.2.2.2.1, h.2.2.2.2.2.1.moved hvm, h.2.2.2.2.2.2.moved hvm⟩
theorem gS_warm {G : Gl} {u U : State} {H : Heap} (hW : u.WarmedH U.vm) (h : gS G u H) : gS G U H := gS_moved hW.alike (vk_R.warm hW) h
theorem gS_same {G : Gl} {u U : State} {H : Heap} (hv : U.vm = u.vm) (h : gS G u H) : gS G U H := gS_moved (by rw [hv]; exact Vm.Alike.refl u.vm) (vk_R.same hv) h
theorem gS_kept {G : Gl} {U : State} {H H1 : Heap} (hq : ∀ a : Nat, a < H.size → ¬ gB G ≤ a → H1[a]? = H[a]?) (h : gS G U H) : gS G U H1 :=
  ⟨h.1.kept hq, h.2.1.kept hq, h.2.2.1.kept hq, h.2.2.2.1.kept hq, h.2.2.2.2.1, h.2.2.2.2.2.1.kept hq, h.2.2.2.2.2.2.kept hq⟩
abbrev gT (G : Gl) : List (ClassId × FieldType) := [(gI G, .int), (gE G, .object "KnotLaundry$World")]
def gOk (_ : Gl) : Prop := True
def fsOf (ad : Nat → Nat) : List (Option Nat) → List Int32 → List Value
  | [], _ => []
  | none :: ks, l => .int (l.headD 0) :: fsOf ad ks l.tail
  | some j :: ks, l => .ref (ad j) :: fsOf ad ks l.tail
def cellE (G : Gl) (ad : Nat → Nat) (sh : Sh) (l : List Int32) : va_E := match sh with
  | .inl q => .inr (q.1, fsOf ad q.2 l)
  | .inr false => .inl (gI G, l.length, .inl (fun k => l.getD k 0))
  | .inr true => .inl (gE G, l.length, .inr (.inr (.inr (.inr (fun k => some (ad (l.getD k 0).toNatClampNeg))))))
def wsOf (G : Gl) (lay : List Sh) (ad : Nat → Nat) (S : Bk) : va_W := (List.range lay.length).map (fun i => (ad i, cellE G ad (lay.getD i (.inr false)) (S i)))
theorem ws_at {G : Gl} {lay : List Sh} {ad : Nat → Nat} {S : Bk} {i : Nat} {sh : Sh} (h : lay[i]? = some sh) : (wsOf G lay ad S)[i]? = some (ad i, cellE G ad sh (S i)) := by
  have hl := (List.getElem?_eq_some_iff.mp h).1
  unfold wsOf
  rw [List.getElem?_map, List.getElem?_range hl]
  simp [List.getD, h]
theorem ws_of {G : Gl} {lay : List Sh} {ad : Nat → Nat} {S : Bk} {i : Nat} {q : Nat × va_E} (h : (wsOf G lay ad S)[i]? = some q) : ∃ sh, lay[i]? = some sh ∧ q = (ad i, cellE G ad sh (S i)) := by
  have hl : i < lay.length := by
    have := (List.getElem?_eq_some_iff.mp h).1
    simpa [wsOf] using this
  refine ⟨lay[i], List.getElem?_eq_getElem hl, ?_⟩
  rw [ws_at (List.getElem?_eq_getElem hl)] at h
  exact (Option.some.inj h).symm
theorem ws_set {G : Gl} {lay : List Sh} {ad : Nat → Nat} {S : Bk} {i : Nat} {sh : Sh} (h : lay[i]? = some sh) (l : List Int32) : (wsOf G lay ad S).set i (ad i, cellE G ad sh l) = wsOf G lay ad (up S i l) := by
  apply List.ext_getElem?
  intro j
  rw [List.getElem?_set]
  have hl := (List.getElem?_eq_some_iff.mp h).1
  by_cases hj : i = j
  · subst hj
    rw [if_pos rfl, if_pos (by simpa [wsOf] using hl), ws_at h, up_same]
  · rw [if_neg hj]
    by_cases hl2 : j < lay.length
    · rw [ws_at (List.getElem?_eq_getElem hl2), ws_at (List.getElem?_eq_getElem hl2), up_ne _ _ (fun q => hj q.symm)]
    · rw [List.getElem?_eq_none (by simpa [wsOf] using hl2), List.getElem?_eq_none (by simpa [wsOf] using hl2)]
theorem fs_int {ad : Nat → Nat} : ∀ {ks : List (Option Nat)} {l : List Int32} {k : Nat}, ks[k]? = some none → (fsOf ad ks l)[k]? = some (.int (l.getD k 0))
  | [], _, _, h => by simp at h
  | none :: ks, l, 0, _ => by cases l <;> simp [fsOf]
  | some j :: ks, l, 0, h => by simp at h
  | none :: ks, l, k + 1, h => by
    have := fs_int (ad := ad) (ks := ks) (l := l.tail) (k := k) (by simpa using h)
    cases l <;> simpa [fsOf] using this
  | some j :: ks, l, k + 1, h => by
    have := fs_int (ad := ad) (ks := ks) (l := l.tail) (k := k) (by simpa using h)
    cases l <;> simpa [fsOf] using this
theorem fs_ref {ad : Nat → Nat} : ∀ {ks : List (Option Nat)} {l : List Int32} {k j : Nat}, ks[k]? = some (some j) → (fsOf ad ks l)[k]? = some (.ref (ad j))
  | [], _, _, _, h => by simp at h
  | none :: ks, l, 0, _, h => by simp at h
  | some j :: ks, l, 0, _, h => by simp at h; subst h; simp [fsOf]
  | none :: ks, l, k + 1, j, h => by
    have := fs_ref (ad := ad) (ks := ks) (l := l.tail) (k := k) (j := j) (by simpa using h)
    simpa [fsOf] using this
  | some i :: ks, l, k + 1, j, h => by
    have := fs_ref (ad := ad) (ks := ks) (l := l.tail) (k := k) (j := j) (by simpa using h)
    simpa [fsOf] using this
theorem fs_set {ad : Nat → Nat} : ∀ {ks : List (Option Nat)} {l : List Int32} {k : Nat} (v : Int32), ks[k]? = some none → k < l.length → (fsOf ad ks l).set k (.int v) = fsOf ad ks (l.set k v)
  | [], _, _, _, h, _ => by simp at h
  | _ :: _, [], _, _, _, h2 => by simp at h2
  | none :: ks, a :: l, 0, v, _, _ => by simp [fsOf]
  | some j :: ks, a :: l, 0, v, h, _ => by simp at h
  | none :: ks, a :: l, k + 1, v, h, h2 => by
    have := fs_set (ad := ad) (ks := ks) (l := l) (k := k) v (by simpa using h) (by simpa using h2)
    simpa [fsOf] using this
  | some j :: ks, a :: l, k + 1, v, h, h2 => by
    have := fs_set (ad := ad) (ks := ks) (l := l) (k := k) v (by simpa using h) (by simpa using h2)
    simpa [fsOf] using this
theorem fs_len {ad : Nat → Nat} : ∀ {ks : List (Option Nat)} {l : List Int32}, (fsOf ad ks l).length = ks.length
  | [], _ => rfl
  | none :: ks, l => by simp [fsOf, fs_len]
  | some _ :: ks, l => by simp [fsOf, fs_len]
def ren (ρ : Nat → Nat) (sh : Sh) : Sh := match sh with
  | .inl q => .inl (q.1, q.2.map (Option.map ρ))
  | .inr b => .inr b
theorem fs_ren {ad ρ : Nat → Nat} : ∀ (ks : List (Option Nat)) (l : List Int32), fsOf ad (ks.map (Option.map ρ)) l = fsOf (fun i => ad (ρ i)) ks l
  | [], _ => rfl
  | none :: ks, l => by simp [fsOf, fs_ren ks]
  | some _ :: ks, l => by simp [fsOf, fs_ren ks]
theorem cell_ren {G : Gl} {ad ρ : Nat → Nat} {sh : Sh} (h : sh ≠ .inr true) (l : List Int32) : cellE G ad (ren ρ sh) l = cellE G (fun i => ad (ρ i)) sh l := by
  rcases sh with q | b
  · simp [cellE, ren, fs_ren]
  · cases b
    · rfl
    · exact absurd rfl h
/-- the lesser layout lies in the greater one by ρ -/
def SubL (lay lay2 : List Sh) (ρ : Nat → Nat) : Prop := (∀ i sh, lay2[i]? = some sh → sh ≠ .inr true ∧ lay[ρ i]? = some (ren ρ sh)) ∧ ∀ i j, i < lay2.length → j < lay2.length → ρ i = ρ j → i = j
def subLb (lay lay2 : List Sh) (ρ : Nat → Nat) : Bool := (List.range lay2.length).all fun i => decide (lay2.getD i (.inr true) ≠ .inr true) && decide (lay[ρ i]? = some (ren ρ (lay2.getD i (.inr true)))) && (List.range i).all (fun j => decide (ρ j ≠ ρ i))
theorem subL_of {lay lay2 : List Sh} {ρ : Nat → Nat} (h : subLb lay lay2 ρ = true) : SubL lay lay2 ρ := by
  have key : ∀ i, i < lay2.length → lay2.getD i (.inr true) ≠ .inr true ∧ lay[ρ i]? = some (ren ρ (lay2.getD i (.inr true))) ∧ ∀ j, j < i → ρ j ≠ ρ i := by
    intro i hi
    have h1 := List.all_eq_true.mp h i (List.mem_range.mpr hi)
    simp only [Bool.and_eq_true, decide_eq_true_eq] at h1
    exact ⟨h1.1.1, h1.1.2, fun j hj => by simpa using List.all_eq_true.mp h1.2 j (List.mem_range.mpr hj)⟩
  refine ⟨fun i sh hs => ?_, fun i j hi hj he => ?_⟩
  · obtain ⟨hl, rfl⟩ := List.getElem?_eq_some_iff.mp hs
    have := key i hl
    simp only [List.getD, hs, Option.getD_some] at this
    exact ⟨this.1, this.2.1⟩
  · rcases Nat.lt_trichotomy i j with q | q | q
    · exact absurd he ((key j hj).2.2 i q)
    · exact q
    · exact absurd he.symm ((key i hi).2.2 j q)
/-! what the tables say of methods and fields, as the steps ask for it -/
abbrev Mi : Type := MethodName × ByteArray × Nat × Option FieldType
abbrev mY (mi : Mi) : MethodName := mi.1
abbrev mC (mi : Mi) : ByteArray := mi.2.1
abbrev mL (mi : Mi) : Nat := mi.2.2.1
abbrev mR (mi : Mi) : Option FieldType := mi.2.2.2
/-- what the tables say of a method -/
def MOk (mi : Mi) (n : Nat) : Prop := Cond.code (mY mi) (mC mi) (mL mi) (mR mi) ∈ tb ∧ Cond.initialized (mY mi).cls ∈ tb ∧ ((mY mi).cls ≠ "java/lang/invoke/MethodHandle" ∧ (mY mi).cls ≠ "java/lang/invoke/VarHandle") ∧ (parseMethodDescriptor (mY mi).desc).map (fun d => d.parameters.length) = some n
def MVk (mi : Mi) : Prop := Cond.instanceMethod (mY mi) ∈ tb ∧ Cond.selects (mY mi).cls (mY mi) (mY mi) ∈ tb
def CF (ci : Nat) (C : String) (T : u_T) (N : Nat) : Prop := classes[ci]? = some (C, T, N) ∧ (∀ w ∈ u_ws C T N, w ∈ tb) ∧ ∃ ty0 : Nat → FieldType, (∀ k, k < N → parseFieldDescriptor (T k).2.2.1 = some (ty0 k)) ∧ ∀ a, a < N → ∀ b, b < N → a ≠ b → (T a).2.1 ≠ (T b).2.1
def FL (own : String) (idx ci k : Nat) : Prop := ∃ (C : String) (T : u_T) (N : Nat), CF ci C T N ∧ k < N ∧ Cond.fieldLink own idx (T k).1 (T k).2.1 (T k).2.2.1 ∈ tb
def FW (own : String) (idx ci k : Nat) (ty : FieldType) : Prop := ∃ (C : String) (T : u_T) (N : Nat), CF ci C T N ∧ k < N ∧ Cond.fieldLink own idx (T k).1 (T k).2.1 (T k).2.2.1 ∈ tb ∧ (T k).2.2.2 = false ∧ parseFieldDescriptor (T k).2.2.1 = some ty
/-! the decoded instructions of a method, all at once -/
def dchk (c : ByteArray) (L : List (Nat × Instr × Nat)) : Bool := L.all (fun q => decide (decode c q.1 = .ok (q.2.1, q.2.2)))
theorem dc {c : ByteArray} {L : List (Nat × Instr × Nat)} (h : dchk c L = true) (k : Nat) {pc : Nat} {i : Instr} {n : Nat} (hk : L[k]? = some (pc, i, n)) : decode c pc = .ok (i, n) := by
  have := List.all_eq_true.mp h _ (List.mem_of_getElem? hk)
  simpa using this
