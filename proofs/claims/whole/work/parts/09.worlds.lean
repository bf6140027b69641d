/-! WORLDS: the cells of a layout in the heap; what is given of the statics -/
abbrev Gl : Type := va_G × ClassId × ClassId × Nat × Nat × Nat × Nat × Nat × Option Nat
abbrev gD (G : Gl) : va_G := G.1
abbrev gI (G : Gl) : ClassId := G.2.1
abbrev gE (G : Gl) : ClassId := G.2.2.1
abbrev gB (G : Gl) : Nat := G.2.2.2.1
/-- the cells that were there before: the class's two tables, its text and the text's bytes -/
abbrev gC (G : Gl) : Nat := G.2.2.2.2.1
abbrev gN (G : Gl) : Nat := G.2.2.2.2.2.1
abbrev gW (G : Gl) : Nat := G.2.2.2.2.2.2.1
abbrev gV (G : Gl) : Nat := G.2.2.2.2.2.2.2.1
abbrev gF (G : Gl) : Option Nat := G.2.2.2.2.2.2.2.2
def CWl : List Int32 := [43690, 52428, 61680, 65280]
def NBl : List Int32 := [0, 1, 1, 1, 2, 2, 0, 3, 3, 1, 1, 1, 0, 4]
def WDl : List Int32 := [116, 105, 101, 115, 32, 115, 108, 105, 112, 115, 32, 116, 101, 108, 108, 115, 32, 109, 105, 110, 100, 32, 116, 105, 103, 104, 116, 32, 119, 111, 114, 110, 32, 107, 110, 111, 116, 115, 32, 107, 110, 111, 119, 115, 32, 107, 101, 112, 116, 32, 102, 111, 114, 103, 111, 116, 32, 111, 112, 101, 110, 32, 100, 97, 121, 32, 116, 105, 101, 32, 108, 101, 110, 100, 32, 119, 97, 115, 104, 32, 112, 117, 108, 108, 32, 119, 104, 101, 110, 32, 111, 114, 32, 97, 110, 100, 32, 110, 111, 116, 32, 111, 110, 32, 112, 101, 114, 115, 111, 110, 32]
def wordsTx : String := "ties slips tells mind tight worn knots knows kept forgot open day tie lend wash pull when or and not on person "
/-- what is given of the statics: nobody writes there -/
def gS (G : Gl) (U : State) (H : Heap) : Prop :=
  va_Z "KnotLaundry$Puzzles" "CASES_WITH" "[I" (.ref (gC G)) (fun q => gB G ≤ q) U H ∧ va_T .int (gC G) 4 (fun j => .int (CWl.getD j 0)) (fun q => gB G ≤ q) U H ∧
  va_Z "KnotLaundry$Puzzles" "NIMBERS" "[I" (.ref (gN G)) (fun q => gB G ≤ q) U H ∧ va_T .int (gN G) 14 (fun j => .int (NBl.getD j 0)) (fun q => gB G ≤ q) U H ∧
  vk_R "KnotLaundry$Tape" 48 wordsTx (gW G) U ∧ vk_S 1 [111] [WDl] (fun _ => gW G) (fun _ => gV G) (fun q => gB G ≤ q) U H ∧
  va_Z "java/lang/String" "COMPACT_STRINGS" "Z" (.int 1) (fun q => gB G ≤ q) U H ∧
  va_Z "jdk/internal/util/Preconditions" "SIOOBE_FORMATTER" "Ljava/util/function/BiFunction;" (va_rf (gF G)) (fun q => gB G ≤ q) U H ∧
  va_AO "KnotLaundry$World" U
theorem gS_moved {G : Gl} {u U : State} {H : Heap} (hvm : u.vm.Alike U.vm) (hR : vk_R "KnotLaundry$Tape" 48 wordsTx (gW G) u → vk_R "KnotLaundry$Tape" 48 wordsTx (gW G) U) (h : gS G u H) : gS G U H :=
  ⟨h.1.moved hvm, h.2.1.moved hvm, h.2.2.1.moved hvm, h.2.2.2.1.moved hvm, hR h.2.2.2.2.1, h.2.2.2.2.2.1.moved hvm, h.2.2.2.2.2.2.1.moved hvm, h.2.2.2.2.2.2.2.1.moved hvm, h.2.2.2.2.2.2.2.2.moved hvm⟩
theorem gS_warm {G : Gl} {u U : State} {H : Heap} (hW : u.WarmedH U.vm) (h : gS G u H) : gS G U H := gS_moved hW.alike (vk_R.warm hW) h
theorem gS_same {G : Gl} {u U : State} {H : Heap} (hv : U.vm = u.vm) (h : gS G u H) : gS G U H := gS_moved (by rw [hv]; exact Vm.Alike.refl u.vm) (vk_R.same hv) h
theorem gS_kept {G : Gl} {U : State} {H H1 : Heap} (hq : ∀ a : Nat, a < H.size → ¬ gB G ≤ a → H1[a]? = H[a]?) (h : gS G U H) : gS G U H1 :=
  ⟨h.1.kept hq, h.2.1.kept hq, h.2.2.1.kept hq, h.2.2.2.1.kept hq, h.2.2.2.2.1, h.2.2.2.2.2.1.kept hq, h.2.2.2.2.2.2.1.kept hq, h.2.2.2.2.2.2.2.1.kept hq, h.2.2.2.2.2.2.2.2⟩
abbrev gT (G : Gl) : List (ClassId × FieldType) := [(gI G, .int), (gE G, .object "KnotLaundry$World")]
def gOk (_ : Gl) : Prop := True
def fsOf (ad : Nat → Nat) : List (Option Nat) → List Int32 → List Value
  | [], _ => []
  | none :: ks, l => .int (l.headD 0) :: fsOf ad ks l.tail
  | some j :: ks, l => .ref (ad j) :: fsOf ad ks l.tail
def cellE (G : Gl) (ad : Nat → Nat) (sh : Sh) (l : List Int32) : va_E := match sh with
  | .inl q => .inr (q.1, fsOf ad q.2 l)
  | .inr false => .inl (gI G, l.length, .inl (fun k => l.getD k 0))
  | .inr true => .inl (gE G, l.length, .inr (.inr (.inr (.inr (fun k => some (ad (l.getD k 0).toNatClampNeg))))))
def wsOf (G : Gl) (lay : List Sh) (ad : Nat → Nat) (S : Bk) : va_W := (List.range lay.length).map (fun i => (ad i, cellE G ad (lay.getD i (.inr false)) (S i)))
theorem ws_at {G : Gl} {lay : List Sh} {ad : Nat → Nat} {S : Bk} {i : Nat} {sh : Sh} (h : lay[i]? = some sh) : (wsOf G lay ad S)[i]? = some (ad i, cellE G ad sh (S i)) := by
  have hl := (List.getElem?_eq_some_iff.mp h).1
  unfold wsOf
  rw [List.getElem?_map, List.getElem?_range hl]
  simp [List.getD, h]
theorem ws_of {G : Gl} {lay : List Sh} {ad : Nat → Nat} {S : Bk} {i : Nat} {q : Nat × va_E} (h : (wsOf G lay ad S)[i]? = some q) : ∃ sh, lay[i]? = some sh ∧ q = (ad i, cellE G ad sh (S i)) := by
  have hl : i < lay.length := by
    have := (List.getElem?_eq_some_iff.mp h).1
    simpa [wsOf] using this
  refine ⟨lay[i], List.getElem?_eq_getElem hl, ?_⟩
  rw [ws_at (List.getElem?_eq_getElem hl)] at h
  exact (Option.some.inj h).symm
theorem ws_set {G : Gl} {lay : List Sh} {ad : Nat → Nat} {S : Bk} {i : Nat} {sh : Sh} (h : lay[i]? = some sh) (l : List Int32) : (wsOf G lay ad S).set i (ad i, cellE G ad sh l) = wsOf G lay ad (up S i l) := by
  apply List.ext_getElem?
  intro j
  rw [List.getElem?_set]
  have hl := (List.getElem?_eq_some_iff.mp h).1
  by_cases hj : i = j
  · subst hj
    rw [if_pos rfl, if_pos (by simpa [wsOf] using hl), ws_at h, up_same]
  · rw [if_neg hj]
    by_cases hl2 : j < lay.length
    · rw [ws_at (List.getElem?_eq_getElem hl2), ws_at (List.getElem?_eq_getElem hl2), up_ne _ _ (fun q => hj q.symm)]
    · rw [List.getElem?_eq_none (by simpa [wsOf] using hl2), List.getElem?_eq_none (by simpa [wsOf] using hl2)]
theorem fs_int {ad : Nat → Nat} : ∀ {ks : List (Option Nat)} {l : List Int32} {k : Nat}, ks[k]? = some none → (fsOf ad ks l)[k]? = some (.int (l.getD k 0))
  | [], _, _, h => by simp at h
  | none :: ks, l, 0, _ => by cases l <;> simp [fsOf]
  | some j :: ks, l, 0, h => by simp at h
  | none :: ks, l, k + 1, h => by
    have := fs_int (ad := ad) (ks := ks) (l := l.tail) (k := k) (by simpa using h)
    cases l <;> simpa [fsOf] using this
  | some j :: ks, l, k + 1, h => by
    have := fs_int (ad := ad) (ks := ks) (l := l.tail) (k := k) (by simpa using h)
    cases l <;> simpa [fsOf] using this
theorem fs_ref {ad : Nat → Nat} : ∀ {ks : List (Option Nat)} {l : List Int32} {k j : Nat}, ks[k]? = some (some j) → (fsOf ad ks l)[k]? = some (.ref (ad j))
  | [], _, _, _, h => by simp at h
  | none :: ks, l, 0, _, h => by simp at h
  | some j :: ks, l, 0, _, h => by simp at h; subst h; simp [fsOf]
  | none :: ks, l, k + 1, j, h => by
    have := fs_ref (ad := ad) (ks := ks) (l := l.tail) (k := k) (j := j) (by simpa using h)
    simpa [fsOf] using this
  | some i :: ks, l, k + 1, j, h => by
    have := fs_ref (ad := ad) (ks := ks) (l := l.tail) (k := k) (j := j) (by simpa using h)
    simpa [fsOf] using this
theorem fs_set {ad : Nat → Nat} : ∀ {ks : List (Option Nat)} {l : List Int32} {k : Nat} (v : Int32), ks[k]? = some none → k < l.length → (fsOf ad ks l).set k (.int v) = fsOf ad ks (l.set k v)
  | [], _, _, _, h, _ => by simp at h
  | _ :: _, [], _, _, _, h2 => by simp at h2
  | none :: ks, a :: l, 0, v, _, _ => by simp [fsOf]
  | some j :: ks, a :: l, 0, v, h, _ => by simp at h
  | none :: ks, a :: l, k + 1, v, h, h2 => by
    have := fs_set (ad := ad) (ks := ks) (l := l) (k := k) v (by simpa using h) (by simpa using h2)
    simpa [fsOf] using this
  | some j :: ks, a :: l, k + 1, v, h, h2 => by
    have := fs_set (ad := ad) (ks := ks) (l := l) (k := k) v (by simpa using h) (by simpa using h2)
    simpa [fsOf] using this
theorem fs_len {ad : Nat → Nat} : ∀ {ks : List (Option Nat)} {l : List Int32}, (fsOf ad ks l).length = ks.length
  | [], _ => rfl
  | none :: ks, l => by simp [fsOf, fs_len]
  | some _ :: ks, l => by simp [fsOf, fs_len]
theorem fs_ren {ad ρ : Nat → Nat} : ∀ (ks : List (Option Nat)) (l : List Int32), fsOf ad (ks.map (Option.map ρ)) l = fsOf (fun i => ad (ρ i)) ks l
  | [], _ => rfl
  | none :: ks, l => by simp [fsOf, fs_ren ks]
  | some _ :: ks, l => by simp [fsOf, fs_ren ks]
theorem cell_ren {G : Gl} {ad ρ : Nat → Nat} {sh : Sh} (h : sh ≠ .inr true) (l : List Int32) : cellE G ad (ren ρ sh) l = cellE G (fun i => ad (ρ i)) sh l := by
  rcases sh with q | b
  · simp [cellE, ren, fs_ren]
  · cases b
    · rfl
    · exact absurd rfl h
