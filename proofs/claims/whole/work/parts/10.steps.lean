/-! STEPS: a method's bytecode against its function on banks: from every world in which the function answers, the machine comes to its return with that answer and that world -/
abbrev Rm (d : Nat) : Room := { frames := d, cells := 0, slots := 0, locals := 64 * d }
def Aof (lay : List Sh) (ad : Nat → Nat) : Nat → Prop := fun q => ∃ i, i < lay.length ∧ ad i = q
def Rl (G : Gl) (lay : List Sh) (ad : Nat → Nat) (S : Bk) (U : State) (H : Heap) : Prop :=
  va_P (gD G) classes (wsOf G lay ad S) H ∧ va_D (fun q => gB G ≤ q) (wsOf G lay ad S) ∧ va_K (gD G) classes (gT G) U
def Qr (ret : Option FieldType) (G : Gl) (lay : List Sh) (ad : Nat → Nat) (r : Int32) (S' : Bk) : Array Value → State → Outcome → State → Prop := match ret with
  | none => va_Qv (fun u : Bk => u = S') (fun u t => Rl G lay ad u t t.heap) (Aof lay ad)
  | some _ => va_Qi (fun (r' : Int32) (u : Bk) => r' = r ∧ u = S') (fun u t => Rl G lay ad u t t.heap) (Aof lay ad)
def Lh (ls : Array Slot) (n : Nat) (lv : List (Option Value)) : Prop := ls.size = n ∧ lv_wf ls ∧ ∀ (i : Nat) (v : Value), lv[i]? = some (some v) → ls[i]? = some (.val v) ∧ v.category = 1
def Cx (G : Gl) (mi : Mi) (p : Program) (s : State) (m : MethodId) (args : Array Value) (meth : Method) (c : Code) : Prop :=
  p.tables.exec = Jvm.exec ∧ c.code = mC mi ∧ c.maxLocals = mL mi ∧ meth.sig.returnType = mR mi ∧ meth.locks = false ∧ s.vm.findClass (mY mi).cls = some m.cls ∧ (∀ w ∈ tb, w.before args s = true) ∧ gS G s s.heap
def Sm (l : Launch) (G : Gl) (mi : Mi) (d : Nat) (lay : List Sh) (ad : Nat → Nat) (pc : Nat) (lv : List (Option Value)) (st : List Value) (K : MM Int32) : Prop :=
  ∀ (p : Program) (e : Env) (s : State) (m : MethodId) (args : Array Value) (below : List Frame) (meth : Method) (c : Code), Cx G mi p s m args meth c →
    ∀ (S : Bk) (r : Int32) (S' : Bk), K S = some (r, S') → ∀ (H : Heap) (locs : List Loc), Rl G lay ad S s H → va_S (Aof lay ad) s.heap H locs → ∀ ls : Array Slot, Lh ls (mL mi) lv →
      W p l e (Rm d) s m args below meth c H locs 0 0 (MQ below (Qr (mR mi) G lay ad r S') args s 0 0 (Aof lay ad)) (F0 m pc ls st)
def Cn (l : Launch) (G : Gl) (mi : Mi) (d : Nat) (lay : List Sh) (ad : Nat → Nat) (av : List Value) (g : MM Int32) : Prop :=
  ∀ (S : Bk) (r : Int32) (S' : Bk), g S = some (r, S') → Met l (mY mi) (Cond.code (mY mi) (mC mi) (mL mi) (mR mi) :: tb) (Rm d) (va_Pc av (fun U => Rl G lay ad S U U.heap ∧ gS G U U.heap)) (Qr (mR mi) G lay ad r S') 0 0 (Aof lay ad)
theorem Rl.moved {G : Gl} {lay : List Sh} {ad : Nat → Nat} {S : Bk} {u U : State} {H : Heap} (hvm : u.vm.Alike U.vm) (h : Rl G lay ad S u H) : Rl G lay ad S U H := ⟨h.1, h.2.1, va_K.moved hvm h.2.2⟩
theorem Rl.hDA {G : Gl} {lay : List Sh} {ad : Nat → Nat} {S : Bk} {U : State} {H : Heap} (h : Rl G lay ad S U H) : va_D (Aof lay ad) (wsOf G lay ad S) := by
  refine h.2.1.weaken (fun k q hk _ => ?_)
  obtain ⟨sh, h1, rfl⟩ := ws_of hk
  exact ⟨k, (List.getElem?_eq_some_iff.mp h1).1, rfl⟩
theorem Rl.base {G : Gl} {lay : List Sh} {ad : Nat → Nat} {S : Bk} {U : State} {H : Heap} (h : Rl G lay ad S U H) {q : Nat} (hq : Aof lay ad q) : gB G ≤ q := by
  obtain ⟨i, hi, rfl⟩ := hq
  exact h.2.1.2 i _ (ws_at (List.getElem?_eq_getElem hi))
theorem Rl.inj {G : Gl} {lay : List Sh} {ad : Nat → Nat} {S : Bk} {U : State} {H : Heap} (h : Rl G lay ad S U H) {i j : Nat} (hi : i < lay.length) (hj : j < lay.length) (he : ad i = ad j) : i = j :=
  h.2.1.1 i j _ _ (ws_at (List.getElem?_eq_getElem hi)) (ws_at (List.getElem?_eq_getElem hj)) he
/-- behind a write into one of its cells -/
theorem Rl.put {G : Gl} {lay : List Sh} {ad : Nat → Nat} {S : Bk} {U : State} {H H1 : Heap} (h : Rl G lay ad S U H) {i : Nat} {sh : Sh} (hi : lay[i]? = some sh) {l : List Int32} {ce : va_E} (hce : ce = cellE G ad sh l)
    (hP : va_P (gD G) classes ((wsOf G lay ad S).set i (ad i, ce)) H1) (hD : va_D (Aof lay ad) ((wsOf G lay ad S).set i (ad i, ce))) : Rl G lay ad (up S i l) U H1 := by
  subst hce
  rw [ws_set hi] at hP hD
  exact ⟨hP, hD.weaken (fun _ _ _ hA => h.base hA), h.2.2⟩
/-- what is given of the statics stays so -/
theorem gS_at {G : Gl} {lay : List Sh} {ad : Nat → Nat} {S : Bk} {s U : State} {H : Heap} {locs : List Loc} (hg : gS G s s.heap) (h : Rl G lay ad S s H) (hS : va_S (Aof lay ad) s.heap H locs) (hW : s.WarmedH U.vm) : gS G U H :=
  gS_warm hW (gS_kept (fun a h1 h2 => hS.2.1 a h1 (fun q => h2 (h.base q))) hg)
theorem Lh.get {ls : Array Slot} {n : Nat} {lv : List (Option Value)} (h : Lh ls n lv) {i : Nat} {v : Value} (hi : lv[i]? = some (some v)) : ls[i]? = some (.val v) := (h.2.2 i v hi).1
def al : Nat → List (Option Value) → List (Nat × Value)
  | _, [] => []
  | k, none :: t => al (k + 1) t
  | k, some v :: t => (k, v) :: al (k + 1) t
theorem al_mem : ∀ (lv : List (Option Value)) (k i : Nat) (v : Value), (i, v) ∈ al k lv ↔ ∃ j, i = k + j ∧ lv[j]? = some (some v)
  | [], k, i, v => by simp [al]
  | none :: t, k, i, v => by
    rw [al, al_mem t]
    constructor
    · rintro ⟨j, h1, h2⟩
      exact ⟨j + 1, by omega, by simpa using h2⟩
    · rintro ⟨j, h1, h2⟩
      cases j with
      | zero => simp at h2
      | succ j => exact ⟨j, by omega, by simpa using h2⟩
  | some w :: t, k, i, v => by
    rw [al, List.mem_cons, al_mem t]
    constructor
    · rintro (h | ⟨j, h1, h2⟩)
      · cases h
        exact ⟨0, rfl, by simp⟩
      · exact ⟨j + 1, by omega, by simpa using h2⟩
    · rintro ⟨j, h1, h2⟩
      cases j with
      | zero => left; simp at h2; simp [h1, h2]
      | succ j => exact Or.inr ⟨j, by omega, by simpa using h2⟩
theorem Lh.hal {ls : Array Slot} {n : Nat} {lv : List (Option Value)} (h : Lh ls n lv) : lv_has ls n (al 0 lv) := by
  refine ⟨h.1, h.2.1, fun q hq => ?_⟩
  obtain ⟨j, h1, h2⟩ := (al_mem lv 0 q.1 q.2).mp hq
  rw [h1, Nat.zero_add]
  exact (h.2.2 j q.2 h2).1
/-- behind a store -/
theorem Lh.store {ls ls' : Array Slot} {n : Nat} {lv : List (Option Value)} (h : Lh ls n lv) {i : Nat} {v : Value} (hv : v.category = 1) (h' : lv_has ls' n ((i, v) :: (al 0 lv).filter (fun q => !(q.1 == i) && !(q.1 + 1 == i && q.2.category == 2)))) : Lh ls' n (lv.set i (some v)) := by
  refine ⟨h'.1, h'.2.1, fun j w hw => ?_⟩
  rw [List.getElem?_set] at hw
  by_cases hj : i = j
  · subst hj
    rw [if_pos rfl] at hw
    by_cases hl : i < lv.length
    · rw [if_pos hl] at hw
      cases hw
      exact ⟨h'.2.2 (i, v) List.mem_cons_self, hv⟩
    · rw [if_neg hl] at hw
      cases hw
  · rw [if_neg hj] at hw
    have h1 := h.2.2 j w hw
    refine ⟨h'.2.2 (j, w) (List.mem_cons_of_mem _ (List.mem_filter.mpr ⟨(al_mem lv 0 j w).mpr ⟨j, by omega, hw⟩, ?_⟩)), h1.2⟩
    have e1 : (j == i) = false := by simpa using fun q => hj q.symm
    simp [e1, h1.2]
/-- fewer locals -/
def mask : List (Option Value) → List (Option Value) → List (Option Value)
  | [], _ => []
  | none :: a, b => none :: mask a b.tail
  | some _ :: a, b => (b.head?).getD none :: mask a b.tail
theorem mask_get : ∀ {a b : List (Option Value)}, mask a b = a → ∀ {i : Nat} {v : Value}, a[i]? = some (some v) → b[i]? = some (some v)
  | [], _, _, i, v, h => by simp at h
  | none :: a, b, hw, 0, v, h => by simp at h
  | none :: a, b, hw, i + 1, v, h => by
    have := mask_get (a := a) (b := b.tail) (by simpa [mask] using hw) (i := i) (v := v) (by simpa using h)
    cases b <;> simpa using this
  | some w :: a, b, hw, 0, v, h => by
    simp at h
    subst h
    cases b <;> simp_all [mask]
  | some w :: a, b, hw, i + 1, v, h => by
    have := mask_get (a := a) (b := b.tail) (by simp [mask] at hw; exact hw.2) (i := i) (v := v) (by simpa using h)
    cases b <;> simpa using this
section SM
variable {l : Launch} {G : Gl} {mi : Mi} {d : Nat} {lay : List Sh} {ad : Nat → Nat} {pc : Nat} {lv lv' : List (Option Value)} {st : List Value} {K : MM Int32}
theorem s_weak (h : mask lv' lv = lv') (k : Sm l G mi d lay ad pc lv' st K) : Sm l G mi d lay ad pc lv st K :=
  fun p e s m args below meth c X S r S' hK H locs hR hS ls hl => k p e s m args below meth c X S r S' hK H locs hR hS ls ⟨hl.1, hl.2.1, fun i v hi => hl.2.2 i v (mask_get h hi)⟩
/-- a row that changes only frame and locals -/
theorem s_pure {pc' : Nat} {st' : List Value} (h : ∀ (p : Program) (e : Env) (s : State) (m : MethodId) (args : Array Value) (below : List Frame) (meth : Method) (c : Code), Cx G mi p s m args meth c → ∀ (H : Heap) (locs : List Loc) (Q : State → Prop) (ls : Array Slot), Lh ls (mL mi) lv →
      (∀ ls', Lh ls' (mL mi) lv' → W p l e (Rm d) s m args below meth c H locs 0 0 Q (F0 m pc' ls' st')) → W p l e (Rm d) s m args below meth c H locs 0 0 Q (F0 m pc ls st)) (k : Sm l G mi d lay ad pc' lv' st' K) : Sm l G mi d lay ad pc lv st K :=
  fun p e s m args below meth c X S r S' hK H locs hR hS ls hl => h p e s m args below meth c X H locs _ ls hl (fun ls' hl' => k p e s m args below meth c X S r S' hK H locs hR hS ls' hl')
theorem s_iconst {n : Int} {v : Int32} (hd : decode (mC mi) pc = .ok (.iconst n, 1)) (hv : Int32.ofInt n = v) (k : Sm l G mi d lay ad (pc + 1) lv (.int v :: st) K) : Sm l G mi d lay ad pc lv st K :=
  s_pure (fun p e s m args below meth c X H locs Q ls hl kk => lv_iconst X.1 X.2.1 hd hv (kk ls hl)) k
theorem s_bipush {n : Int} {v : Int32} (hd : decode (mC mi) pc = .ok (.bipush n, 2)) (hv : (Int8.ofInt n).toInt32 = v) (k : Sm l G mi d lay ad (pc + 2) lv (.int v :: st) K) : Sm l G mi d lay ad pc lv st K :=
  s_pure (fun p e s m args below meth c X H locs Q ls hl kk => lv_bipush X.1 X.2.1 hd hv (kk ls hl)) k
theorem s_sipush {n : Int} {v : Int32} (hd : decode (mC mi) pc = .ok (.sipush n, 3)) (hv : (Int16.ofInt n).toInt32 = v) (k : Sm l G mi d lay ad (pc + 3) lv (.int v :: st) K) : Sm l G mi d lay ad pc lv st K :=
  s_pure (fun p e s m args below meth c X H locs Q ls hl kk => lv_sipush X.1 X.2.1 hd hv (kk ls hl)) k
theorem s_ldc {idx : Nat} {v : Int32} (hc : Cond.constant (mY mi).cls idx v ∈ tb) (hd : decode (mC mi) pc = .ok (.ldc idx, 2)) (k : Sm l G mi d lay ad (pc + 2) lv (.int v :: st) K) : Sm l G mi d lay ad pc lv st K :=
  s_pure (fun p e s m args below meth c X H locs Q ls hl kk => lv_ldc X.1 X.2.1 X.2.2.2.2.2.1 (X.2.2.2.2.2.2.1 _ hc) hd (kk ls hl)) k
theorem s_ldcw {idx : Nat} {v : Int32} (hc : Cond.constant (mY mi).cls idx v ∈ tb) (hd : decode (mC mi) pc = .ok (.ldc_w idx, 3)) (k : Sm l G mi d lay ad (pc + 3) lv (.int v :: st) K) : Sm l G mi d lay ad pc lv st K :=
  s_pure (fun p e s m args below meth c X H locs Q ls hl kk => lv_ldcw X.1 X.2.1 X.2.2.2.2.2.1 (X.2.2.2.2.2.2.1 _ hc) hd (kk ls hl)) k
theorem s_iload_n {k4 : Fin 4} {i : Nat} {x : Int32} (hd : decode (mC mi) pc = .ok (.iload_n k4, 1)) (hi : (k4 : Nat) = i) (hx : lv[i]? = some (some (.int x))) (k : Sm l G mi d lay ad (pc + 1) lv (.int x :: st) K) : Sm l G mi d lay ad pc lv st K :=
  s_pure (fun p e s m args below meth c X H locs Q ls hl kk => lv_iload_n X.1 X.2.1 hd hi (hl.get hx) (kk ls hl)) k
theorem s_iload {i : Nat} {x : Int32} (hd : decode (mC mi) pc = .ok (.iload i, 2)) (hx : lv[i]? = some (some (.int x))) (k : Sm l G mi d lay ad (pc + 2) lv (.int x :: st) K) : Sm l G mi d lay ad pc lv st K :=
  s_pure (fun p e s m args below meth c X H locs Q ls hl kk => lv_iload X.1 X.2.1 hd (hl.get hx) (kk ls hl)) k
theorem s_aload_n {k4 : Fin 4} {i : Nat} {x : Nat} (hd : decode (mC mi) pc = .ok (.aload_n k4, 1)) (hi : (k4 : Nat) = i) (hx : lv[i]? = some (some (.ref x))) (k : Sm l G mi d lay ad (pc + 1) lv (.ref x :: st) K) : Sm l G mi d lay ad pc lv st K :=
  s_pure (fun p e s m args below meth c X H locs Q ls hl kk => lv_aload_n X.1 X.2.1 hd hi (hl.get hx) (kk ls hl)) k
theorem s_istore_n {k4 : Fin 4} {i : Nat} {x : Int32} (hd : decode (mC mi) pc = .ok (.istore_n k4, 1)) (hi : (k4 : Nat) = i) (hn : i < mL mi) (hs : lv.set i (some (.int x)) = lv') (k : Sm l G mi d lay ad (pc + 1) lv' st K) : Sm l G mi d lay ad pc lv (.int x :: st) K :=
  s_pure (fun p e s m args below meth c X H locs Q ls hl kk => lv_istore_n X.1 X.2.1 hd hi hl.hal hn rfl (fun ls' hl' => kk ls' (hs ▸ hl.store rfl hl'))) k
theorem s_istore {i : Nat} {x : Int32} (hd : decode (mC mi) pc = .ok (.istore i, 2)) (hn : i < mL mi) (hs : lv.set i (some (.int x)) = lv') (k : Sm l G mi d lay ad (pc + 2) lv' st K) : Sm l G mi d lay ad pc lv (.int x :: st) K :=
  s_pure (fun p e s m args below meth c X H locs Q ls hl kk => lv_istore X.1 X.2.1 hd hl.hal hn rfl (fun ls' hl' => kk ls' (hs ▸ hl.store rfl hl'))) k
theorem s_astore_n {k4 : Fin 4} {i : Nat} {x : Nat} (hd : decode (mC mi) pc = .ok (.astore_n k4, 1)) (hi : (k4 : Nat) = i) (hn : i < mL mi) (hs : lv.set i (some (.ref x)) = lv') (k : Sm l G mi d lay ad (pc + 1) lv' st K) : Sm l G mi d lay ad pc lv (.ref x :: st) K :=
  s_pure (fun p e s m args below meth c X H locs Q ls hl kk => lv_astore_n X.1 X.2.1 hd hi hl.hal hn rfl (fun ls' hl' => kk ls' (hs ▸ hl.store rfl hl'))) k
theorem s_iinc {i : Nat} {n : Int} {x v : Int32} (hd : decode (mC mi) pc = .ok (.iinc i n, 3)) (hx : lv[i]? = some (some (.int x))) (hv : x + Int32.ofInt n = v) (hn : i < mL mi) (hs : lv.set i (some (.int v)) = lv') (k : Sm l G mi d lay ad (pc + 3) lv' st K) : Sm l G mi d lay ad pc lv st K := by
  refine s_pure (fun p e s m args below meth c X H locs Q ls hl kk => ?_) k
  have hm : (i, Value.int x) ∈ al 0 lv := (al_mem lv 0 i _).mpr ⟨i, by omega, hx⟩
  obtain ⟨j, hj⟩ := List.getElem?_of_mem hm
  exact lv_iinc X.1 X.2.1 hd hl.hal hj hv hn rfl (fun ls' hl' => kk ls' (hs ▸ hl.store rfl hl'))
theorem s_dup {v : Value} (hd : decode (mC mi) pc = .ok (.dup, 1)) (hv : v.category = 1) (k : Sm l G mi d lay ad (pc + 1) lv (v :: v :: st) K) : Sm l G mi d lay ad pc lv (v :: st) K :=
  s_pure (fun p e s m args below meth c X H locs Q ls hl kk => lv_dup X.1 X.2.1 hd hv (kk ls hl)) k
theorem s_dup2 {v w : Value} (hd : decode (mC mi) pc = .ok (.dup2, 1)) (hv : v.category = 1) (hw : w.category = 1) (k : Sm l G mi d lay ad (pc + 1) lv (v :: w :: v :: w :: st) K) : Sm l G mi d lay ad pc lv (v :: w :: st) K :=
  s_pure (fun p e s m args below meth c X H locs Q ls hl kk => lv_dup2_11 X.1 X.2.1 hd hv hw (kk ls hl)) k
theorem s_pop {v : Value} (hd : decode (mC mi) pc = .ok (.pop, 1)) (hv : v.category = 1) (k : Sm l G mi d lay ad (pc + 1) lv st K) : Sm l G mi d lay ad pc lv (v :: st) K :=
  s_pure (fun p e s m args below meth c X H locs Q ls hl kk => lv_pop X.1 X.2.1 hd hv (kk ls hl)) k
theorem s_iadd {x y : Int32} (hd : decode (mC mi) pc = .ok (.iadd, 1)) (k : Sm l G mi d lay ad (pc + 1) lv (.int (x + y) :: st) K) : Sm l G mi d lay ad pc lv (.int y :: .int x :: st) K :=
  s_pure (fun p e s m args below meth c X H locs Q ls hl kk => lv_iadd X.1 X.2.1 hd (kk ls hl)) k
theorem s_isub {x y : Int32} (hd : decode (mC mi) pc = .ok (.isub, 1)) (k : Sm l G mi d lay ad (pc + 1) lv (.int (x - y) :: st) K) : Sm l G mi d lay ad pc lv (.int y :: .int x :: st) K :=
  s_pure (fun p e s m args below meth c X H locs Q ls hl kk => lv_isub X.1 X.2.1 hd (kk ls hl)) k
theorem s_imul {x y : Int32} (hd : decode (mC mi) pc = .ok (.imul, 1)) (k : Sm l G mi d lay ad (pc + 1) lv (.int (x * y) :: st) K) : Sm l G mi d lay ad pc lv (.int y :: .int x :: st) K :=
  s_pure (fun p e s m args below meth c X H locs Q ls hl kk => lv_imul X.1 X.2.1 hd (kk ls hl)) k
theorem s_iand {x y : Int32} (hd : decode (mC mi) pc = .ok (.iand, 1)) (k : Sm l G mi d lay ad (pc + 1) lv (.int (x &&& y) :: st) K) : Sm l G mi d lay ad pc lv (.int y :: .int x :: st) K :=
  s_pure (fun p e s m args below meth c X H locs Q ls hl kk => lv_iand X.1 X.2.1 hd (kk ls hl)) k
theorem s_ior {x y : Int32} (hd : decode (mC mi) pc = .ok (.ior, 1)) (k : Sm l G mi d lay ad (pc + 1) lv (.int (x ||| y) :: st) K) : Sm l G mi d lay ad pc lv (.int y :: .int x :: st) K :=
  s_pure (fun p e s m args below meth c X H locs Q ls hl kk => lv_ior X.1 X.2.1 hd (kk ls hl)) k
theorem s_ixor {x y : Int32} (hd : decode (mC mi) pc = .ok (.ixor, 1)) (k : Sm l G mi d lay ad (pc + 1) lv (.int (x ^^^ y) :: st) K) : Sm l G mi d lay ad pc lv (.int y :: .int x :: st) K :=
  s_pure (fun p e s m args below meth c X H locs Q ls hl kk => lv_ixor X.1 X.2.1 hd (kk ls hl)) k
theorem s_ishl {x y : Int32} (hd : decode (mC mi) pc = .ok (.ishl, 1)) (k : Sm l G mi d lay ad (pc + 1) lv (.int (x <<< (y &&& 31)) :: st) K) : Sm l G mi d lay ad pc lv (.int y :: .int x :: st) K :=
  s_pure (fun p e s m args below meth c X H locs Q ls hl kk => lv_ishl X.1 X.2.1 hd (kk ls hl)) k
theorem s_ishr {x y : Int32} (hd : decode (mC mi) pc = .ok (.ishr, 1)) (k : Sm l G mi d lay ad (pc + 1) lv (.int (x >>> (y &&& 31)) :: st) K) : Sm l G mi d lay ad pc lv (.int y :: .int x :: st) K :=
  s_pure (fun p e s m args below meth c X H locs Q ls hl kk => lv_ishr X.1 X.2.1 hd (kk ls hl)) k
theorem s_iushr {x y : Int32} (hd : decode (mC mi) pc = .ok (.iushr, 1)) (k : Sm l G mi d lay ad (pc + 1) lv (.int (ish x y) :: st) K) : Sm l G mi d lay ad pc lv (.int y :: .int x :: st) K :=
  s_pure (fun p e s m args below meth c X H locs Q ls hl kk => lv_iushr X.1 X.2.1 hd rfl (kk ls hl)) k
theorem s_ineg {x : Int32} (hd : decode (mC mi) pc = .ok (.ineg, 1)) (k : Sm l G mi d lay ad (pc + 1) lv (.int (-x) :: st) K) : Sm l G mi d lay ad pc lv (.int x :: st) K :=
  s_pure (fun p e s m args below meth c X H locs Q ls hl kk => lv_ineg X.1 X.2.1 hd (kk ls hl)) k
theorem s_goto {off : Int} {tgt : Nat} (hd : decode (mC mi) pc = .ok (.goto off, 3)) (ht : (pc : Int) + off = (tgt : Int)) (k : Sm l G mi d lay ad tgt lv st K) : Sm l G mi d lay ad pc lv st K :=
  s_pure (fun p e s m args below meth c X H locs Q ls hl kk => lv_goto X.1 X.2.1 hd ht (kk ls hl)) k
theorem s_ifnull {off : Int} {x : Nat} (hd : decode (mC mi) pc = .ok (.ifnull off, 3)) (k : Sm l G mi d lay ad (pc + 3) lv st K) : Sm l G mi d lay ad pc lv (.ref x :: st) K :=
  s_pure (fun p e s m args below meth c X H locs Q ls hl kk => lv_ifnull X.1 X.2.1 hd (kk ls hl)) k
theorem s_idiv {x y : Int32} (hd : decode (mC mi) pc = .ok (.idiv, 1)) (k : Sm l G mi d lay ad (pc + 1) lv (.int (x / y) :: st) K) : Sm l G mi d lay ad pc lv (.int y :: .int x :: st) (nz y K) := by
  intro p e s m args below meth c X S r S' hK H locs hR hS ls hl
  have hy : ¬ y = 0 := fun q => by simp [nz, q] at hK
  exact lv_idiv X.1 X.2.1 hd hy (k p e s m args below meth c X S r S' (by simpa [nz, hy] using hK) H locs hR hS ls hl)
theorem s_irem {x y : Int32} (hd : decode (mC mi) pc = .ok (.irem, 1)) (k : Sm l G mi d lay ad (pc + 1) lv (.int (irm x y) :: st) K) : Sm l G mi d lay ad pc lv (.int y :: .int x :: st) (nz y K) := by
  intro p e s m args below meth c X S r S' hK H locs hR hS ls hl
  have hy : ¬ y = 0 := fun q => by simp [nz, q] at hK
  exact lv_irem X.1 X.2.1 hd hy (k p e s m args below meth c X S r S' (by simpa [nz, hy] using hK) H locs hR hS ls hl)
theorem s_lt {e : Int32} {k : Int32 → MM Int32} (h : Sm l G mi d lay ad pc lv st (k e)) : Sm l G mi d lay ad pc lv st (lt e k) := h
theorem s_jn {α : Type} {J : α → MM Int32} {B : (α → MM Int32) → MM Int32} (pj : Nat) (lj : α → List (Option Value)) (sj : α → List Value) (hJ : ∀ a, Sm l G mi d lay ad pj (lj a) (sj a) (J a)) (hB : ∀ j : α → MM Int32, (∀ a, Sm l G mi d lay ad pj (lj a) (sj a) (j a)) → Sm l G mi d lay ad pc lv st (B j)) : Sm l G mi d lay ad pc lv st (jn J B) := hB J hJ
theorem s_fl : Sm l G mi d lay ad pc lv st fl := fun p e s m args below meth c X S r S' hK => by cases hK
theorem s_loop {σ : Type} {F : (σ → MM Int32) → σ → MM Int32} (lj : σ → List (Option Value)) (sj : List Value) (hF : ∀ self : σ → MM Int32, (∀ x, Sm l G mi d lay ad pc (lj x) sj (self x)) → ∀ x, Sm l G mi d lay ad pc (lj x) sj (F self x)) : ∀ (n : Nat) (x : σ), Sm l G mi d lay ad pc (lj x) sj (loopC n F x)
  | 0, x => s_fl
  | n + 1, x => hF (loopC n F) (s_loop lj sj hF n) x
theorem s_pick {x : Nat} {k : Nat → MM Int32} : ∀ (os : List Nat), (∀ o ∈ os, x = o → Sm l G mi d lay ad pc lv st (k o)) → Sm l G mi d lay ad pc lv st (pick x os k)
  | [], _ => s_fl
  | o :: os, h => by
    intro p e s m args below meth c X S r S' hK
    by_cases hx : x = o
    · exact h o List.mem_cons_self hx p e s m args below meth c X S r S' (by simpa [pick, hx] using hK)
    · exact s_pick os (fun o ho => h o (List.mem_cons_of_mem _ ho)) p e s m args below meth c X S r S' (by simpa [pick, hx] using hK)
theorem s_ite {C : Prop} [Decidable C] {K1 K2 : MM Int32} (h1 : C → Sm l G mi d lay ad pc lv st K1) (h2 : ¬ C → Sm l G mi d lay ad pc lv st K2) : Sm l G mi d lay ad pc lv st (if C then K1 else K2) := by
  by_cases hc : C
  · rw [if_pos hc]; exact h1 hc
  · rw [if_neg hc]; exact h2 hc
end SM
theorem s_wk {l : Launch} {G : Gl} {mi : Mi} {d : Nat} {lay : List Sh} {ad : Nat → Nat} {pc : Nat} {lv lv' : List (Option Value)} {st : List Value} {K : MM Int32} (k : Sm l G mi d lay ad pc lv' st K) (h : mask lv' lv = lv') : Sm l G mi d lay ad pc lv st K := s_weak h k
section SL
variable {l : Launch} {G : Gl} {mi : Mi} {d : Nat} {lay : List Sh} {ad : Nat → Nat} {pc : Nat} {lv : List (Option Value)} {lf' : Int32 → List (Option Value)} {st : List Value} {kk : Int32 → MM Int32}
theorem s_istore_nL {k4 : Fin 4} {i : Nat} {x : Int32} (hd : decode (mC mi) pc = .ok (.istore_n k4, 1)) (hi : (k4 : Nat) = i) (hn : i < mL mi) (hs : ∀ y : Int32, lv.set i (some (.int y)) = lf' y) (k : ∀ y : Int32, Sm l G mi d lay ad (pc + 1) (lf' y) st (kk y)) : Sm l G mi d lay ad pc lv (.int x :: st) (lt x kk) := s_istore_n hd hi hn (hs x) (k x)
theorem s_istoreL {i : Nat} {x : Int32} (hd : decode (mC mi) pc = .ok (.istore i, 2)) (hn : i < mL mi) (hs : ∀ y : Int32, lv.set i (some (.int y)) = lf' y) (k : ∀ y : Int32, Sm l G mi d lay ad (pc + 2) (lf' y) st (kk y)) : Sm l G mi d lay ad pc lv (.int x :: st) (lt x kk) := s_istore hd hn (hs x) (k x)
theorem s_iincL {i : Nat} {n : Int} {x v : Int32} (hd : decode (mC mi) pc = .ok (.iinc i n, 3)) (hx : lv[i]? = some (some (.int x))) (hv : x + Int32.ofInt n = v) (hn : i < mL mi) (hs : ∀ y : Int32, lv.set i (some (.int y)) = lf' y) (k : ∀ y : Int32, Sm l G mi d lay ad (pc + 3) (lf' y) st (kk y)) : Sm l G mi d lay ad pc lv st (lt v kk) := s_iinc hd hx hv hn (hs v) (k v)
end SL
