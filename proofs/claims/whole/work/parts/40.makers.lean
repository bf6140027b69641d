/-! MAKERS: constructors. The layout lay and the bank S are what stands at the end; the cells below k are there, each as it will be for good, but for the open ones (op). The cell i lies at ad i, the next new one comes to ad k. -/
abbrev Op : Type := Nat → Option va_E
def upo (op : Op) (i : Nat) (e : va_E) : Op := fun j => if j = i then some e else op j
def upn (op : Op) (i : Nat) : Op := fun j => if j = i then none else op j
def fin (G : Gl) (lay : List Sh) (ad : Nat → Nat) (S : Bk) (i : Nat) : va_E := cellE G ad (lay.getD i (.inr false)) (S i)
def wsC (G : Gl) (lay : List Sh) (ad : Nat → Nat) (S : Bk) (op : Op) (k : Nat) : va_W := (List.range k).map (fun i => (ad i, (op i).getD (fin G lay ad S i)))
abbrev RmC (d mc ms : Nat) : Room := { frames := d, cells := mc, slots := ms, locals := 64 * d }
def AC (ad : Nat → Nat) : Nat → Prop := fun q => q = ad 0 ∨ ad 1 ≤ q
def Adj (ad : Nat → Nat) : Prop := ad 0 < ad 1 ∧ ∀ i, ad (i + 1) = ad 1 + i
def adC (h0 sz : Nat) : Nat → Nat := fun i => if i = 0 then h0 else sz + (i - 1)
theorem adC_ok {h0 sz : Nat} (h : h0 < sz) : Adj (adC h0 sz) := ⟨by simpa [adC] using h, fun i => by simp [adC]⟩
theorem Adj.inj {ad : Nat → Nat} (h : Adj ad) {i j : Nat} (he : ad i = ad j) : i = j := by
  cases i with
  | zero => cases j with
    | zero => rfl
    | succ j => have := h.2 j; have := h.1; omega
  | succ i => cases j with
    | zero => have := h.2 i; have := h.1; omega
    | succ j => have := h.2 i; have := h.2 j; omega
theorem Adj.lt {ad : Nat → Nat} (h : Adj ad) {i k : Nat} (hi : i < k) : ad i < ad k := by
  obtain ⟨k, rfl⟩ : ∃ q, k = q + 1 := ⟨k - 1, by omega⟩
  have := h.2 k
  cases i with
  | zero => have := h.1; omega
  | succ i => have := h.2 i; omega
theorem Adj.next {ad : Nat → Nat} (h : Adj ad) {k : Nat} (hk : 1 ≤ k) : ad (k + 1) = ad k + 1 := by
  obtain ⟨k, rfl⟩ : ∃ q, k = q + 1 := ⟨k - 1, by omega⟩
  have := h.2 k; have := h.2 (k + 1); omega
theorem Adj.base {ad : Nat → Nat} (h : Adj ad) {b : Nat} (hb : b ≤ ad 0) {q : Nat} (hq : AC ad q) : b ≤ q := by
  rcases hq with rfl | hq
  · exact hb
  · have := h.1; omega
theorem Adj.AC {ad : Nat → Nat} (h : Adj ad) (i : Nat) : AC ad (ad i) := by
  cases i with
  | zero => exact Or.inl rfl
  | succ i => exact Or.inr (by have := h.2 i; omega)
theorem wd_arrI : Cond.arrayClass (newarray.typeOf .int) ∈ tb := tb_1 (i := 135) rfl rfl
section WC
variable {G : Gl} {lay : List Sh} {ad : Nat → Nat} {S : Bk} {op : Op} {k i : Nat} {e : va_E}
theorem wc_at (hi : i < k) : (wsC G lay ad S op k)[i]? = some (ad i, (op i).getD (fin G lay ad S i)) := by
  unfold wsC
  rw [List.getElem?_map, List.getElem?_range hi]; rfl
theorem wc_op (hi : i < k) (ho : op i = some e) : (wsC G lay ad S op k)[i]? = some (ad i, e) := by rw [wc_at hi, ho]; rfl
theorem wc_of {q : Nat × va_E} (h : (wsC G lay ad S op k)[i]? = some q) : i < k ∧ q = (ad i, (op i).getD (fin G lay ad S i)) := by
  have hl : i < k := by have := (List.getElem?_eq_some_iff.mp h).1; simpa [wsC] using this
  rw [wc_at hl] at h
  exact ⟨hl, (Option.some.inj h).symm⟩
theorem wc_set (hi : i < k) : (wsC G lay ad S op k).set i (ad i, e) = wsC G lay ad S (upo op i e) k := by
  apply List.ext_getElem?
  intro j
  rw [List.getElem?_set]
  by_cases hj : i = j
  · subst hj
    rw [if_pos rfl, if_pos (by simpa [wsC] using hi), wc_at hi]; simp [upo]
  · rw [if_neg hj]
    by_cases hl : j < k
    · have hj2 : ¬ j = i := fun q => hj q.symm
      rw [wc_at hl, wc_at hl]; simp [upo, hj2]
    · rw [List.getElem?_eq_none (by simpa [wsC] using hl), List.getElem?_eq_none (by simpa [wsC] using hl)]
theorem wc_push : wsC G lay ad S op k ++ [(ad k, e)] = wsC G lay ad S (upo op k e) (k + 1) := by
  unfold wsC
  rw [List.range_succ, List.map_append, List.map_cons, List.map_nil]
  congr 1
  · apply List.map_congr_left
    intro j hj
    have : j ≠ k := Nat.ne_of_lt (List.mem_range.mp hj)
    simp [upo, this]
  · simp [upo]
theorem wc_D (h : Adj ad) : va_D (AC ad) (wsC G lay ad S op k) := by
  refine ⟨fun i j x y hx hy hxy => ?_, fun i q hq => ?_⟩
  · obtain ⟨-, rfl⟩ := wc_of hx
    obtain ⟨-, rfl⟩ := wc_of hy
    exact h.inj hxy
  · obtain ⟨-, rfl⟩ := wc_of hq
    exact h.AC i
end WC
def QC (G : Gl) (lay : List Sh) (ad : Nat → Nat) (S : Bk) : Array Value → State → Outcome → State → Prop :=
  va_Qv (fun _ : Unit => True) (fun _ t => t.heap.size = ad lay.length ∧ va_P (gD G) classes (wsOf G lay ad S) t.heap) (AC ad)
def Sk (l : Launch) (G : Gl) (mi : Mi) (d mc ms : Nat) (lay : List Sh) (ad : Nat → Nat) (S : Bk) (pc k : Nat) (op : Op) (cu su : Nat) (lv : List (Option Value)) (st : List Value) : Prop :=
  ∀ (p : Program) (e : Env) (s : State) (m : MethodId) (args : Array Value) (below : List Frame) (meth : Method) (c : Code), Cx G mi p s m args meth c → meth.name = "<init>" → va_K (gD G) classes (gT G) s → s.heap.size = ad 1 →
    ∀ (H : Heap) (locs : List Loc), va_P (gD G) classes (wsC G lay ad S op k) H → va_S (AC ad) s.heap H locs → H.size = ad k → ∀ ls : Array Slot, Lh ls (mL mi) lv →
      W p l e (RmC d mc ms) s m args below meth c H locs cu su (MQ below (QC G lay ad S) args s mc ms (AC ad)) (F0 m pc ls st)
/-- a maker's contract: the object lies at h0 with its fields as they come, the heap has sz cells -/
def Ck (l : Launch) (G : Gl) (mi : Mi) (d mc ms : Nat) (lay : List Sh) (S : Bk) (ci : Nat) (fs : List Value) (As : List Value) : Prop :=
  ∀ (h0 sz : Nat), gB G ≤ h0 → h0 < sz → Met l (mY mi) (Cond.code (mY mi) (mC mi) (mL mi) (mR mi) :: tb) (RmC d mc ms) (va_Pc (.ref h0 :: As) (fun U => U.heap.size = sz ∧ va_P (gD G) classes [(h0, .inr (ci, fs))] U.heap ∧ va_K (gD G) classes (gT G) U ∧ gS G U U.heap)) (QC G lay (adC h0 sz) S) mc ms (AC (adC h0 sz))
section SK
variable {l : Launch} {G : Gl} {mi : Mi} {d mc ms : Nat} {lay : List Sh} {ad : Nat → Nat} {S : Bk} {pc k cu su : Nat} {op : Op} {lv lv' : List (Option Value)} {st : List Value}
theorem k_pure {pc' : Nat} {st' : List Value} (h : ∀ (p : Program) (e : Env) (s : State) (m : MethodId) (args : Array Value) (below : List Frame) (meth : Method) (c : Code), Cx G mi p s m args meth c → ∀ (H : Heap) (locs : List Loc) (Q : State → Prop) (ls : Array Slot), Lh ls (mL mi) lv →
      (∀ ls', Lh ls' (mL mi) lv' → W p l e (RmC d mc ms) s m args below meth c H locs cu su Q (F0 m pc' ls' st')) → W p l e (RmC d mc ms) s m args below meth c H locs cu su Q (F0 m pc ls st)) (kk : Sk l G mi d mc ms lay ad S pc' k op cu su lv' st') : Sk l G mi d mc ms lay ad S pc k op cu su lv st :=
  fun p e s m args below meth c X hin hK hsz H locs hP hS hH ls hl => h p e s m args below meth c X H locs _ ls hl (fun ls' hl' => kk p e s m args below meth c X hin hK hsz H locs hP hS hH ls' hl')
theorem k_iconst {n : Int} {v : Int32} (hd : decode (mC mi) pc = .ok (.iconst n, 1)) (hv : Int32.ofInt n = v) (kk : Sk l G mi d mc ms lay ad S (pc + 1) k op cu su lv (.int v :: st)) : Sk l G mi d mc ms lay ad S pc k op cu su lv st :=
  k_pure (fun p e s m args below meth c X H locs Q ls hl k9 => lv_iconst X.1 X.2.1 hd hv (k9 ls hl)) kk
theorem k_bipush {n : Int} {v : Int32} (hd : decode (mC mi) pc = .ok (.bipush n, 2)) (hv : (Int8.ofInt n).toInt32 = v) (kk : Sk l G mi d mc ms lay ad S (pc + 2) k op cu su lv (.int v :: st)) : Sk l G mi d mc ms lay ad S pc k op cu su lv st :=
  k_pure (fun p e s m args below meth c X H locs Q ls hl k9 => lv_bipush X.1 X.2.1 hd hv (k9 ls hl)) kk
theorem k_sipush {n : Int} {v : Int32} (hd : decode (mC mi) pc = .ok (.sipush n, 3)) (hv : (Int16.ofInt n).toInt32 = v) (kk : Sk l G mi d mc ms lay ad S (pc + 3) k op cu su lv (.int v :: st)) : Sk l G mi d mc ms lay ad S pc k op cu su lv st :=
  k_pure (fun p e s m args below meth c X H locs Q ls hl k9 => lv_sipush X.1 X.2.1 hd hv (k9 ls hl)) kk
theorem k_iload_n {k4 : Fin 4} {i : Nat} {x : Int32} (hd : decode (mC mi) pc = .ok (.iload_n k4, 1)) (hi : (k4 : Nat) = i) (hx : lv[i]? = some (some (.int x))) (kk : Sk l G mi d mc ms lay ad S (pc + 1) k op cu su lv (.int x :: st)) : Sk l G mi d mc ms lay ad S pc k op cu su lv st :=
  k_pure (fun p e s m args below meth c X H locs Q ls hl k9 => lv_iload_n X.1 X.2.1 hd hi (hl.get hx) (k9 ls hl)) kk
theorem k_aload_n {k4 : Fin 4} {i : Nat} {x : Nat} (hd : decode (mC mi) pc = .ok (.aload_n k4, 1)) (hi : (k4 : Nat) = i) (hx : lv[i]? = some (some (.ref x))) (kk : Sk l G mi d mc ms lay ad S (pc + 1) k op cu su lv (.ref x :: st)) : Sk l G mi d mc ms lay ad S pc k op cu su lv st :=
  k_pure (fun p e s m args below meth c X H locs Q ls hl k9 => lv_aload_n X.1 X.2.1 hd hi (hl.get hx) (k9 ls hl)) kk
theorem k_istore_n {k4 : Fin 4} {i : Nat} {x : Int32} (hd : decode (mC mi) pc = .ok (.istore_n k4, 1)) (hi : (k4 : Nat) = i) (hn : i < mL mi) (hs : lv.set i (some (.int x)) = lv') (kk : Sk l G mi d mc ms lay ad S (pc + 1) k op cu su lv' st) : Sk l G mi d mc ms lay ad S pc k op cu su lv (.int x :: st) :=
  k_pure (fun p e s m args below meth c X H locs Q ls hl k9 => lv_istore_n X.1 X.2.1 hd hi hl.hal hn rfl (fun ls' hl' => k9 ls' (hs ▸ hl.store rfl hl'))) kk
theorem k_iinc {i : Nat} {n : Int} {x v : Int32} (hd : decode (mC mi) pc = .ok (.iinc i n, 3)) (hx : lv[i]? = some (some (.int x))) (hv : x + Int32.ofInt n = v) (hn : i < mL mi) (hs : lv.set i (some (.int v)) = lv') (kk : Sk l G mi d mc ms lay ad S (pc + 3) k op cu su lv' st) : Sk l G mi d mc ms lay ad S pc k op cu su lv st := by
  refine k_pure (fun p e s m args below meth c X H locs Q ls hl k9 => ?_) kk
  have hm : (i, Value.int x) ∈ al 0 lv := (al_mem lv 0 i _).mpr ⟨i, by omega, hx⟩
  obtain ⟨j, hj⟩ := List.getElem?_of_mem hm
  exact lv_iinc X.1 X.2.1 hd hl.hal hj hv hn rfl (fun ls' hl' => k9 ls' (hs ▸ hl.store rfl hl'))
theorem k_dup {v : Value} (hd : decode (mC mi) pc = .ok (.dup, 1)) (hv : v.category = 1) (kk : Sk l G mi d mc ms lay ad S (pc + 1) k op cu su lv (v :: v :: st)) : Sk l G mi d mc ms lay ad S pc k op cu su lv (v :: st) :=
  k_pure (fun p e s m args below meth c X H locs Q ls hl k9 => lv_dup X.1 X.2.1 hd hv (k9 ls hl)) kk
theorem k_goto {off : Int} {tgt : Nat} (hd : decode (mC mi) pc = .ok (.goto off, 3)) (ht : (pc : Int) + off = (tgt : Int)) (kk : Sk l G mi d mc ms lay ad S tgt k op cu su lv st) : Sk l G mi d mc ms lay ad S pc k op cu su lv st :=
  k_pure (fun p e s m args below meth c X H locs Q ls hl k9 => lv_goto X.1 X.2.1 hd ht (k9 ls hl)) kk
theorem k_ge_yes {x y : Int32} {off : Int} {tgt : Nat} (hd : decode (mC mi) pc = .ok (.if_icmp .ge off, 3)) (ht : (pc : Int) + off = (tgt : Int)) (hc : y ≤ x) (kk : Sk l G mi d mc ms lay ad S tgt k op cu su lv st) : Sk l G mi d mc ms lay ad S pc k op cu su lv (.int y :: .int x :: st) :=
  k_pure (fun p e s m args below meth c X H locs Q ls hl k9 => lv_icmp_ge X.1 X.2.1 hd ht (fun _ => k9 ls hl) (fun h => absurd hc h)) kk
theorem k_ge_no {x y : Int32} {off : Int} {tgt : Nat} (hd : decode (mC mi) pc = .ok (.if_icmp .ge off, 3)) (ht : (pc : Int) + off = (tgt : Int)) (hc : ¬ y ≤ x) (kk : Sk l G mi d mc ms lay ad S (pc + 3) k op cu su lv st) : Sk l G mi d mc ms lay ad S pc k op cu su lv (.int y :: .int x :: st) :=
  k_pure (fun p e s m args below meth c X H locs Q ls hl k9 => lv_icmp_ge X.1 X.2.1 hd ht (fun h => absurd h hc) (fun _ => k9 ls hl)) kk
theorem k_max {idx : Nat} {x y v : Int32} (hm : Cond.methodLink (mY mi).cls idx Lib.Math.max.name ∈ tb) (hs : Cond.static Lib.Math.max.name ∈ tb) (hi : Cond.initialized "java/lang/Math" ∈ tb) (hc : Cond.code Lib.Math.max.name Lib.Math.max.code 2 (some .int) ∈ tb) (hdp : 1 ≤ d) (hcu : cu ≤ mc ∧ su ≤ ms) (hcat : (st.map fun v => v.category).sum ≤ 8) (hv : (if x < y then y else x) = v) (hd : decode (mC mi) pc = .ok (.invokestatic idx, 3)) (kk : Sk l G mi d mc ms lay ad S (pc + 3) k op cu su lv (.int v :: st)) : Sk l G mi d mc ms lay ad S pc k op cu su lv (.int y :: .int x :: st) := by
  subst hv
  exact k_pure (fun p e s m args below meth c X H locs Q ls hl k9 => va_mmax X.1 X.2.1 (X.2.2.1.trans hl.1.symm) X.2.2.2.2.2.1 (X.2.2.2.2.2.2.1 _ hm) (X.2.2.2.2.2.2.1 _ hs) (X.2.2.2.2.2.2.1 _ hi) (X.2.2.2.2.2.2.1 _ hc) hdp (by show _ ≤ 64 * d; omega) hcu.1 hcu.2 hd (k9 ls hl)) kk
theorem k_obj {idx a : Nat} (hl : Cond.methodLink (mY mi).cls idx Lib.objectInit ∈ tb) (hi : Cond.instanceMethod Lib.objectInit ∈ tb) (hc : Cond.code Lib.objectInit ⟨#[0xb1]⟩ 1 none ∈ tb) (hdp : 1 ≤ d) (hcat : (st.map fun v => v.category).sum ≤ 8) (hd : decode (mC mi) pc = .ok (.invokespecial idx, 3)) (kk : Sk l G mi d mc ms lay ad S (pc + 3) k op cu su lv st) : Sk l G mi d mc ms lay ad S pc k op cu su lv (.ref a :: st) :=
  k_pure (fun p e s m args below meth c X H locs Q ls hls k9 => W.objInit (R := RmC d mc ms) X.1 X.2.1 X.2.2.2.2.2.1 (X.2.2.2.2.2.2.1 _ hl) (X.2.2.2.2.2.2.1 _ hi) (X.2.2.2.2.2.2.1 _ hc) (g := F0 m pc ls (.ref a :: st)) rfl (hls.1.trans X.2.2.1.symm) rfl hd hdp (by show 2 * 0 + _ + 12 ≤ 64 * d; omega) (k9 ls hls)) kk
/-- the new cells, told by one cell that changed -/
theorem wc_upd {H H1 : Heap} {i : Nat} {e' : va_E} (hA : Adj ad) (hP : va_P (gD G) classes (wsC G lay ad S op k) H) (hi : i < k) (h1 : va_at (gD G) classes (ad i, e') H1) (h2 : ∀ q : Nat, q ≠ ad i → H1[q]? = H[q]?) : va_P (gD G) classes (wsC G lay ad S (upo op i e') k) H1 := by
  have h := hP.set (wc_D hA) (wc_at (G := G) (lay := lay) (ad := ad) (S := S) (op := op) hi) h1 h2
  rwa [wc_set hi] at h
/-- a field that is not final -/
theorem k_put {i f idx ci : Nat} {fs : List Value} {ty : FieldType} {v : Value} (hA : Adj ad) (hi : i < k) (ho : op i = some (.inr (ci, fs))) (hF : FW (mY mi).cls idx ci f ty) (hn : narrow ty v = v) (hf : fits ty v = true) (hl : f < fs.length) (hd : decode (mC mi) pc = .ok (.putfield idx, 3)) (kk : Sk l G mi d mc ms lay ad S (pc + 3) k (upo op i (.inr (ci, fs.set f v))) cu su lv st) : Sk l G mi d mc ms lay ad S pc k op cu su lv (v :: .ref (ad i) :: st) := by
  intro p e s m args below meth c X hin hK hsz H locs hP hS hH ls hls
  obtain ⟨C, T, N, ⟨hc, hinn, ty0, hty, hnm⟩, hkN, hlk, hfin, hdesc⟩ := hF
  have hts := X.2.2.2.2.2.2.1
  have hap := va_apart (own := (mY mi).cls) hts hinn ty0 hty hnm hK hc
  obtain ⟨r, h1, cell, q1, q2, q3, q4⟩ := hP i _ (wc_op hi ho)
  have hr : r = (C, T, N) := Option.some.inj (h1.symm.trans hc)
  subst hr
  obtain ⟨hSl, hfc, kC, hkC, hkind⟩ := hK.1 ci _ hc
  obtain ⟨cf, kf, fi, fd, hfi, hsl⟩ := hSl f hkN
  have hlay := hts _ (hinn _ (u_in_lay hkN))
  unfold u_lay at hlay
  rw [if_neg (by rw [hfin]; decide)] at hlay
  refine W.putK X.1 X.2.1 (f := fd) ⟨X.2.2.2.2.2.1, hts _ hlk, ⟨_, _, _, hfi⟩, (u_facts hfc hkC (u_lays hts hinn hkN) hfi).1⟩ (by rw [q2]; exact u_store hfc hkC hkind hlay hfi hdesc hn hf) q1 q3 (by rw [hsl]; exact k2_hasslot (q4 f hkN)) rfl rfl hd fun H' e1 e2 e3 => ?_
  rw [hsl] at e1 ⊢
  exact kk p e s m args below meth c X hin hK hsz H' _ (wc_upd hA hP hi ⟨_, hc, t_OB.to (V := updV (vp_V fs) f v) ⟨_, e1, q2, q3, t_set q4 hap hkN v⟩ (fun j _ => vp_updV_set hl v j)⟩ e3) (hS.put e2 e3 (hA.AC i)) (by rw [e2]; exact hH) ls hls
/-- a final field, in its own class's maker -/
def FX (own : String) (idx ci k : Nat) (ty : FieldType) : Prop := ∃ (C : String) (T : u_T) (N : Nat), CF ci C T N ∧ k < N ∧ Cond.fieldLink own idx (T k).1 (T k).2.1 (T k).2.2.1 ∈ tb ∧ (T k).2.2.2 = true ∧ (T k).1 = own ∧ parseFieldDescriptor (T k).2.2.1 = some ty
theorem k_putF {i f idx ci : Nat} {fs : List Value} {ty : FieldType} {v : Value} (hA : Adj ad) (hi : i < k) (ho : op i = some (.inr (ci, fs))) (hF : FX (mY mi).cls idx ci f ty) (hn : narrow ty v = v) (hf : fits ty v = true) (hl : f < fs.length) (hd : decode (mC mi) pc = .ok (.putfield idx, 3)) (kk : Sk l G mi d mc ms lay ad S (pc + 3) k (upo op i (.inr (ci, fs.set f v))) cu su lv st) : Sk l G mi d mc ms lay ad S pc k op cu su lv (v :: .ref (ad i) :: st) := by
  intro p e s m args below meth c X hin hK hsz H locs hP hS hH ls hls
  obtain ⟨C, T, N, ⟨hc, hinn, ty0, hty, hnm⟩, hkN, hlk, hfin, hdecl, hdesc⟩ := hF
  have hts := X.2.2.2.2.2.2.1
  have hap := va_apart (own := (mY mi).cls) hts hinn ty0 hty hnm hK hc
  obtain ⟨r, h1, cell, q1, q2, q3, q4⟩ := hP i _ (wc_op hi ho)
  have hr : r = (C, T, N) := Option.some.inj (h1.symm.trans hc)
  subst hr
  obtain ⟨hSl, hfc, kC, hkC, hkind⟩ := hK.1 ci _ hc
  obtain ⟨cf, kf, fi, fd, hfi, hsl⟩ := hSl f hkN
  have hlay := hts _ (hinn _ (u_in_lay hkN))
  unfold u_lay at hlay
  rw [if_pos hfin] at hlay
  have hcf : m.cls = cf := by
    obtain ⟨_, _, c', _, _, _, -, -, hf', -, -, -, hown2, -⟩ := Cond.laysFinal_spec hlay
    have e1 : c' = cf := by have := hfi.symm.trans hf'; simp at this; exact this.1.symm
    rw [hdecl] at hown2
    rw [← e1]; exact Option.some.inj (X.2.2.2.2.2.1.symm.trans hown2)
  refine W.putFinK X.1 X.2.1 X.2.2.2.2.2.1 (hts _ hlk) hfi (u_facts hfc hkC (u_lays hts hinn hkN) hfi).1 hcf hin (by rw [q2]; exact u_fits hfc hkC hkind (Or.inr hlay) hfi hdesc hn hf) q1 q3 (by rw [hsl]; exact k2_hasslot (q4 f hkN)) rfl rfl hd fun H' e1 e2 e3 => ?_
  rw [hsl] at e1 ⊢
  exact kk p e s m args below meth c X hin hK hsz H' _ (wc_upd hA hP hi ⟨_, hc, t_OB.to (V := updV (vp_V fs) f v) ⟨_, e1, q2, q3, t_set q4 hap hkN v⟩ (fun j _ => vp_updV_set hl v j)⟩ e3) (hS.put e2 e3 (hA.AC i)) (by rw [e2]; exact hH) ls hls
/-- one more cell -/
theorem wc_more {H H1 : Heap} {e' : va_E} (hA : Adj ad) (hk : 1 ≤ k) (hP : va_P (gD G) classes (wsC G lay ad S op k) H) (hH : H.size = ad k) (h1 : va_at (gD G) classes (ad k, e') H1) (h2 : ∀ q : Nat, q < ad k → H1[q]? = H[q]?) : va_P (gD G) classes (wsC G lay ad S (upo op k e') (k + 1)) H1 := by
  rw [← wc_push]
  intro j q hq
  by_cases hj : j < k
  · rw [List.getElem?_append_left (by simpa [wsC] using hj)] at hq
    have h3 := hP j q hq
    obtain ⟨-, rfl⟩ := wc_of hq
    exact h3.kept (h2 _ (hA.lt hj))
  · rw [List.getElem?_append_right (by simpa [wsC] using hj)] at hq
    have hz : j - (wsC G lay ad S op k).length < 1 := (List.getElem?_eq_some_iff.mp hq).1
    rw [show j - (wsC G lay ad S op k).length = 0 by omega] at hq
    cases hq
    exact h1
theorem vS_more {A : Nat → Prop} {H0 H H1 : Heap} {locs : List Loc} (h : va_S A H0 H locs) (z : H1.size = H.size + 1) (o : ∀ q : Nat, q < H.size → H1[q]? = H[q]?) : va_S A H0 H1 locs :=
  ⟨Nat.le_trans h.1 (by omega), fun q h1 h2 => (o q (Nat.lt_of_lt_of_le h1 h.1)).trans (h.2.1 q h1 h2), h.2.2⟩
theorem k_newa {n : Int32} {N : Nat} (hA : Adj ad) (hk : 1 ≤ k) (hn : ¬ n < 0) (hN : n.toNatClampNeg = N) (hb : N * componentBytes .int ≤ 536870912) (hc : cu + 1 ≤ mc ∧ su + N ≤ ms) (hd : decode (mC mi) pc = .ok (.newarray .int, 2)) (kk : Sk l G mi d mc ms lay ad S (pc + 2) (k + 1) (upo op k (cellE G ad (.inr false) (List.replicate N 0))) (cu + 1) (su + N) lv (.ref (ad k) :: st)) : Sk l G mi d mc ms lay ad S pc k op cu su lv (.int n :: st) := by
  intro p e s m args below meth c X hin hK hsz H locs hP hS hH ls hls
  refine va_newaK (R := RmC d mc ms) (atype := .int) X.1 X.2.1 (X.2.2.2.2.2.2.1 _ wd_arrI) rfl hd rfl hn hN hb hc.1 hc.2 hH (fun H1 cA e1 z1 o1 hAr hNm => ?_)
  have hcA : cA = gI G := by
    have h3 := (hK.2 0 (gI G, .int) rfl).2
    exact Option.some.inj (hNm.symm.trans h3)
  refine kk p e s m args below meth c X hin hK hsz H1 locs (wc_more hA hk hP hH ?_ (fun q hq => o1 q hq)) (vS_more hS (by rw [z1, hH]) (fun q hq => o1 q (by rw [← hH]; exact hq))) (by rw [z1, hA.next hk]) ls hls
  show H1[ad k]? = some (vp_cell _ _)
  rw [e1, hcA]
  show some (arrV (gI G) N (fun _ => Value.int 0)) = some (vp_cell (gI G) ((List.replicate N (0 : Int32)).length, Sum.inl (fun k => (List.replicate N (0 : Int32)).getD k 0)))
  rw [vp_cell_i, List.length_replicate]
  congr 2
  funext q
  by_cases hq : q < N
  · simp [List.getD_eq_getElem?_getD, List.getElem?_replicate, hq]
  · simp [List.getD_eq_getElem?_getD, List.getElem?_replicate, hq]
/-- an open cell that is as it will be -/
theorem k_close {i : Nat} (h : ∀ H : Heap, va_at (gD G) classes (ad i, (op i).getD (fin G lay ad S i)) H → va_at (gD G) classes (ad i, fin G lay ad S i) H) (kk : Sk l G mi d mc ms lay ad S pc k (upn op i) cu su lv st) : Sk l G mi d mc ms lay ad S pc k op cu su lv st := by
  intro p e s m args below meth c X hin hK hsz H locs hP hS hH ls hls
  refine kk p e s m args below meth c X hin hK hsz H locs (fun j q hq => ?_) hS hH ls hls
  obtain ⟨hj, rfl⟩ := wc_of hq
  have h3 := hP j _ (wc_at hj)
  by_cases hji : j = i
  · subst hji
    simp only [upn, if_pos rfl, Option.getD_none]
    exact h H h3
  · simp only [upn, if_neg hji]
    exact h3
theorem upn_upo {op : Op} {i : Nat} {e : va_E} (h : op i = none) : upn (upo op i e) i = op := by
  funext j
  unfold upn upo
  by_cases hj : j = i
  · rw [if_pos hj, hj, h]
  · rw [if_neg hj, if_neg hj]
/-- a row of zeros, for good -/
theorem k_newaF {n : Int32} {N : Nat} (hA : Adj ad) (hk : 1 ≤ k) (hn : ¬ n < 0) (hN : n.toNatClampNeg = N) (hb : N * componentBytes .int ≤ 536870912) (hc : cu + 1 ≤ mc ∧ su + N ≤ ms) (hd : decode (mC mi) pc = .ok (.newarray .int, 2)) (hl : lay.getD k (.inr false) = .inr false) (hSk : S k = List.replicate N 0) (ho : op k = none) (kk : Sk l G mi d mc ms lay ad S (pc + 2) (k + 1) op (cu + 1) (su + N) lv (.ref (ad k) :: st)) : Sk l G mi d mc ms lay ad S pc k op cu su lv (.int n :: st) := by
  refine k_newa hA hk hn hN hb hc hd (k_close (i := k) (fun H h => ?_) ?_)
  · simp only [upo, if_pos rfl, Option.getD_some] at h
    unfold fin
    rw [hl, hSk]
    exact h
  · rw [upn_upo ho]
    exact kk
theorem k_iast {i : Nat} {j v : Int32} {L : List Int32} (hA : Adj ad) (hi : i < k) (ho : op i = some (cellE G ad (.inr false) L)) (hin : vp_in j L.length) (hd : decode (mC mi) pc = .ok (.iastore, 1)) (kk : Sk l G mi d mc ms lay ad S (pc + 1) k (upo op i (cellE G ad (.inr false) (L.set j.toNatClampNeg v))) cu su lv st) : Sk l G mi d mc ms lay ad S pc k op cu su lv (.int v :: .int j :: .ref (ad i) :: st) := by
  intro p e s m args below meth c X hin2 hK hsz H locs hP hS hH ls hls
  have hcell := hP i _ (wc_op hi ho)
  refine W.iast X.1 X.2.1 (show H[ad i]? = some (vp_cell (gI G) (L.length, Sum.inl (fun k => L.getD k 0))) from hcell) (by rw [vp_cell_i]; exact (hK.2 0 _ rfl).1 L.length (fun q => .int (L.getD q 0))) (fun q => by cases q) (by rw [vp_cell_i]; show ¬ (j < 0 ∨ (arrV _ _ _).slots.size ≤ _); rw [arrV_size]; exact hin) rfl rfl hd fun H1 e1 z1 o1 => ?_
  refine kk p e s m args below meth c X hin2 hK hsz H1 _ (wc_upd hA hP hi ?_ o1) (hS.put z1 o1 (hA.AC i)) (by rw [z1]; exact hH) ls hls
  show H1[ad i]? = some (vp_cell (gI G) ((L.set j.toNatClampNeg v).length, Sum.inl (fun k => (L.set j.toNatClampNeg v).getD k 0)))
  rw [e1, vp_cell_i, vp_cell_i, arrV_store, List.length_set]
  congr 2
  funext q
  by_cases hq : q = j.toNatClampNeg
  · subst hq
    simp [updV, List.getD_eq_getElem?_getD, List.getElem?_set, vp_in_lt hin]
  · have hq2 : ¬ j.toNatClampNeg = q := fun z => hq z.symm
    simp [updV, hq, hq2, List.getD_eq_getElem?_getD, List.getElem?_set]
theorem k_new {idx ci : Nat} {C : String} {fs : List Value} (hA : Adj ad) (hk : 1 ≤ k) (hc : cu + 1 ≤ mc ∧ su + fs.length ≤ ms) (hcl : Cond.classLink (mY mi).cls idx C ∈ tb) (hins : Cond.instantiable C fs.length ∈ tb) (hini : Cond.initialized C ∈ tb) (hF : ∃ T : u_T, CF ci C T fs.length ∧ ∃ ty : Nat → FieldType, (∀ j, j < fs.length → parseFieldDescriptor (T j).2.2.1 = some (ty j)) ∧ ∀ j, j < fs.length → defaultValue (ty j) = vp_V fs j) (hd : decode (mC mi) pc = .ok (.new idx, 3)) (kk : Sk l G mi d mc ms lay ad S (pc + 3) (k + 1) (upo op k (.inr (ci, fs))) (cu + 1) (su + fs.length) lv (.ref (ad k) :: st)) : Sk l G mi d mc ms lay ad S pc k op cu su lv st := by
  intro p e s m args below meth c X hin hK hsz H locs hP hS hH ls hls
  obtain ⟨T, ⟨hc9, hinn, -⟩, ty, hty, hdef⟩ := hF
  have hts := X.2.2.2.2.2.2.1
  have hKn := hK.1 ci _ hc9
  refine W.newcK (R := RmC d mc ms) X.1 X.2.1 X.2.2.2.2.2.1 (hts _ hcl) (hts _ hins) (hts _ hini) rfl hd hc.1 hc.2 hKn.2.1 hH fun H1 kC hkC e1 z1 o1 => ?_
  exact kk p e s m args below meth c X hin hK hsz H1 locs (wc_more hA hk hP hH ⟨_, hc9, (u_born ty hts hinn hKn hkC e1 hty).to hdef⟩ o1) (vS_more hS (by rw [z1, hH]) (fun q hq => o1 q (by rw [← hH]; exact hq))) (by rw [z1, hA.next hk]) ls hls
end SK
