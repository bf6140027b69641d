/-! CONTRACTS: a method's walk gives its contract; a contract serves at each call -/
theorem cn_of {l : Launch} {G : Gl} {mi : Mi} {d : Nat} {lay : List Sh} {ad : Nat → Nat} {av : List Value} {lv : List (Option Value)} {g : MM Int32} (hpl : plainFor (mY mi) = true) (hcat : av.all (fun v => v.category == 1) = true) (hlen : (lg_sl av).length ≤ mL mi) (hlv : mask lv (av.map some) = lv) (h : Sm l G mi d lay ad 0 lv [] g) : Cn l G mi d lay ad av g := by
  intro S r S' hg
  refine va_MetF (cc := mC mi) (maxL := mL mi) (ret := mR mi) hpl rfl ?_
  intro p e s m args below meth c s₁ B hml hv
  obtain ⟨rfl, hR, hgs⟩ := hv
  have hts := atoms_spec (ws := Cond.code (mY mi) (mC mi) (mL mi) (mR mi) :: tb) B.pre
  have hl := lv_entry av (n := mL mi) hlen
  rw [lg_entry_eq]
  have hmem : ∀ (vs : List Value) (k i : Nat) (v : Value), vs.all (fun v => v.category == 1) = true → vs[i]? = some v → (k + i, v) ∈ lv_args k vs := by
    intro vs
    induction vs with
    | nil => intro k i v _ h; simp at h
    | cons a t ih =>
      intro k i v hc h
      simp only [List.all_cons, Bool.and_eq_true, beq_iff_eq] at hc
      cases i with
      | zero => simp at h; subst h; simp [lv_args]
      | succ i =>
        have h1 := ih (k + 1) i v hc.2 (by simpa using h)
        have e1 : k + (i + 1) = k + 1 + i := by omega
        rw [e1]
        simp only [lv_args, hc.1]
        exact List.mem_cons_of_mem _ h1
  refine h p e s m _ below meth c ⟨B.exec, B.bytes, hml, B.returns, B.notSynchronized, findClass_of_methodNamed B.named, fun w hw => hts w (List.mem_cons_of_mem _ hw), hgs⟩ S r S' hg s.heap [] hR va_S.rf _ ⟨hl.1, hl.2.1, fun i v hi => ?_⟩
  have h1 := mask_get hlv hi
  rw [List.getElem?_map] at h1
  have h2 : av[i]? = some v := by
    cases hq : av[i]? with
    | none => rw [hq] at h1; cases h1
    | some w => rw [hq] at h1; simp at h1; rw [h1]
  have h3 := hl.2.2 _ (hmem av 0 i v hcat h2)
  rw [Nat.zero_add] at h3
  exact ⟨h3, by simpa using List.all_eq_true.mp hcat v (List.mem_of_getElem? h2)⟩
theorem pc_blind {G : Gl} {lay : List Sh} {ad : Nat → Nat} {av : List Value} {S : Bk} : FrameBlind (va_Pc av (fun U => Rl G lay ad S U U.heap ∧ gS G U U.heap)) :=
  fun a U g mk h => ⟨h.1, Rl.moved (u := U) (U := U.calling g mk a) (Vm.Alike.refl U.vm) h.2.1, gS_same (u := U) (U := U.calling g mk a) rfl h.2.2⟩
theorem mo_len {mi : Mi} {n : Nat} (h : MOk mi n) : ∀ sig, parseMethodDescriptor (mY mi).desc = some sig → n = sig.parameters.length := fun sig hs => by
  have h2 := h.2.2.2
  rw [hs] at h2
  exact (Option.some.inj h2).symm
theorem mo_ws {mi : Mi} {n : Nat} (h : MOk mi n) {args : Array Value} {s : State} (hts : ∀ w ∈ tb, w.before args s = true) : ∀ w ∈ (Cond.code (mY mi) (mC mi) (mL mi) (mR mi) :: tb), ∀ (a' : Array Value) (U : State), s.WarmedH U.vm → w.before a' U = true := by
  intro w hw a' U hW
  rcases List.mem_cons.mp hw with rfl | hw
  · exact tb_ok hW hts _ h.1
  · exact tb_ok hW hts _ hw
theorem mo_room {mi : Mi} {d d2 : Nat} (h : d2 + 1 ≤ d ∧ mL mi ≤ 45) : (Rm d2).frames + 1 ≤ (Rm d).frames ∧ 8 + (mL mi + 11) + (Rm d2).locals ≤ (Rm d).locals := by
  refine ⟨h.1, ?_⟩
  show 8 + (mL mi + 11) + 64 * d2 ≤ 64 * d
  have := h.1
  have := h.2
  omega
theorem mo_callB {mi mi2 : Mi} {d d2 n idx : Nat} (hO : MOk mi2 n) {args : Array Value} {s : State} (hts : ∀ w ∈ tb, w.before args s = true) (hl : Cond.methodLink (mY mi).cls idx (mY mi2) ∈ tb) (hdep : d2 + 1 ≤ d ∧ mL mi2 ≤ 45) :
    CallB (Rm d) s args (mY mi).cls idx (mY mi2) (mC mi2) (mL mi2) (mR mi2) (Cond.code (mY mi2) (mC mi2) (mL mi2) (mR mi2) :: tb) (Rm d2) 0 0 n :=
  ⟨rfl, rfl, (mo_room hdep).1, (mo_room hdep).2, mo_ws hO hts, List.mem_cons_self, hts _ hO.1, hts _ hO.2.1, hO.2.2.1, mo_len hO, hts _ hl⟩
theorem mo_callN {mi mi2 : Mi} {d d2 n idx : Nat} {host : String} (hO : MOk mi2 n) {args : Array Value} {s : State} (hts : ∀ w ∈ tb, w.before args s = true) (hl : Cond.methodLinkNest (mY mi).cls idx (mY mi2) host ∈ tb) (hdep : d2 + 1 ≤ d ∧ mL mi2 ≤ 45) :
    va_CN (Rm d) s args (mY mi).cls idx (mY mi2) host (mC mi2) (mL mi2) (mR mi2) (Cond.code (mY mi2) (mC mi2) (mL mi2) (mR mi2) :: tb) (Rm d2) 0 0 n :=
  ⟨⟨rfl, rfl, (mo_room hdep).1, (mo_room hdep).2, mo_ws hO hts, List.mem_cons_self⟩, hts _ hO.1, hts _ hO.2.1, hO.2.2.1, mo_len hO, hts _ hl⟩
/-- the callee's world cut out of the caller's -/
theorem Rl.cut {G : Gl} {lay lay2 : List Sh} {ad ρ : Nat → Nat} {S : Bk} {U : State} {H : Heap} (hs : SubL lay lay2 ρ) (h : Rl G lay ad S U H) : Rl G lay2 (fun i => ad (ρ i)) (fun i => S (ρ i)) U H := by
  refine ⟨fun k q hk => ?_, ⟨fun i j x y hx hy hxy => ?_, fun k q hk => ?_⟩, h.2.2⟩
  · obtain ⟨sh, h1, rfl⟩ := ws_of hk
    have h2 := h.1 (ρ k) _ (ws_at (hs.1 k sh h1).2)
    rw [cell_ren (hs.1 k sh h1).1] at h2
    exact h2
  · obtain ⟨sx, h1, rfl⟩ := ws_of hx
    obtain ⟨sy, h2, rfl⟩ := ws_of hy
    exact hs.2 i j (List.getElem?_eq_some_iff.mp h1).1 (List.getElem?_eq_some_iff.mp h2).1 (h.inj (List.getElem?_eq_some_iff.mp (hs.1 i sx h1).2).1 (List.getElem?_eq_some_iff.mp (hs.1 j sy h2).2).1 hxy)
  · obtain ⟨sh, h1, rfl⟩ := ws_of hk
    exact h.2.1.2 (ρ k) (ad (ρ k), cellE G ad (ren ρ sh) (S (ρ k))) (ws_at (hs.1 k sh h1).2)
theorem aof_cut {lay lay2 : List Sh} {ad ρ : Nat → Nat} (hs : SubL lay lay2 ρ) {q : Nat} (h : Aof lay2 (fun i => ad (ρ i)) q) : Aof lay ad q := by
  obtain ⟨i, hi, rfl⟩ := h
  exact ⟨ρ i, (List.getElem?_eq_some_iff.mp (hs.1 i _ (List.getElem?_eq_getElem hi)).2).1, rfl⟩
theorem Rl.back {G : Gl} {lay lay2 : List Sh} {ad ρ : Nat → Nat} {S S2 : Bk} {s t : State} {H H1 : Heap} (hs : SubL lay lay2 ρ) (h : Rl G lay ad S s H) (h2 : Rl G lay2 (fun i => ad (ρ i)) S2 t H1) (hk : ∀ q : Nat, q < H.size → ¬ Aof lay2 (fun i => ad (ρ i)) q → H1[q]? = H[q]?) : Rl G lay ad (pu ρ lay2.length S2 S) s H1 := by
  refine ⟨fun k q hq => ?_, ⟨fun i j x y hx hy hxy => ?_, fun k q hq => ?_⟩, h.2.2⟩
  · obtain ⟨sh, e1, rfl⟩ := ws_of hq
    cases hi : ixo ρ lay2.length k with
    | some i =>
      obtain ⟨i1, i2⟩ := ixo_some hi
      have e2 := List.getElem?_eq_getElem i1
      obtain ⟨n1, n2⟩ := hs.1 i _ e2
      have e3 := h2.1 i _ (ws_at e2)
      rw [i2] at n2
      have e4 : sh = ren ρ lay2[i] := Option.some.inj (e1.symm.trans n2)
      have e5 : pu ρ lay2.length S2 S k = S2 i := by unfold pu; rw [hi]
      rw [e4, e5, cell_ren n1, ← i2]
      exact e3
    | none =>
      have e5 : pu ρ lay2.length S2 S k = S k := by unfold pu; rw [hi]
      rw [e5]
      have e3 := h.1 k _ (ws_at e1)
      refine e3.kept (hk _ e3.lt (fun z => ?_))
      obtain ⟨i, z1, z2⟩ := z
      have e2 := List.getElem?_eq_getElem z1
      have := h.inj (List.getElem?_eq_some_iff.mp (hs.1 i _ e2).2).1 (List.getElem?_eq_some_iff.mp e1).1 z2
      exact ixo_none hi i z1 this
  · obtain ⟨sx, e1, rfl⟩ := ws_of hx
    obtain ⟨sy, e2, rfl⟩ := ws_of hy
    exact h.inj (List.getElem?_eq_some_iff.mp e1).1 (List.getElem?_eq_some_iff.mp e2).1 hxy
  · obtain ⟨sh, e1, rfl⟩ := ws_of hq
    exact h.2.1.2 k (ad k, cellE G ad sh (S k)) (ws_at e1)
theorem Qr_i {ret : Option FieldType} {ty : FieldType} (h : ret = some ty) (G : Gl) (lay : List Sh) (ad : Nat → Nat) (r : Int32) (S' : Bk) : Qr ret G lay ad r S' = va_Qi (fun (r' : Int32) (u : Bk) => r' = r ∧ u = S') (fun u t => Rl G lay ad u t t.heap) (Aof lay ad) := by subst h; rfl
theorem Qr_v {ret : Option FieldType} (h : ret = none) (G : Gl) (lay : List Sh) (ad : Nat → Nat) (r : Int32) (S' : Bk) : Qr ret G lay ad r S' = va_Qv (fun u : Bk => u = S') (fun u t => Rl G lay ad u t t.heap) (Aof lay ad) := by subst h; rfl
section CL
variable {l : Launch} {G : Gl} {mi mi2 : Mi} {d d2 n : Nat} {lay lay2 : List Sh} {ad ρ : Nat → Nat} {pc idx o ci : Nat} {lv : List (Option Value)} {st As rest : List Value} {ks : List (Option Nat)} {g : MM Int32} {K : Int32 → MM Int32} {host : String}
/-- how a call is made, for any kind of call: with the callee's world on the caller's cells -/
def Calls (l : Launch) (G : Gl) (mi mi2 : Mi) (d d2 : Nat) (lay : List Sh) (ad : Nat → Nat) (lay2 : List Sh) (ad2 : Nat → Nat) (pc : Nat) (st As2 rest : List Value) : Prop :=
  ∀ (p : Program) (e : Env) (s : State) (m : MethodId) (args : Array Value) (below : List Frame) (meth : Method) (c : Code), Cx G mi p s m args meth c → ∀ (S : Bk) (H : Heap) (locs : List Loc), Rl G lay ad S s H → va_S (Aof lay ad) s.heap H locs → ∀ (ls : Array Slot), ls.size = mL mi →
    ∀ (S2 : Bk) (Qc : Array Value → State → Outcome → State → Prop), Met l (mY mi2) (Cond.code (mY mi2) (mC mi2) (mL mi2) (mR mi2) :: tb) (Rm d2) (va_Pc As2 (fun U => Rl G lay2 ad2 S2 U U.heap ∧ gS G U U.heap)) Qc 0 0 (Aof lay2 ad2) →
      (∀ U : State, U.heap = H → s.WarmedH U.vm → Rl G lay2 ad2 S2 U U.heap ∧ gS G U U.heap) → va_Run p l e (Rm d) s m args below meth c H locs 0 0 0 0 (F0 m pc ls st) rest (Qc As2.toArray) (Aof lay2 ad2)
theorem calls_V (hG : gOk G) (hd : decode (mC mi) pc = .ok (.invokevirtual idx, 3)) (hO : MOk mi2 n) (hV : MVk mi2) (hl : Cond.methodLink (mY mi).cls idx (mY mi2) ∈ tb) (hdep : d2 + 1 ≤ d ∧ mL mi2 ≤ 45) (hn : As.length = n) (hst : st = As.reverse ++ .ref (ad o) :: rest) (hcat : (rest.map fun v => v.category).sum ≤ 8) (hr : lay[o]? = some (.inl (ci, ks))) (hc : (classes[ci]?).map (fun q => q.1) = some (mY mi2).cls) {ad2 : Nat → Nat} : Calls l G mi mi2 d d2 lay ad lay2 ad2 pc st (.ref (ad o) :: As) rest := by
  intro p e s m args below meth c X S H locs hR hS ls hls S2 Qc hM hpre
  obtain ⟨q, hq1, hq2⟩ : ∃ q, classes[ci]? = some q ∧ q.1 = (mY mi2).cls := by
    cases hq : classes[ci]? with
    | none => rw [hq] at hc; cases hc
    | some q => rw [hq] at hc; exact ⟨q, rfl, Option.some.inj hc⟩
  have hrecv := va_recv hR.2.2 hR.1 hq1 (ws_at hr)
  rw [hq2] at hrecv
  have hts := X.2.2.2.2.2.2.1
  exact va_runV (C := (mY mi2).cls) (As := As) (rest := rest) ⟨X.1, X.2.1, X.2.2.1, X.2.2.2.2.2.1, hts⟩ hM ⟨mo_callB hO hts hl hdep, hts _ hV.1, hts _ hV.2⟩ ⟨pc_blind, hrecv, fun U hU hW => ⟨rfl, hpre U hU hW⟩⟩ rfl hn hls hst (lv_room hcat) hd ⟨Nat.zero_le _, Nat.zero_le _⟩
theorem calls_S (hG : gOk G) (hd : decode (mC mi) pc = .ok (.invokestatic idx, 3)) (hO : MOk mi2 n) (hV : Cond.static (mY mi2) ∈ tb) (hl : Cond.methodLink (mY mi).cls idx (mY mi2) ∈ tb) (hdep : d2 + 1 ≤ d ∧ mL mi2 ≤ 45) (hn : As.length = n) (hst : st = As.reverse ++ rest) (hcat : (rest.map fun v => v.category).sum ≤ 8) {ad2 : Nat → Nat} : Calls l G mi mi2 d d2 lay ad lay2 ad2 pc st As rest := by
  intro p e s m args below meth c X S H locs hR hS ls hls S2 Qc hM hpre
  have hts := X.2.2.2.2.2.2.1
  exact va_runS (As := As) (rest := rest) ⟨X.1, X.2.1, X.2.2.1, X.2.2.2.2.2.1, hts⟩ hM ⟨mo_callB hO hts hl hdep, hts _ hV⟩ ⟨pc_blind, fun U hU hW => ⟨rfl, hpre U hU hW⟩⟩ rfl hn hls hst (lv_room hcat) hd ⟨Nat.zero_le _, Nat.zero_le _⟩
theorem calls_SN (hG : gOk G) (hd : decode (mC mi) pc = .ok (.invokestatic idx, 3)) (hO : MOk mi2 n) (hV : Cond.static (mY mi2) ∈ tb) (hl : Cond.methodLinkNest (mY mi).cls idx (mY mi2) host ∈ tb) (hdep : d2 + 1 ≤ d ∧ mL mi2 ≤ 45) (hn : As.length = n) (hst : st = As.reverse ++ rest) (hcat : (rest.map fun v => v.category).sum ≤ 8) {ad2 : Nat → Nat} : Calls l G mi mi2 d d2 lay ad lay2 ad2 pc st As rest := by
  intro p e s m args below meth c X S H locs hR hS ls hls S2 Qc hM hpre
  have hts := X.2.2.2.2.2.2.1
  exact va_runSN (As := As) (rest := rest) ⟨X.1, X.2.1, X.2.2.1, X.2.2.2.2.2.1, hts⟩ hM ⟨mo_callN hO hts hl hdep, hts _ hV, trivial⟩ ⟨pc_blind, fun U hU hW => ⟨rfl, hpre U hU hW⟩⟩ rfl hn hls hst (lv_room hcat) hd ⟨Nat.zero_le _, Nat.zero_le _⟩
/-- a call on the same world: its answer goes on -/
theorem s_call {As2 : List Value} {ty : FieldType} (hG : gOk G) (hcl : Calls l G mi mi2 d d2 lay ad lay ad pc st As2 rest) (hC : Cn l G mi2 d2 lay ad As2 g) (hret : mR mi2 = some ty) (kk : ∀ r : Int32, Sm l G mi d lay ad (pc + 3) lv (.int r :: rest) (K r)) : Sm l G mi d lay ad pc lv st (bd g K) := by
  intro p e s m args below meth c X S r S' hK H locs hR hS ls hls
  obtain ⟨v, S1, h1, h2⟩ := bd_inv hK
  have hM := hC S v S1 h1
  rw [Qr_i hret] at hM
  refine va_calli (hcl p e s m args below meth c X S H locs hR hS ls hls.1 S _ hM (fun U hU hW => ⟨by rw [hU]; exact hR.moved hW.alike, by rw [hU]; exact gS_at X.2.2.2.2.2.2.2 hR hS hW⟩)) hS (fun _ _ h => h) (fun _ h => h) (fun r1 u t H1 locs1 ht hvm hw hB hz hk hS1 => ?_)
  obtain ⟨rfl, rfl⟩ := hw
  have hB : Rl G lay ad u t t.heap := hB
  rw [ht] at hB
  exact kk r1 p e s m args below meth c X u r S' h2 H1 locs1 (hB.moved hvm.symm) hS1 ls hls
theorem s_callv {As2 : List Value} (hG : gOk G) (hcl : Calls l G mi mi2 d d2 lay ad lay ad pc st As2 rest) (hC : Cn l G mi2 d2 lay ad As2 g) (hret : mR mi2 = none) (kk : ∀ r : Int32, Sm l G mi d lay ad (pc + 3) lv rest (K r)) : Sm l G mi d lay ad pc lv st (bd g K) := by
  intro p e s m args below meth c X S r S' hK H locs hR hS ls hls
  obtain ⟨v, S1, h1, h2⟩ := bd_inv hK
  have hM := hC S v S1 h1
  rw [Qr_v hret] at hM
  refine va_callv (hcl p e s m args below meth c X S H locs hR hS ls hls.1 S _ hM (fun U hU hW => ⟨by rw [hU]; exact hR.moved hW.alike, by rw [hU]; exact gS_at X.2.2.2.2.2.2.2 hR hS hW⟩)) hS (fun _ _ h => h) (fun _ h => h) (fun u t H1 locs1 ht hvm hw hB hz hk hS1 => ?_)
  subst hw
  have hB : Rl G lay ad u t t.heap := hB
  rw [ht] at hB
  exact kk v p e s m args below meth c X u r S' h2 H1 locs1 (hB.moved hvm.symm) hS1 ls hls
theorem lf_inv {α : Type} {ρ : Nat → Nat} {n : Nat} {g : MM α} {S S1 : Bk} {a : α} (h : lf ρ n g S = some (a, S1)) : ∃ S2, g (fun i => S (ρ i)) = some (a, S2) ∧ S1 = pu ρ n S2 S := by
  unfold lf at h
  cases hg : g (fun i => S (ρ i)) with
  | none => rw [hg] at h; cases h
  | some q => rw [hg] at h; cases h; exact ⟨q.2, rfl, rfl⟩
/-- a call on a part of the world -/
theorem s_calll {As2 : List Value} {ty : FieldType} (hG : gOk G) (hs : SubL lay lay2 ρ) (hcl : Calls l G mi mi2 d d2 lay ad lay2 (fun i => ad (ρ i)) pc st As2 rest) (hC : Cn l G mi2 d2 lay2 (fun i => ad (ρ i)) As2 g) (hret : mR mi2 = some ty) (hn2 : lay2.length = n) (kk : ∀ r : Int32, Sm l G mi d lay ad (pc + 3) lv (.int r :: rest) (K r)) : Sm l G mi d lay ad pc lv st (bd (lf ρ n g) K) := by
  intro p e s m args below meth c X S r S' hK H locs hR hS ls hls
  obtain ⟨v, S1, h1, h2⟩ := bd_inv hK
  obtain ⟨S2, h3, rfl⟩ := lf_inv h1
  subst hn2
  have hM := hC _ v S2 h3
  rw [Qr_i hret] at hM
  refine va_calli (hcl p e s m args below meth c X S H locs hR hS ls hls.1 _ _ hM (fun U hU hW => ⟨by rw [hU]; exact (hR.cut hs).moved hW.alike, by rw [hU]; exact gS_at X.2.2.2.2.2.2.2 hR hS hW⟩)) hS (fun _ _ h => aof_cut hs h) (fun _ h => aof_cut hs h) (fun r1 u t H1 locs1 ht hvm hw hB hz hk hS1 => ?_)
  obtain ⟨rfl, rfl⟩ := hw
  have hB : Rl G lay2 (fun i => ad (ρ i)) u t t.heap := hB
  rw [ht] at hB
  exact kk r1 p e s m args below meth c X _ r S' h2 H1 locs1 (hR.back hs hB hk) hS1 ls hls
theorem s_calllv {As2 : List Value} (hG : gOk G) (hs : SubL lay lay2 ρ) (hcl : Calls l G mi mi2 d d2 lay ad lay2 (fun i => ad (ρ i)) pc st As2 rest) (hC : Cn l G mi2 d2 lay2 (fun i => ad (ρ i)) As2 g) (hret : mR mi2 = none) (hn2 : lay2.length = n) (kk : ∀ r : Int32, Sm l G mi d lay ad (pc + 3) lv rest (K r)) : Sm l G mi d lay ad pc lv st (bd (lf ρ n g) K) := by
  intro p e s m args below meth c X S r S' hK H locs hR hS ls hls
  obtain ⟨v, S1, h1, h2⟩ := bd_inv hK
  obtain ⟨S2, h3, rfl⟩ := lf_inv h1
  subst hn2
  have hM := hC _ v S2 h3
  rw [Qr_v hret] at hM
  refine va_callv (hcl p e s m args below meth c X S H locs hR hS ls hls.1 _ _ hM (fun U hU hW => ⟨by rw [hU]; exact (hR.cut hs).moved hW.alike, by rw [hU]; exact gS_at X.2.2.2.2.2.2.2 hR hS hW⟩)) hS (fun _ _ h => aof_cut hs h) (fun _ h => aof_cut hs h) (fun u t H1 locs1 ht hvm hw hB hz hk hS1 => ?_)
  subst hw
  have hB : Rl G lay2 (fun i => ad (ρ i)) u t t.heap := hB
  rw [ht] at hB
  exact kk v p e s m args below meth c X _ r S' h2 H1 locs1 (hR.back hs hB hk) hS1 ls hls
end CL
