/-! MAKERS, on: calls of other makers, rows of cells, the end; a maker's walk gives its contract -/
theorem qc_blind {G : Gl} {av : List Value} {sz : Nat} {w : va_W} : FrameBlind (va_Pc av (fun U => U.heap.size = sz ∧ va_P (gD G) classes w U.heap ∧ va_K (gD G) classes (gT G) U ∧ gS G U U.heap)) :=
  fun a U g mk h => ⟨h.1, h.2.1, h.2.2.1, va_K.moved (u := U) (U := U.calling g mk a) (Vm.Alike.refl U.vm) h.2.2.2.1, gS_same (u := U) (U := U.calling g mk a) rfl h.2.2.2.2⟩
theorem adC_shift {ad : Nat → Nat} (hA : Adj ad) {k0 : Nat} (hk : 1 ≤ k0) : adC (ad k0) (ad (k0 + 1)) = fun i => ad (k0 + i) := by
  funext i
  unfold adC
  by_cases hi : i = 0
  · rw [if_pos hi, hi]; rfl
  · rw [if_neg hi]
    obtain ⟨q, rfl⟩ : ∃ q, k0 = q + 1 := ⟨k0 - 1, by omega⟩
    obtain ⟨r, rfl⟩ : ∃ r, i = r + 1 := ⟨i - 1, by omega⟩
    have h1 := hA.2 (q + 1)
    have h2 := hA.2 (q + 1 + r)
    have e1 : q + 1 + (r + 1) = q + 1 + r + 1 := by omega
    show ad (q + 1 + 1) + (r + 1 - 1) = ad (q + 1 + (r + 1))
    rw [e1, h1, h2]; omega
section SK2
variable {l : Launch} {G : Gl} {mi mi2 : Mi} {d d2 mc ms mc2 ms2 n2 : Nat} {lay lay2 : List Sh} {ad : Nat → Nat} {S S2 : Bk} {pc k k0 cu su idx n ci : Nat} {op : Op} {lv lv' : List (Option Value)} {st As rest fs : List Value} {host : String}
/-- how a maker is called -/
def CallsK (l : Launch) (G : Gl) (mi mi2 : Mi) (d mc ms d2 mc2 ms2 : Nat) (pc cu su : Nat) (st : List Value) (b : Nat) (As rest : List Value) : Prop :=
  ∀ (p : Program) (e : Env) (s : State) (m : MethodId) (args : Array Value) (below : List Frame) (meth : Method) (c : Code), Cx G mi p s m args meth c → ∀ (H : Heap) (locs : List Loc) (ls : Array Slot), ls.size = mL mi → ∀ (Pc : Array Value → State → Prop) (Qc : Array Value → State → Outcome → State → Prop) (free : Addr → Prop),
    Met l (mY mi2) (Cond.code (mY mi2) (mC mi2) (mL mi2) (mR mi2) :: tb) (RmC d2 mc2 ms2) Pc Qc mc2 ms2 free → PreS s H Pc (.ref b :: As) → va_Run p l e (RmC d mc ms) s m args below meth c H locs cu su mc2 ms2 (F0 m pc ls st) rest (Qc (Value.ref b :: As).toArray) free
theorem moC_room {mi2 : Mi} (h : d2 + 1 ≤ d ∧ mL mi2 ≤ 45) : (RmC d2 mc2 ms2).frames + 1 ≤ (RmC d mc ms).frames ∧ 8 + (mL mi2 + 11) + (RmC d2 mc2 ms2).locals ≤ (RmC d mc ms).locals := by
  refine ⟨h.1, ?_⟩
  show 8 + (mL mi2 + 11) + 64 * d2 ≤ 64 * d
  have := h.1
  have := h.2
  omega
theorem callsK_I {b : Nat} (hret : mR mi2 = none) (hy : (mY mi2).name = "<init>") (hd : decode (mC mi) pc = .ok (.invokespecial idx, 3)) (hO : MOk mi2 n) (hV : Cond.instanceMethod (mY mi2) ∈ tb) (hl : Cond.methodLink (mY mi).cls idx (mY mi2) ∈ tb) (hdep : d2 + 1 ≤ d ∧ mL mi2 ≤ 45) (hn : As.length = n) (hst : st = As.reverse ++ .ref b :: rest) (hcat : (rest.map fun v => v.category).sum ≤ 8) (hc : cu + mc2 ≤ mc ∧ su + ms2 ≤ ms) : CallsK l G mi mi2 d mc ms d2 mc2 ms2 pc cu su st b As rest := by
  intro p e s m args below meth c X H locs ls hls Pc Qc free hM hpre
  have hts := X.2.2.2.2.2.2.1
  have hR := moC_room (mc := mc) (ms := ms) (mc2 := mc2) (ms2 := ms2) hdep
  exact va_runI (As := As) (rest := rest) ⟨X.1, X.2.1, X.2.2.1, X.2.2.2.2.2.1, hts⟩ hM ⟨⟨rfl, rfl, hR.1, hR.2, mo_ws hO hts, by rw [← hret]; exact List.mem_cons_self, by rw [← hret]; exact hts _ hO.1, hts _ hO.2.1, hO.2.2.1, mo_len hO, hts _ hl⟩, hy, hts _ hV⟩ hpre rfl hn hls hst (lv_room hcat) hd hc
theorem callsK_IN {b : Nat} (hret : mR mi2 = none) (hy : (mY mi2).name = "<init>") (hd : decode (mC mi) pc = .ok (.invokespecial idx, 3)) (hO : MOk mi2 n) (hV : Cond.instanceMethod (mY mi2) ∈ tb) (hl : Cond.methodLinkNest (mY mi).cls idx (mY mi2) host ∈ tb) (hdep : d2 + 1 ≤ d ∧ mL mi2 ≤ 45) (hn : As.length = n) (hst : st = As.reverse ++ .ref b :: rest) (hcat : (rest.map fun v => v.category).sum ≤ 8) (hc : cu + mc2 ≤ mc ∧ su + ms2 ≤ ms) : CallsK l G mi mi2 d mc ms d2 mc2 ms2 pc cu su st b As rest := by
  intro p e s m args below meth c X H locs ls hls Pc Qc free hM hpre
  have hts := X.2.2.2.2.2.2.1
  have hR := moC_room (mc := mc) (ms := ms) (mc2 := mc2) (ms2 := ms2) hdep
  exact va_runIN (As := As) (rest := rest) ⟨X.1, X.2.1, X.2.2.1, X.2.2.2.2.2.1, hts⟩ hM ⟨⟨⟨rfl, rfl, hR.1, hR.2, mo_ws hO hts, by rw [← hret]; exact List.mem_cons_self⟩, by rw [← hret]; exact hts _ hO.1, hts _ hO.2.1, hO.2.2.1, mo_len hO, hts _ hl⟩, hy, hts _ hV⟩ hpre rfl hn hls hst (lv_room hcat) hd hc
/-- a maker called for the cell k0, the newest -/
theorem k_init (hA : Adj ad) (hB0 : gB G ≤ ad 0) (hk : 1 ≤ k0) (hkk : k = k0 + 1) (ho : op k0 = some (.inr (ci, fs))) (hcl : CallsK l G mi mi2 d mc ms d2 mc2 ms2 pc cu su st (ad k0) As rest) (hC : Ck l G mi2 d2 mc2 ms2 lay2 S2 ci fs As) (hs : SubL lay lay2 (fun i => k0 + i)) (hSS : ∀ i, i < lay2.length → S (k0 + i) = S2 i) (hn2 : lay2.length = n2) (hpos : 0 < n2) (hop : ∀ i, k0 < i → op i = none) (kk : Sk l G mi d mc ms lay ad S (pc + 3) (k0 + n2) (upn op k0) (cu + mc2) (su + ms2) lv rest) : Sk l G mi d mc ms lay ad S pc k op cu su lv st := by
  intro p e s m args below meth c X hin hK hsz H locs hP hS hH ls hls
  subst hkk
  subst hn2
  have hlt : ad k0 < ad (k0 + 1) := hA.lt (Nat.lt_succ_self _)
  have hM := hC (ad k0) (ad (k0 + 1)) (hA.base hB0 (hA.AC k0)) hlt
  rw [adC_shift hA hk] at hM
  have hAC : ∀ q, AC (fun i => ad (k0 + i)) q → AC ad q := by
    intro q h
    rcases h with h | h
    · exact h ▸ hA.AC (k0 + 0)
    · refine Or.inr ?_
      have h1 := hA.2 k0
      have h : ad (k0 + 1) ≤ q := h
      omega
  refine va_callv (hcl p e s m args below meth c X H locs ls hls.1 _ _ _ hM ⟨qc_blind, fun U hU hW => ⟨rfl, by rw [hU]; exact hH, ?_, va_K.moved hW.alike hK, ?_⟩⟩) hS (fun q _ h => hAC q h) hAC (fun u t H1 locs1 ht hvm hw hB hz hkq hS1 => ?_)
  · intro j q hq
    have hj : j < 1 := (List.getElem?_eq_some_iff.mp hq).1
    rw [show j = 0 by omega] at hq
    cases hq
    rw [hU]
    exact hP k0 _ (wc_op (Nat.lt_succ_self _) ho)
  · rw [hU]
    exact gS_warm hW (gS_kept (fun a h1 h2 => hS.2.1 a h1 (fun z => h2 (hA.base hB0 z))) X.2.2.2.2.2.2.2)
  · obtain ⟨hB1, hB2⟩ := hB
    rw [ht] at hB1 hB2
    refine kk p e s m args below meth c X hin hK hsz H1 locs1 (fun j q hq => ?_) hS1 hB1 ls hls
    obtain ⟨hj, rfl⟩ := wc_of hq
    by_cases hjk : j < k0
    · have h3 := hP j _ (wc_at (Nat.lt_succ_of_lt hjk))
      have e1 : upn op k0 j = op j := by simp [upn, Nat.ne_of_lt hjk]
      rw [e1]
      refine h3.kept (hkq _ h3.lt (fun z => ?_))
      rcases z with z | z
      · exact absurd (hA.inj (show ad j = ad (k0 + 0) from z)) (by omega)
      · have := hA.lt (show j < k0 + 1 by omega)
        have z : ad (k0 + 1) ≤ ad j := z
        omega
    · obtain ⟨i, rfl⟩ : ∃ i, j = k0 + i := ⟨j - k0, by omega⟩
      have hi : i < lay2.length := by omega
      have e1 : upn op k0 (k0 + i) = none := by
        unfold upn
        by_cases hi0 : k0 + i = k0
        · rw [if_pos hi0]
        · rw [if_neg hi0]; exact hop _ (by omega)
      rw [e1]
      have e2 := List.getElem?_eq_getElem hi
      obtain ⟨g1, g2⟩ := hs.1 i _ e2
      have h3 := hB2 i _ (ws_at e2)
      show va_at (gD G) classes (ad (k0 + i), fin G lay ad S (k0 + i)) H1
      unfold fin
      rw [List.getD_eq_getElem?_getD, g2, Option.getD_some, cell_ren g1, hSS i hi]
      exact h3
theorem k_getR {i f idx : Nat} {x : Nat} (hi : i < k) (ho : op i = some (.inr (ci, fs))) (hF : FL (mY mi).cls idx ci f) (hf : fs[f]? = some (.ref x)) (hd : decode (mC mi) pc = .ok (.getfield idx, 3)) (kk : Sk l G mi d mc ms lay ad S (pc + 3) k op cu su lv (.ref x :: st)) : Sk l G mi d mc ms lay ad S pc k op cu su lv (.ref (ad i) :: st) := by
  intro p e s m args below meth c X hin hK hsz H locs hP hS hH ls hls
  obtain ⟨C, T, N, ⟨hc, hinn, -⟩, hkN, hlk⟩ := hF
  exact va_get X.1 X.2.1 X.2.2.2.2.2.2.1 hinn X.2.2.2.2.2.1 hK hP i (wc_op hi ho) hc f hkN (X.2.2.2.2.2.2.1 _ hlk) (fun _ h9 => h9) hf hd (kk p e s m args below meth c X hin hK hsz H locs hP hS hH ls hls)
/-- a row of cells, none in it yet -/
def nulls (G : Gl) (N : Nat) (f : Nat → Option Nat) : va_E := .inl (gE G, N, .inr (.inr (.inr (.inr f))))
theorem k_anew {N : Nat} {x : Int32} (hA : Adj ad) (hk : 1 ≤ k) (hcl : Cond.classLink (mY mi).cls idx "KnotLaundry$World" ∈ tb) (hn : ¬ x < 0) (hN : x.toNatClampNeg = N) (hb : N * 4 ≤ 536870912) (hc : cu + 1 ≤ mc ∧ su + N ≤ ms) (hd : decode (mC mi) pc = .ok (.anewarray idx, 3)) (kk : Sk l G mi d mc ms lay ad S (pc + 3) (k + 1) (upo op k (nulls G N (fun _ => none))) (cu + 1) (su + N) lv (.ref (ad k) :: st)) : Sk l G mi d mc ms lay ad S pc k op cu su lv (.int x :: st) := by
  intro p e s m args below meth c X hin hK hsz H locs hP hS hH ls hls
  subst hN
  refine W.anew (R := RmC d mc ms) X.1 X.2.1 X.2.2.2.2.2.1 (X.2.2.2.2.2.2.1 _ hcl) (va_AO.use X.2.2.2.2.2.2.2.2.2.2.2.2.2.2.2) (g := F0 m pc ls (.int x :: st)) rfl hd rfl hn hb hc.1 hc.2 fun cA kA comp f1 f2 f3 f4 => ?_
  have hcA : cA = gE G := by
    obtain ⟨kA', comp', -, -, -, h4⟩ := (hK.2 1 (gE G, .object "KnotLaundry$World") rfl).2
    exact Option.some.inj (f1.symm.trans h4)
  generalize hH1 : H.push ({ cls := cA, slots := Array.replicate x.toNatClampNeg .null, vm := .none } : Cell) = H1
  have z1 : H1.size = H.size + 1 := by rw [← hH1, Array.size_push]
  have e1 : H1[H.size]? = some (arrV cA x.toNatClampNeg (fun _ => .null)) := by rw [← hH1, Array.getElem?_push_size, ← arrV_new]
  have o1 : ∀ q : Nat, q < H.size → H1[q]? = H[q]? := fun q hq => by rw [← hH1, Array.getElem?_push, if_neg (Nat.ne_of_lt hq)]
  have hr : (Value.ref H.size) = .ref (ad k) := by rw [hH]
  rw [hr]
  refine kk p e s m args below meth c X hin hK hsz H1 locs (wc_more hA hk hP hH ?_ (fun q hq => o1 q (by rw [hH]; exact hq))) (vS_more hS z1 o1) (by rw [z1, hH, hA.next hk]) ls hls
  show H1[ad k]? = some (vp_cell (gE G) (x.toNatClampNeg, .inr (.inr (.inr (.inr (fun _ => none))))))
  rw [vp_cell_q, ← hH, e1, hcA]
  rfl
/-- the end: every cell is as it will be -/
theorem k_ret (hr : mR mi = none) (hk : k = lay.length) (hop : ∀ i, i < k → ∀ H : Heap, va_at (gD G) classes (ad i, (op i).getD (fin G lay ad S i)) H → va_at (gD G) classes (ad i, fin G lay ad S i) H) (hd : decode (mC mi) pc = .ok (.return_, 1)) : Sk l G mi d mc ms lay ad S pc k op mc ms lv [] := by
  intro p e s m args below meth c X hin hK hsz H locs hP hS hH ls hls
  refine W.vret X.1 X.2.1 (by rw [X.2.2.2.1, hr]) (fun t ht hW => ⟨⟨(), rfl, trivial, by rw [ht, hH, hk], ?_⟩, hS.F ht⟩) hS.2.2 hd X.2.2.2.2.1
  rw [ht]
  intro j q hq
  obtain ⟨sh, h1, rfl⟩ := ws_of hq
  have hj : j < k := by rw [hk]; exact (List.getElem?_eq_some_iff.mp h1).1
  have h3 := hop j hj H (hP j _ (wc_at hj))
  unfold fin at h3
  rw [List.getD_eq_getElem?_getD, h1, Option.getD_some] at h3
  exact h3
/-- a maker's walk gives its contract -/
theorem ck_of {fs As : List Value} {lvf : Nat → List (Option Value)} (hcat : As.all (fun v => v.category == 1) = true) (hlen : As.length + 1 ≤ mL mi) (hpl : plainFor (mY mi) = true) (hy : (mY mi).name = "<init>") (hlv : ∀ h0, mask (lvf h0) (some (.ref h0) :: As.map some) = lvf h0)
    (h : ∀ ad : Nat → Nat, Adj ad → gB G ≤ ad 0 → Sk l G mi d mc ms lay ad S 0 1 (upo (fun _ => none) 0 (.inr (ci, fs))) 0 0 (lvf (ad 0)) []) : Ck l G mi d mc ms lay S ci fs As := by
  intro h0 sz hb0 hsz
  refine va_MetF (cc := mC mi) (maxL := mL mi) (ret := mR mi) hpl rfl ?_
  intro p e s m args below meth c s₁ B hml hv
  obtain ⟨rfl, hz, hP, hK, hgs⟩ := hv
  have hts := atoms_spec (ws := Cond.code (mY mi) (mC mi) (mL mi) (mR mi) :: tb) B.pre
  have hA : Adj (adC h0 sz) := adC_ok hsz
  have hcat2 : (Value.ref h0 :: As).all (fun v => v.category == 1) = true := by simp only [List.all_cons, hcat, Bool.and_true]; rfl
  have hsl : ∀ vs : List Value, vs.all (fun v => v.category == 1) = true → (lg_sl vs).length = vs.length ∧ ∀ (kk i : Nat) (v : Value), vs[i]? = some v → (kk + i, v) ∈ lv_args kk vs := by
    intro vs
    induction vs with
    | nil => intro _; exact ⟨rfl, fun kk i v h => by simp at h⟩
    | cons a t ih =>
      intro hc
      simp only [List.all_cons, Bool.and_eq_true, beq_iff_eq] at hc
      obtain ⟨i1, i2⟩ := ih hc.2
      refine ⟨by cases a <;> simp_all [lg_sl, Value.category], fun kk i v h => ?_⟩
      cases i with
      | zero => simp at h; subst h; simp [lv_args]
      | succ i =>
        have h1 := i2 (kk + 1) i v (by simpa using h)
        have e1 : kk + (i + 1) = kk + 1 + i := by omega
        rw [e1]
        simp only [lv_args, hc.1]
        exact List.mem_cons_of_mem _ h1
  obtain ⟨hs1, hs2⟩ := hsl _ hcat2
  have hl := lv_entry (Value.ref h0 :: As) (n := mL mi) (by rw [hs1]; simpa using hlen)
  rw [lg_entry_eq]
  refine h (adC h0 sz) hA (by simpa [adC] using hb0) p e s m _ below meth c ⟨B.exec, B.bytes, hml, B.returns, B.notSynchronized, findClass_of_methodNamed B.named, fun w hw => hts w (List.mem_cons_of_mem _ hw), hgs⟩ ((name_of_methodNamed B.named B.method).1.trans hy) hK (by rw [hz]; simp [adC]) s.heap [] (fun j q hq => ?_) va_S.rf (by rw [hz]; simp [adC]) _ ⟨hl.1, hl.2.1, fun i v hi => ?_⟩
  · obtain ⟨hj, rfl⟩ := wc_of hq
    rw [show j = 0 by omega]
    exact hP 0 _ rfl
  · have h1 := mask_get (hlv _) hi
    have h2 : (Value.ref h0 :: As)[i]? = some v := by
      cases i with
      | zero => simpa [adC] using h1
      | succ i =>
        simp only [List.getElem?_cons_succ, List.getElem?_map] at h1 ⊢
        cases hq : As[i]? with
        | none => rw [hq] at h1; cases h1
        | some w => rw [hq] at h1; simp at h1; rw [h1]
    have h3 := hl.2.2 _ (hs2 0 i v h2)
    rw [Nat.zero_add] at h3
    exact ⟨h3, by simpa using List.all_eq_true.mp hcat2 v (List.mem_of_getElem? h2)⟩
end SK2
