/-! STEPS over what was there before: tables, the text; and System.arraycopy of ints -/
def lc (L : List Int32) (j : Int32) : MM Int32 := fun S => if j < 0 ∨ L.length ≤ j.toNatClampNeg then none else some (L.getD j.toNatClampNeg 0, S)
def cpl (f g : List Int32) (sp dp n : Nat) : List Int32 := (List.range g.length).map (fun k => if dp ≤ k ∧ k < dp + n then f.getD (sp + (k - dp)) 0 else g.getD k 0)
def cpy (si : Nat) (sp : Int32) (di : Nat) (dp n : Int32) : MM Unit := fun S => if sp < 0 ∨ dp < 0 ∨ n < 0 ∨ (S si).length < sp.toNatClampNeg + n.toNatClampNeg ∨ (S di).length < dp.toNatClampNeg + n.toNatClampNeg then none else some ((), up S di (cpl (S si) (S di) sp.toNatClampNeg dp.toNatClampNeg n.toNatClampNeg))
def inL {α : Type} (x : Nat) (os : List Nat) (K : MM α) : MM α := fun S => if x ∈ os then K S else none
def i2c (x : Int32) : Int32 := (x.toUInt32 % 65536).toInt32
def rch (v : Int32) : MM Int32 := fun S => if v.toUInt32.toUInt16.toUInt32.toInt32 = v then some (v, S) else none
def rby (v : Int32) : MM Int32 := fun S => if v.toInt8.toInt32 = v then some (v, S) else none
theorem lc_inv {L : List Int32} {j : Int32} {S S1 : Bk} {v : Int32} (h : lc L j S = some (v, S1)) : vp_in j L.length ∧ v = L.getD j.toNatClampNeg 0 ∧ S1 = S := by
  unfold lc at h
  by_cases hk : j < 0 ∨ L.length ≤ j.toNatClampNeg
  · rw [if_pos hk] at h; cases h
  · rw [if_neg hk] at h; cases h; exact ⟨hk, rfl, rfl⟩
theorem wd_native : Cond.native arraycopyName ∈ tb := tb_2 (i := 233) rfl rfl
theorem wd_static : Cond.static arraycopyName ∈ tb := tb_2 (i := 232) rfl rfl
theorem wd_system : Cond.initialized "java/lang/System" ∈ tb := tb_1 (i := 14) rfl rfl
section ST
variable {l : Launch} {G : Gl} {mi : Mi} {d : Nat} {lay : List Sh} {ad : Nat → Nat} {pc : Nat} {lv : List (Option Value)} {st : List Value} {K1 : MM Int32} {K : Int32 → MM Int32} {idx : Nat} {j : Int32}
theorem vS_wide {A B : Nat → Prop} {H0 H : Heap} {locs : List Loc} (h : va_S A H0 H locs) (hAB : ∀ q, A q → B q) : va_S B H0 H locs := ⟨h.1, fun q h1 h2 => h.2.1 q h1 (fun z => h2 (hAB q z)), fun q hq => hAB _ (h.2.2 q hq)⟩
theorem s_getsC (hl : Cond.fieldLink (mY mi).cls idx "KnotLaundry$Puzzles" "CASES_WITH" "[I" ∈ tb) (hd : decode (mC mi) pc = .ok (.getstatic idx, 3)) (k : Sm l G mi d lay ad (pc + 3) lv (.ref (gC G) :: st) K1) : Sm l G mi d lay ad pc lv st K1 :=
  fun p e s m args below meth c X S r S' hK H locs hR hS ls hls => va_gets X.1 X.2.1 X.2.2.2.2.2.2.2.1 (vS_wide hS (fun _ h => hR.base h)) X.2.2.2.2.2.1 (X.2.2.2.2.2.2.1 _ hl) (fun _ h => h) hd (k p e s m args below meth c X S r S' hK H locs hR hS ls hls)
theorem s_getsN (hl : Cond.fieldLink (mY mi).cls idx "KnotLaundry$Puzzles" "NIMBERS" "[I" ∈ tb) (hd : decode (mC mi) pc = .ok (.getstatic idx, 3)) (k : Sm l G mi d lay ad (pc + 3) lv (.ref (gN G) :: st) K1) : Sm l G mi d lay ad pc lv st K1 :=
  fun p e s m args below meth c X S r S' hK H locs hR hS ls hls => va_gets X.1 X.2.1 X.2.2.2.2.2.2.2.2.2.1 (vS_wide hS (fun _ h => hR.base h)) X.2.2.2.2.2.1 (X.2.2.2.2.2.2.1 _ hl) (fun _ h => h) hd (k p e s m args below meth c X S r S' hK H locs hR hS ls hls)
theorem s_getsZ (hl : Cond.fieldLink (mY mi).cls idx "java/lang/String" "COMPACT_STRINGS" "Z" ∈ tb) (hd : decode (mC mi) pc = .ok (.getstatic idx, 3)) (k : Sm l G mi d lay ad (pc + 3) lv (.int 1 :: st) K1) : Sm l G mi d lay ad pc lv st K1 :=
  fun p e s m args below meth c X S r S' hK H locs hR hS ls hls => va_gets X.1 X.2.1 X.2.2.2.2.2.2.2.2.2.2.2.2.2.1 (vS_wide hS (fun _ h => hR.base h)) X.2.2.2.2.2.1 (X.2.2.2.2.2.2.1 _ hl) (fun _ h => h) hd (k p e s m args below meth c X S r S' hK H locs hR hS ls hls)
theorem s_getsF (hl : Cond.fieldLink (mY mi).cls idx "jdk/internal/util/Preconditions" "SIOOBE_FORMATTER" "Ljava/util/function/BiFunction;" ∈ tb) (hd : decode (mC mi) pc = .ok (.getstatic idx, 3)) (k : Sm l G mi d lay ad (pc + 3) lv (va_rf (gF G) :: st) K1) : Sm l G mi d lay ad pc lv st K1 :=
  fun p e s m args below meth c X S r S' hK H locs hR hS ls hls => va_gets X.1 X.2.1 X.2.2.2.2.2.2.2.2.2.2.2.2.2.2.1 (vS_wide hS (fun _ h => hR.base h)) X.2.2.2.2.2.1 (X.2.2.2.2.2.2.1 _ hl) (fun _ h => h) hd (k p e s m args below meth c X S r S' hK H locs hR hS ls hls)
theorem s_taldC (hd : decode (mC mi) pc = .ok (.iaload, 1)) (k : ∀ v : Int32, Sm l G mi d lay ad (pc + 1) lv (.int v :: st) (K v)) : Sm l G mi d lay ad pc lv (.int j :: .ref (gC G) :: st) (bd (lc CWl j) K) := by
  intro p e s m args below meth c X S r S' hK H locs hR hS ls hls
  obtain ⟨v, S1, h1, h2⟩ := bd_inv hK
  obtain ⟨hin, rfl, rfl⟩ := lc_inv h1
  exact va_ti X.1 X.2.1 X.2.2.2.2.2.2.2.2.1 (vS_wide hS (fun _ h => hR.base h)) hin rfl hd (k _ p e s m args below meth c X S1 r S' h2 H locs hR hS ls hls)
theorem s_taldN (hd : decode (mC mi) pc = .ok (.iaload, 1)) (k : ∀ v : Int32, Sm l G mi d lay ad (pc + 1) lv (.int v :: st) (K v)) : Sm l G mi d lay ad pc lv (.int j :: .ref (gN G) :: st) (bd (lc NBl j) K) := by
  intro p e s m args below meth c X S r S' hK H locs hR hS ls hls
  obtain ⟨v, S1, h1, h2⟩ := bd_inv hK
  obtain ⟨hin, rfl, rfl⟩ := lc_inv h1
  exact va_ti X.1 X.2.1 X.2.2.2.2.2.2.2.2.2.2.1 (vS_wide hS (fun _ h => hR.base h)) hin rfl hd (k _ p e s m args below meth c X S1 r S' h2 H locs hR hS ls hls)
theorem s_tlenC (hd : decode (mC mi) pc = .ok (.arraylength, 1)) (k : Sm l G mi d lay ad (pc + 1) lv (.int 4 :: st) K1) : Sm l G mi d lay ad pc lv (.ref (gC G) :: st) K1 :=
  fun p e s m args below meth c X S r S' hK H locs hR hS ls hls => va_tlen X.1 X.2.1 X.2.2.2.2.2.2.2.2.1 (vS_wide hS (fun _ h => hR.base h)) rfl hd (k p e s m args below meth c X S r S' hK H locs hR hS ls hls)
theorem s_tlenN (hd : decode (mC mi) pc = .ok (.arraylength, 1)) (k : Sm l G mi d lay ad (pc + 1) lv (.int 14 :: st) K1) : Sm l G mi d lay ad pc lv (.ref (gN G) :: st) K1 :=
  fun p e s m args below meth c X S r S' hK H locs hR hS ls hls => va_tlen X.1 X.2.1 X.2.2.2.2.2.2.2.2.2.2.1 (vS_wide hS (fun _ h => hR.base h)) rfl hd (k p e s m args below meth c X S r S' hK H locs hR hS ls hls)
theorem s_ldcS (hown : (mY mi).cls = "KnotLaundry$Tape") (hd : decode (mC mi) pc = .ok (.ldc 48, 2)) (k : Sm l G mi d lay ad (pc + 2) lv (.ref (gW G) :: st) K1) : Sm l G mi d lay ad pc lv st K1 :=
  fun p e s m args below meth c X S r S' hK H locs hR hS ls hls => va_ldcS X.1 X.2.1 (hown ▸ X.2.2.2.2.2.1) X.2.2.2.2.2.2.2.2.2.2.2.1 hd (k p e s m args below meth c X S r S' hK H locs hR hS ls hls)
theorem s_strV (hl : Cond.fieldLink (mY mi).cls idx "java/lang/String" "value" "[B" ∈ tb) (hd : decode (mC mi) pc = .ok (.getfield idx, 3)) (k : Sm l G mi d lay ad (pc + 3) lv (.ref (gV G) :: st) K1) : Sm l G mi d lay ad pc lv (.ref (gW G) :: st) K1 :=
  fun p e s m args below meth c X S r S' hK H locs hR hS ls hls => vk_getf X.1 X.2.1 (X.2.2.2.2.2.2.2.2.2.2.2.2.1.1 0 (by decide)).2.2.1 (vS_wide hS (fun _ h => hR.base h)) X.2.2.2.2.2.1 (X.2.2.2.2.2.2.1 _ hl) (fun _ h => h) hd (k p e s m args below meth c X S r S' hK H locs hR hS ls hls)
theorem s_strC (hl : Cond.fieldLink (mY mi).cls idx "java/lang/String" "coder" "B" ∈ tb) (hd : decode (mC mi) pc = .ok (.getfield idx, 3)) (k : Sm l G mi d lay ad (pc + 3) lv (.int 0 :: st) K1) : Sm l G mi d lay ad pc lv (.ref (gW G) :: st) K1 :=
  fun p e s m args below meth c X S r S' hK H locs hR hS ls hls => vk_getf X.1 X.2.1 (X.2.2.2.2.2.2.2.2.2.2.2.2.1.1 0 (by decide)).2.1 (vS_wide hS (fun _ h => hR.base h)) X.2.2.2.2.2.1 (X.2.2.2.2.2.2.1 _ hl) (fun _ h => h) hd (k p e s m args below meth c X S r S' hK H locs hR hS ls hls)
theorem s_tlenV (hd : decode (mC mi) pc = .ok (.arraylength, 1)) (k : Sm l G mi d lay ad (pc + 1) lv (.int 111 :: st) K1) : Sm l G mi d lay ad pc lv (.ref (gV G) :: st) K1 :=
  fun p e s m args below meth c X S r S' hK H locs hR hS ls hls => va_tlen X.1 X.2.1 (X.2.2.2.2.2.2.2.2.2.2.2.2.1.1 0 (by decide)).2.2.2 (vS_wide hS (fun _ h => hR.base h)) rfl hd (k p e s m args below meth c X S r S' hK H locs hR hS ls hls)
theorem s_taldV (hd : decode (mC mi) pc = .ok (.baload, 1)) (k : ∀ v : Int32, Sm l G mi d lay ad (pc + 1) lv (.int v :: st) (K v)) : Sm l G mi d lay ad pc lv (.int j :: .ref (gV G) :: st) (bd (lc WDl j) K) := by
  intro p e s m args below meth c X S r S' hK H locs hR hS ls hls
  obtain ⟨v, S1, h1, h2⟩ := bd_inv hK
  obtain ⟨hin, rfl, rfl⟩ := lc_inv h1
  exact va_tb X.1 X.2.1 (X.2.2.2.2.2.2.2.2.2.2.2.2.1.1 0 (by decide)).2.2.2 (vS_wide hS (fun _ h => hR.base h)) hin rfl hd (k _ p e s m args below meth c X S1 r S' h2 H locs hR hS ls hls)
theorem s_i2c {x : Int32} (hd : decode (mC mi) pc = .ok (.i2c, 1)) (k : Sm l G mi d lay ad (pc + 1) lv (.int (i2c x) :: st) K1) : Sm l G mi d lay ad pc lv (.int x :: st) K1 :=
  s_pure (fun p e s m args below meth c X H locs Q ls hl kk => lv_i2c X.1 X.2.1 hd rfl (kk ls hl)) k
theorem s_creturn {v : Int32} (hr : mR mi = some .char) (hd : decode (mC mi) pc = .ok (.ireturn, 1)) : Sm l G mi d lay ad pc lv [.int v] (rch v) := by
  intro p e s m args below meth c X S r S' hK H locs hR hS ls hl
  unfold rch at hK
  by_cases hv : v.toUInt32.toUInt16.toUInt32.toInt32 = v
  · rw [if_pos hv] at hK
    cases hK
    rw [hr]
    exact W.zret (ty := .char) X.1 X.2.1 (by rw [X.2.2.2.1, hr]) (by show Value.int v.toUInt32.toUInt16.toUInt32.toInt32 = Value.int v; rw [hv]) (fun t ht hW => ⟨⟨v, S, rfl, ⟨rfl, rfl⟩, by show Rl G lay ad S t t.heap; rw [ht]; exact hR.moved hW.alike⟩, hS.F ht⟩) hS.2.2 hd X.2.2.2.2.1
  · rw [if_neg hv] at hK
    cases hK
theorem s_breturn {v : Int32} (hr : mR mi = some .byte) (hd : decode (mC mi) pc = .ok (.ireturn, 1)) : Sm l G mi d lay ad pc lv [.int v] (rby v) := by
  intro p e s m args below meth c X S r S' hK H locs hR hS ls hl
  unfold rby at hK
  by_cases hv : v.toInt8.toInt32 = v
  · rw [if_pos hv] at hK
    cases hK
    rw [hr]
    exact W.zret (ty := .byte) X.1 X.2.1 (by rw [X.2.2.2.1, hr]) (by show Value.int v.toInt8.toInt32 = Value.int v; rw [hv]) (fun t ht hW => ⟨⟨v, S, rfl, ⟨rfl, rfl⟩, by show Rl G lay ad S t t.heap; rw [ht]; exact hR.moved hW.alike⟩, hS.F ht⟩) hS.2.2 hd X.2.2.2.2.1
  · rw [if_neg hv] at hK
    cases hK
theorem s_getsZL (hl : Cond.fieldLink (mY mi).cls idx "java/lang/String" "COMPACT_STRINGS" "Z" ∈ tb) (hd : decode (mC mi) pc = .ok (.getstatic idx, 3)) (k : ∀ y : Int32, Sm l G mi d lay ad (pc + 3) lv (.int y :: st) (K y)) : Sm l G mi d lay ad pc lv st (lt 1 K) := s_getsZ hl hd (k 1)
theorem s_strCL (hl : Cond.fieldLink (mY mi).cls idx "java/lang/String" "coder" "B" ∈ tb) (hd : decode (mC mi) pc = .ok (.getfield idx, 3)) (k : ∀ y : Int32, Sm l G mi d lay ad (pc + 3) lv (.int y :: st) (K y)) : Sm l G mi d lay ad pc lv (.ref (gW G) :: st) (lt 0 K) := s_strC hl hd (k 0)
/-- a call of a text's method -/
theorem calls_VS {mi2 : Mi} {d2 n : Nat} {As rest : List Value} {lay2 : List Sh} {ad2 : Nat → Nat} (hd : decode (mC mi) pc = .ok (.invokevirtual idx, 3)) (hO : MOk mi2 n) (hV : MVk mi2) (hl : Cond.methodLink (mY mi).cls idx (mY mi2) ∈ tb) (hdep : d2 + 1 ≤ d ∧ mL mi2 ≤ 45) (hn : As.length = n) (hst : st = As.reverse ++ .ref (gW G) :: rest) (hcat : (rest.map fun v => v.category).sum ≤ 8) (hc : (mY mi2).cls = "java/lang/String") : Calls l G mi mi2 d d2 lay ad lay2 ad2 pc st (.ref (gW G) :: As) rest := by
  intro p e s m args below meth c X S H locs hR hS ls hls S2 Qc hM hpre
  have hts := X.2.2.2.2.2.2.1
  have hrecv : ∃ cell : Cell, H[gW G]? = some cell ∧ cell.vm.isStatics = false ∧ s.vm.findClass (mY mi2).cls = some cell.cls := by
    rw [hc]
    exact vk_recv (i := 0) X.2.2.2.2.2.2.2.2.2.2.2.2.1 (by decide) (vS_wide hS (fun _ h => hR.base h))
  exact va_runV (C := (mY mi2).cls) (As := As) (rest := rest) ⟨X.1, X.2.1, X.2.2.1, X.2.2.2.2.2.1, hts⟩ hM ⟨mo_callB hO hts hl hdep, hts _ hV.1, hts _ hV.2⟩ ⟨pc_blind, hrecv, fun U hU hW => ⟨rfl, hpre U hU hW⟩⟩ rfl hn hls hst (lv_room hcat) hd ⟨Nat.zero_le _, Nat.zero_le _⟩
theorem s_acopy {si di : Nat} {sp dp n : Int32} {KU : Unit → MM Int32} (hm : Cond.methodLink (mY mi).cls idx arraycopyName ∈ tb) (hs : lay[si]? = some (.inr false)) (ht : lay[di]? = some (.inr false)) (hdp : 1 ≤ d) (hd : decode (mC mi) pc = .ok (.invokestatic idx, 3)) (hcat : (st.map fun v => v.category).sum ≤ 8) (k : Sm l G mi d lay ad (pc + 3) lv st (KU ())) : Sm l G mi d lay ad pc lv (.int n :: .int dp :: .ref (ad di) :: .int sp :: .ref (ad si) :: st) (bd (cpy si sp di dp n) KU) := by
  intro p e s m args below meth c X S r S' hK H locs hR hS ls hls
  obtain ⟨u, S1, h1, h2⟩ := bd_inv hK
  unfold cpy at h1
  by_cases hc : sp < 0 ∨ dp < 0 ∨ n < 0 ∨ (S si).length < sp.toNatClampNeg + n.toNatClampNeg ∨ (S di).length < dp.toNatClampNeg + n.toNatClampNeg
  · rw [if_pos hc] at h1; cases h1
  · rw [if_neg hc] at h1
    cases h1
    simp only [not_or] at hc
    have hts := X.2.2.2.2.2.2.1
    refine va_copyi X.1 X.2.1 (X.2.2.1.trans hls.1.symm) X.2.2.2.2.2.1 (hts _ hm) (hts _ wd_native) (hts _ wd_static) (hts _ wd_system) hR.2.2 hR.1 hR.hDA hS si di 0 0 (ws_at hs) (ws_at ht) rfl rfl rfl hc.1 hc.2.1 hc.2.2.1 (by omega) (by omega) (fun _ _ => rfl) hdp ?_ hd (fun H1 locs1 hP1 hD1 hS1 => ?_)
    · have : nativeFrameWords "java/lang/System" "arraycopy" 5 + 11 ≤ 56 := by decide +kernel
      show _ ≤ 64 * d
      omega
    · refine k p e s m args below meth c X _ r S' h2 H1 locs1 (hR.put ht ?_ hP1 hD1) hS1 ls hls
      show (Sum.inl (gI G, (S di).length, Sum.inl (va_cpy (fun k => (S si).getD k 0) (fun k => (S di).getD k 0) sp.toNatClampNeg dp.toNatClampNeg n.toNatClampNeg)) : va_E) = Sum.inl (gI G, (cpl (S si) (S di) sp.toNatClampNeg dp.toNatClampNeg n.toNatClampNeg).length, Sum.inl (fun k => (cpl (S si) (S di) sp.toNatClampNeg dp.toNatClampNeg n.toNatClampNeg).getD k 0))
      have e1 : (cpl (S si) (S di) sp.toNatClampNeg dp.toNatClampNeg n.toNatClampNeg).length = (S di).length := by simp [cpl]
      have e2 : va_cpy (fun k => (S si).getD k 0) (fun k => (S di).getD k 0) sp.toNatClampNeg dp.toNatClampNeg n.toNatClampNeg = (fun k => (cpl (S si) (S di) sp.toNatClampNeg dp.toNatClampNeg n.toNatClampNeg).getD k 0) := by
        funext q
        unfold va_cpy cpl
        by_cases hq : q < (S di).length
        · simp [List.getD_eq_getElem?_getD, List.getElem?_map, List.getElem?_range hq]
        · have hq2 : ¬ (dp.toNatClampNeg ≤ q ∧ q < dp.toNatClampNeg + n.toNatClampNeg) := by omega
          rw [if_neg hq2]
          show (S di).getD q 0 = _
          rw [List.getD_eq_getElem?_getD, List.getElem?_eq_none (Nat.not_lt.mp hq), List.getD_eq_getElem?_getD, List.getElem?_eq_none (by simpa using Nat.not_lt.mp hq)]
      rw [e1, e2]
/-- a cell that is one of some -/
theorem s_inL {x : Nat} {os : List Nat} (k : x ∈ os → Sm l G mi d lay ad pc lv st K1) : Sm l G mi d lay ad pc lv st (inL x os K1) := by
  intro p e s m args below meth c X S r S' hK
  unfold inL at hK
  by_cases hx : x ∈ os
  · rw [if_pos hx] at hK
    exact k hx p e s m args below meth c X S r S' hK
  · rw [if_neg hx] at hK
    cases hK
end ST
