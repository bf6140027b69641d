/-! THE LAW: its calls, its script, its end -/
def SubC (G : Gl) (ad : Nat → Nat) (lay lay2 : List Sh) (ρ : Nat → Nat) : Prop := (∀ i sh, lay2[i]? = some sh → ∃ sh', lay[ρ i]? = some sh' ∧ ∀ l, cellE G ad sh' l = cellE G (fun i => ad (ρ i)) sh l) ∧ ∀ i j, i < lay2.length → j < lay2.length → ρ i = ρ j → i = j
theorem subC_of {G : Gl} {ad : Nat → Nat} {lay lay2 : List Sh} {ρ : Nat → Nat} (h : SubL lay lay2 ρ) : SubC G ad lay lay2 ρ := ⟨fun i sh hs => ⟨_, (h.1 i sh hs).2, fun l => cell_ren (h.1 i sh hs).1 l⟩, h.2⟩
def rKL : Nat → Nat := fun i => i
def rMo : Nat → Nat := fun i => 211 + i
theorem lay_All_KL : ∀ i, i < 211 → lay_All[i]? = lay_KL[i]? := by decide +kernel
theorem subC_KL (G : Gl) (ad : Nat → Nat) : SubC G ad lay_All lay_KL rKL := by
  refine ⟨fun i sh hs => ⟨sh, ?_, fun l => rfl⟩, fun i j _ _ h => h⟩
  have hi : i < 211 := (List.getElem?_eq_some_iff.mp hs).1
  show lay_All[i]? = some sh
  rw [lay_All_KL i hi, hs]
theorem subL_Mo : SubL lay_All lay_Mo rMo := subL_of (by decide +kernel)
section LC
variable {l : Launch} {G : Gl} {b L : Nat} {xs : Nat → Int32} {cl sl : Nat} {lay lay2 : List Sh} {ad ρ : Nat → Nat} {pc : Nat} {lv : List (Option Value)} {st : List Value} {S S2 : Bk} {s t U : State} {H H1 : Heap}
theorem Rl.cutC (hs : SubC G ad lay lay2 ρ) (h : Rl G lay ad S U H) : Rl G lay2 (fun i => ad (ρ i)) (fun i => S (ρ i)) U H := by
  refine ⟨fun k q hk => ?_, ⟨fun i j x y hx hy hxy => ?_, fun k q hk => ?_⟩, h.2.2⟩
  · obtain ⟨sh, h1, rfl⟩ := ws_of hk
    obtain ⟨sh', g1, g2⟩ := hs.1 k sh h1
    have h2 := h.1 (ρ k) _ (ws_at g1)
    rw [g2] at h2
    exact h2
  · obtain ⟨sx, h1, rfl⟩ := ws_of hx
    obtain ⟨sy, h2, rfl⟩ := ws_of hy
    obtain ⟨s1, g1, -⟩ := hs.1 i sx h1
    obtain ⟨s2, g2, -⟩ := hs.1 j sy h2
    exact hs.2 i j (List.getElem?_eq_some_iff.mp h1).1 (List.getElem?_eq_some_iff.mp h2).1 (h.inj (List.getElem?_eq_some_iff.mp g1).1 (List.getElem?_eq_some_iff.mp g2).1 hxy)
  · obtain ⟨sh, h1, rfl⟩ := ws_of hk
    obtain ⟨sh', g1, g2⟩ := hs.1 k sh h1
    exact h.2.1.2 (ρ k) (ad (ρ k), cellE G ad sh' (S (ρ k))) (ws_at g1)
theorem aof_cutC (hs : SubC G ad lay lay2 ρ) {q : Nat} (h : Aof lay2 (fun i => ad (ρ i)) q) : Aof lay ad q := by
  obtain ⟨i, hi, rfl⟩ := h
  obtain ⟨sh', g1, -⟩ := hs.1 i _ (List.getElem?_eq_getElem hi)
  exact ⟨ρ i, (List.getElem?_eq_some_iff.mp g1).1, rfl⟩
theorem Rl.backC (hs : SubC G ad lay lay2 ρ) (h : Rl G lay ad S s H) (h2 : Rl G lay2 (fun i => ad (ρ i)) S2 t H1) (hk : ∀ q : Nat, q < H.size → ¬ Aof lay2 (fun i => ad (ρ i)) q → H1[q]? = H[q]?) : Rl G lay ad (pu ρ lay2.length S2 S) s H1 := by
  refine ⟨fun k q hq => ?_, ⟨fun i j x y hx hy hxy => ?_, fun k q hq => ?_⟩, h.2.2⟩
  · obtain ⟨sh, e1, rfl⟩ := ws_of hq
    cases hi : ixo ρ lay2.length k with
    | some i =>
      obtain ⟨i1, i2⟩ := ixo_some hi
      have e2 := List.getElem?_eq_getElem i1
      obtain ⟨sh', n2, n1⟩ := hs.1 i _ e2
      have e3 := h2.1 i _ (ws_at e2)
      rw [i2] at n2
      have e4 : sh = sh' := Option.some.inj (e1.symm.trans n2)
      have e5 : pu ρ lay2.length S2 S k = S2 i := by unfold pu; rw [hi]
      rw [e4, e5, n1, ← i2]
      exact e3
    | none =>
      have e5 : pu ρ lay2.length S2 S k = S k := by unfold pu; rw [hi]
      rw [e5]
      have e3 := h.1 k _ (ws_at e1)
      refine e3.kept (hk _ e3.lt (fun z => ?_))
      obtain ⟨i, z1, z2⟩ := z
      have e2 := List.getElem?_eq_getElem z1
      obtain ⟨sh', n2, n1⟩ := hs.1 i _ e2
      have := h.inj (List.getElem?_eq_some_iff.mp n2).1 (List.getElem?_eq_some_iff.mp e1).1 z2
      exact ixo_none hi i z1 this
  · obtain ⟨sx, e1, rfl⟩ := ws_of hx
    obtain ⟨sy, e2, rfl⟩ := ws_of hy
    exact h.inj (List.getElem?_eq_some_iff.mp e1).1 (List.getElem?_eq_some_iff.mp e2).1 hxy
  · obtain ⟨sh, e1, rfl⟩ := ws_of hq
    exact h.2.1.2 k (ad k, cellE G ad sh (S k)) (ws_at e1)
theorem w_call {mi2 : Mi} {d2 n n2 idx o ci : Nat} {ty : FieldType} {As rest : List Value} {ks : List (Option Nat)} {g : MM Int32} {K : Int32 → MM Int32} (hs : SubC G ad lay lay2 ρ) (ho : ρ 0 = o) (hd : decode code pc = .ok (.invokevirtual idx, 3)) (hO : MOk mi2 n) (hV : MVk mi2) (hl : Cond.methodLink R_law idx (mY mi2) ∈ tb) (hdep : d2 ≤ 100 ∧ mL mi2 ≤ 45) (hcs : cl ≤ 600000 ∧ sl ≤ 7302250) (hn : As.length = n) (hst : st = As.reverse ++ .ref (ad o) :: rest) (hcat : (rest.map fun v => v.category).sum ≤ 8) (hr : lay[o]? = some (.inl (ci, ks))) (hc : (classes[ci]?).map (fun q => q.1) = some (mY mi2).cls) (hC : Cn l G mi2 d2 lay2 (fun i => ad (ρ i)) (.ref (ad (ρ 0)) :: As) g) (hret : mR mi2 = some ty) (hn2 : lay2.length = n2) (kk : ∀ r : Int32, Sl l G b L xs cl sl lay ad (pc + 3) lv (.int r :: rest) (K r)) : Sl l G b L xs cl sl lay ad pc lv st (bd (lf ρ n2 g) K) := by
  intro p e s m args below meth c X S r S' hK H locs hR hS ls hls
  obtain ⟨v, S1, h1, h2⟩ := bd_inv hK
  obtain ⟨S2, h3, rfl⟩ := lf_inv h1
  subst hn2
  have hM := hC _ v S2 h3
  rw [Qr_i hret, ho] at hM
  obtain ⟨q, hq1, hq2⟩ : ∃ q, classes[ci]? = some q ∧ q.1 = (mY mi2).cls := by
    cases hq : classes[ci]? with
    | none => rw [hq] at hc; cases hc
    | some q => rw [hq] at hc; exact ⟨q, rfl, Option.some.inj hc⟩
  have hrecv := va_recv hR.2.2 hR.1 hq1 (ws_at hr)
  rw [hq2] at hrecv
  have hts := X.1.2.2.2.2.2.2.1
  have hcb : CallB room_1 s args R_law idx (mY mi2) (mC mi2) (mL mi2) (mR mi2) (Cond.code (mY mi2) (mC mi2) (mL mi2) (mR mi2) :: tb) (Rm d2) 0 0 n :=
    ⟨rfl, rfl, (by show d2 + 1 ≤ 2048; omega), (by show 8 + (mL mi2 + 11) + 64 * d2 ≤ 84000; omega), mo_ws hO hts, List.mem_cons_self, hts _ hO.1, hts _ hO.2.1, hO.2.2.1, mo_len hO, hts _ hl⟩
  refine va_calli (va_runV (C := (mY mi2).cls) (As := As) (rest := rest) ⟨X.1.1, X.1.2.1, X.1.2.2.1, X.1.2.2.2.2.2.1, hts⟩ hM ⟨hcb, hts _ hV.1, hts _ hV.2⟩ ⟨pc_blind, hrecv, fun U hU hW => ⟨rfl, by rw [hU]; exact (hR.cutC hs).moved hW.alike, by rw [hU]; exact gS_at X.1.2.2.2.2.2.2.2 hR hS hW⟩⟩ rfl hn hls.1 hst (lv_room hcat) hd ⟨hcs.1, hcs.2⟩) hS (fun _ _ h => aof_cutC hs h) (fun _ h => aof_cutC hs h) (fun r1 u t H1 locs1 ht hvm hw hB hz hk hS1 => ?_)
  obtain ⟨rfl, rfl⟩ := hw
  have hB : Rl G lay2 (fun i => ad (ρ i)) u t t.heap := hB
  rw [ht] at hB
  exact kk r1 p e s m args below meth c X _ r S' h2 H1 locs1 (hR.backC hs hB hk) hS1 ls hls
/-- the script -/
def lx (L : Nat) (xs : Nat → Int32) (j : Int32) : MM Int32 := fun S => if j < 0 ∨ L ≤ j.toNatClampNeg then none else some (xs j.toNatClampNeg, S)
theorem w_xld {j : Int32} {K : Int32 → MM Int32} (hd : decode code pc = .ok (.iaload, 1)) (kk : ∀ v : Int32, Sl l G b L xs cl sl lay ad (pc + 1) lv (.int v :: st) (K v)) : Sl l G b L xs cl sl lay ad pc lv (.int j :: .ref b :: st) (bd (lx L xs j) K) := by
  intro p e s m args below meth c X S r S' hK H locs hR hS ls hls
  obtain ⟨v, S1, h1, h2⟩ := bd_inv hK
  unfold lx at h1
  by_cases hj : j < 0 ∨ L ≤ j.toNatClampNeg
  · rw [if_pos hj] at h1; cases h1
  · rw [if_neg hj] at h1
    cases h1
    exact va_sld X.1.1 X.1.2.1 X.2.1 X.2.2.1 (fun z => by have := hR.base z; have := X.2.2.1; have := X.2.2.2.2; omega) hS hj hd (kk _ p e s m args below meth c X S r S' h2 H locs hR hS ls hls)
theorem w_xlen {K : MM Int32} (hd : decode code pc = .ok (.arraylength, 1)) (kk : Sl l G b L xs cl sl lay ad (pc + 1) lv (.int (Int32.ofNat L) :: st) K) : Sl l G b L xs cl sl lay ad pc lv (.ref b :: st) K := by
  intro p e s m args below meth c X S r S' hK H locs hR hS ls hls
  exact va_slen X.1.1 X.1.2.1 X.2.1 X.2.2.1 (fun z => by have := hR.base z; have := X.2.2.1; have := X.2.2.2.2; omega) hS hd (kk p e s m args below meth c X S r S' hK H locs hR hS ls hls)
theorem w_ret1 (hcs : cl ≤ 600000 ∧ sl ≤ 7302250) (hd : decode code pc = .ok (.ireturn, 1)) : Sl l G b L xs cl sl lay ad pc lv [.int 1] (pr 1) := by
  intro p e s m args below meth c X S r S' hK H locs hR hS ls hls
  obtain ⟨hx, hX, hbl, rfl, hgb⟩ := X
  refine va_forget (fun q hq => by have := hR.base (hS.2.2 q hq); omega) ?_
  refine W.widen (k := 600000) (n := 7302250) hcs.1 hcs.2 ?_
  exact lw_ret hx.1 hx.2.1 hx.2.2.2.1 hx.2.2.2.2.1 hd
end LC
