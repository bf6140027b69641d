/-! MAKERS with their open cells told as a list -/
def opL : List (Nat × va_E) → Op
  | [] => fun _ => none
  | (i, e) :: t => fun j => if j = i then some e else opL t j
def putL : List (Nat × va_E) → Nat → va_E → List (Nat × va_E)
  | [], i, e => [(i, e)]
  | (j, x) :: t, i, e => if j = i then (i, e) :: t else (j, x) :: putL t i e
def delL : List (Nat × va_E) → Nat → List (Nat × va_E)
  | [], _ => []
  | (j, x) :: t, i => if j = i then delL t i else (j, x) :: delL t i
theorem opL_put : ∀ (L : List (Nat × va_E)) (i : Nat) (e : va_E), upo (opL L) i e = opL (putL L i e)
  | [], i, e => by funext j; simp [upo, opL, putL]
  | (a, x) :: t, i, e => by
    funext j
    by_cases ha : a = i
    · subst ha
      by_cases hj : j = a
      · simp [upo, putL, opL, hj]
      · simp [upo, putL, opL, hj]
    · have ih := congrFun (opL_put t i e) j
      simp only [upo] at ih
      simp only [upo, putL, if_neg ha, opL]
      rw [← ih]
      by_cases hj : j = a
      · have : ¬ j = i := fun q => ha (hj ▸ q)
        simp [hj, ha]
      · by_cases hi : j = i <;> simp [hj, hi]
        intro q
        exact absurd q.symm ha
theorem opL_del : ∀ (L : List (Nat × va_E)) (i : Nat), upn (opL L) i = opL (delL L i)
  | [], i => by funext j; simp [upn, opL, delL]
  | (a, x) :: t, i => by
    funext j
    have ih := congrFun (opL_del t i) j
    simp only [upn] at ih
    by_cases ha : a = i
    · subst ha
      have e1 : delL ((a, x) :: t) a = delL t a := by simp [delL]
      rw [e1, ← ih]
      by_cases hj : j = a <;> simp [upn, opL, hj]
    · simp only [upn, delL, if_neg ha, opL]
      rw [← ih]
      by_cases hj : j = a
      · have : ¬ j = i := fun q => ha (hj ▸ q)
        simp [hj, ha]
      · by_cases hi : j = i <;> simp [hj, hi]
        intro q
        exact absurd q.symm ha
section SK3
variable {l : Launch} {G : Gl} {mi mi2 : Mi} {d d2 mc ms mc2 ms2 n2 : Nat} {lay lay2 : List Sh} {ad : Nat → Nat} {S S2 : Bk} {pc k k' k0 cu su cu' su' idx n ci i f : Nat} {L L' : List (Nat × va_E)} {lv lv' : List (Option Value)} {st As rest fs fs' : List Value} {ty : FieldType} {v : Value}
theorem K_put (hA : Adj ad) (hi : i < k) (ho : opL L i = some (.inr (ci, fs))) (hF : FW (mY mi).cls idx ci f ty) (hn : narrow ty v = v) (hf : fits ty v = true) (hl : f < fs.length) (hd : decode (mC mi) pc = .ok (.putfield idx, 3)) (hs : fs.set f v = fs') (hL : putL L i (.inr (ci, fs')) = L') (kk : Sk l G mi d mc ms lay ad S (pc + 3) k (opL L') cu su lv st) : Sk l G mi d mc ms lay ad S pc k (opL L) cu su lv (v :: .ref (ad i) :: st) :=
  k_put hA hi ho hF hn hf hl hd (by rw [hs, opL_put, hL]; exact kk)
theorem K_putF (hA : Adj ad) (hi : i < k) (ho : opL L i = some (.inr (ci, fs))) (hF : FX (mY mi).cls idx ci f ty) (hn : narrow ty v = v) (hf : fits ty v = true) (hl : f < fs.length) (hd : decode (mC mi) pc = .ok (.putfield idx, 3)) (hs : fs.set f v = fs') (hL : putL L i (.inr (ci, fs')) = L') (kk : Sk l G mi d mc ms lay ad S (pc + 3) k (opL L') cu su lv st) : Sk l G mi d mc ms lay ad S pc k (opL L) cu su lv (v :: .ref (ad i) :: st) :=
  k_putF hA hi ho hF hn hf hl hd (by rw [hs, opL_put, hL]; exact kk)
theorem K_newa {x : Int32} {N : Nat} (hA : Adj ad) (hk : 1 ≤ k) (hn : ¬ x < 0) (hN : x.toNatClampNeg = N) (hb : N * componentBytes .int ≤ 536870912) (hc : cu' ≤ mc ∧ su' ≤ ms) (h1 : cu + 1 = cu') (h2 : su + N = su') (h3 : k + 1 = k') (hd : decode (mC mi) pc = .ok (.newarray .int, 2)) (hL : putL L k (cellE G ad (.inr false) (List.replicate N 0)) = L') (kk : Sk l G mi d mc ms lay ad S (pc + 2) k' (opL L') cu' su' lv (.ref (ad k) :: st)) : Sk l G mi d mc ms lay ad S pc k (opL L) cu su lv (.int x :: st) := by
  subst h1; subst h2; subst h3
  exact k_newa hA hk hn hN hb hc hd (by rw [opL_put, hL]; exact kk)
theorem K_newaF {x : Int32} {N : Nat} (hA : Adj ad) (hk : 1 ≤ k) (hn : ¬ x < 0) (hN : x.toNatClampNeg = N) (hb : N * componentBytes .int ≤ 536870912) (hc : cu' ≤ mc ∧ su' ≤ ms) (h1 : cu + 1 = cu') (h2 : su + N = su') (h3 : k + 1 = k') (hd : decode (mC mi) pc = .ok (.newarray .int, 2)) (hl : lay.getD k (.inr false) = .inr false) (hSk : S k = List.replicate N 0) (ho : opL L k = none) (kk : Sk l G mi d mc ms lay ad S (pc + 2) k' (opL L) cu' su' lv (.ref (ad k) :: st)) : Sk l G mi d mc ms lay ad S pc k (opL L) cu su lv (.int x :: st) := by
  subst h1; subst h2; subst h3
  exact k_newaF hA hk hn hN hb hc hd hl hSk ho kk
theorem K_iast {j w : Int32} {R R' : List Int32} (hA : Adj ad) (hi : i < k) (ho : opL L i = some (cellE G ad (.inr false) R)) (hin : vp_in j R.length) (hd : decode (mC mi) pc = .ok (.iastore, 1)) (hs : R.set j.toNatClampNeg w = R') (hL : putL L i (cellE G ad (.inr false) R') = L') (kk : Sk l G mi d mc ms lay ad S (pc + 1) k (opL L') cu su lv st) : Sk l G mi d mc ms lay ad S pc k (opL L) cu su lv (.int w :: .int j :: .ref (ad i) :: st) :=
  k_iast hA hi ho hin hd (by rw [hs, opL_put, hL]; exact kk)
theorem K_close {R : List Int32} (ho : opL L i = some (cellE G ad (.inr false) R)) (hl : lay.getD i (.inr false) = .inr false) (hS : S i = R) (hL : delL L i = L') (kk : Sk l G mi d mc ms lay ad S pc k (opL L') cu su lv st) : Sk l G mi d mc ms lay ad S pc k (opL L) cu su lv st := by
  refine k_close (i := i) (fun H h => ?_) (by rw [opL_del, hL]; exact kk)
  rw [ho, Option.getD_some] at h
  unfold fin
  rw [hl, hS]
  exact h
theorem K_new {C : String} {T : u_T} {ty0 : Nat → FieldType} {N : Nat} (hA : Adj ad) (hk : 1 ≤ k) (hN : fs.length = N) (hc : cu' ≤ mc ∧ su' ≤ ms) (h1 : cu + 1 = cu') (h2 : su + N = su') (h3 : k + 1 = k') (hcl : Cond.classLink (mY mi).cls idx C ∈ tb) (hins : Cond.instantiable C N ∈ tb) (hini : Cond.initialized C ∈ tb) (hF : CF ci C T N) (hty : ∀ j, j < N → parseFieldDescriptor (T j).2.2.1 = some (ty0 j)) (hdf : ∀ j, j < N → defaultValue (ty0 j) = vp_V fs j) (hd : decode (mC mi) pc = .ok (.new idx, 3)) (hL : putL L k (.inr (ci, fs)) = L') (kk : Sk l G mi d mc ms lay ad S (pc + 3) k' (opL L') cu' su' lv (.ref (ad k) :: st)) : Sk l G mi d mc ms lay ad S pc k (opL L) cu su lv st := by
  subst h1; subst h2; subst h3; subst hN
  exact k_new hA hk hc hcl hins hini ⟨T, hF, ty0, hty, hdf⟩ hd (by rw [opL_put, hL]; exact kk)
theorem K_init (hA : Adj ad) (hB0 : gB G ≤ ad 0) (hk : 1 ≤ k0) (hkk : k = k0 + 1) (ho : opL L k0 = some (.inr (ci, fs))) (hcl : CallsK l G mi mi2 d mc ms d2 mc2 ms2 pc cu su st (ad k0) As rest) (hC : Ck l G mi2 d2 mc2 ms2 lay2 S2 ci fs As) (hs : SubL lay lay2 (fun i => k0 + i)) (hSS : ∀ i, i < lay2.length → S (k0 + i) = S2 i) (hn2 : lay2.length = n2) (hpos : 0 < n2) (hop9 : (L.all fun q => q.1.ble k0) = true) (h1 : cu + mc2 = cu') (h2 : su + ms2 = su') (h3 : k0 + n2 = k') (hL : delL L k0 = L') (kk : Sk l G mi d mc ms lay ad S (pc + 3) k' (opL L') cu' su' lv rest) : Sk l G mi d mc ms lay ad S pc k (opL L) cu su lv st := by
  subst h1; subst h2; subst h3
  have hop : ∀ q ∈ L, q.1 ≤ k0 := fun q hq => Nat.le_of_ble_eq_true (List.all_eq_true.mp hop9 q hq)
  refine k_init hA hB0 hk hkk ho hcl hC hs hSS hn2 hpos (fun i hi => ?_) (by rw [opL_del, hL]; exact kk)
  clear kk hL ho hop9
  induction L with
  | nil => rfl
  | cons q t ih =>
    show (if i = q.1 then some q.2 else opL t i) = none
    have := hop q List.mem_cons_self
    rw [if_neg (by omega)]
    exact ih (fun q hq => hop q (List.mem_cons_of_mem _ hq))
theorem K_anew {N : Nat} {x : Int32} (hA : Adj ad) (hk : 1 ≤ k) (hcl : Cond.classLink (mY mi).cls idx "KnotLaundry$World" ∈ tb) (hn : ¬ x < 0) (hN : x.toNatClampNeg = N) (hb : N * 4 ≤ 536870912) (hc : cu' ≤ mc ∧ su' ≤ ms) (h1 : cu + 1 = cu') (h2 : su + N = su') (h3 : k + 1 = k') (hd : decode (mC mi) pc = .ok (.anewarray idx, 3)) (hL : putL L k (nulls G N (fun _ => none)) = L') (kk : Sk l G mi d mc ms lay ad S (pc + 3) k' (opL L') cu' su' lv (.ref (ad k) :: st)) : Sk l G mi d mc ms lay ad S pc k (opL L) cu su lv (.int x :: st) := by
  subst h1; subst h2; subst h3
  exact k_anew hA hk hcl hn hN hb hc hd (by rw [opL_put, hL]; exact kk)
theorem K_aast {j : Int32} {N x : Nat} {g : Nat → Option Nat} {kw : List (Option Nat)} (hA : Adj ad) (hi : i < k) (ho : opL L i = some (nulls G N g)) (hx : x < k) (hw : opL L x = none) (hlx : lay.getD x (.inr false) = .inl (9, kw)) (hin : vp_in j N) (hd : decode (mC mi) pc = .ok (.aastore, 1)) (hL : putL L i (nulls G N (va_up g j.toNatClampNeg (some (ad x)))) = L') (kk : Sk l G mi d mc ms lay ad S (pc + 1) k (opL L') cu su lv st) : Sk l G mi d mc ms lay ad S pc k (opL L) cu su lv (.ref (ad x) :: .int j :: .ref (ad i) :: st) := by
  intro p e s m args below meth c X hin2 hK hsz H locs hP hS hH ls hls
  have hlt : j.toNatClampNeg < N := vp_in_lt hin
  have h0 : ¬ j < 0 := fun q => hin (Or.inl q)
  have hcx := hP x _ (wc_at hx)
  rw [hw, Option.getD_none] at hcx
  unfold fin at hcx
  rw [hlx] at hcx
  obtain ⟨r', hr', cellV, g1, g2, g3, -⟩ := hcx
  have hcls := (hK.1 9 (RX9, TX9, 19) rfl).2
  obtain ⟨kA, comp, k1, k2, k3, -⟩ := (hK.2 1 (gE G, .object "KnotLaundry$World") rfl).2
  have hcomp : comp = (gD G).1 9 := Option.some.inj (k3.symm.trans hcls.1)
  subst hcomp
  obtain ⟨kC, hkC, -⟩ := hcls.2
  have hcell := hP i _ (wc_op hi ho)
  refine W.aast X.1 X.2.1 (show H[ad i]? = some (vp_cell (gE G) (N, .inr (.inr (.inr (.inr g))))) from hcell) (fun q h => by cases h) (fun h => by cases h) k1 k2 rfl hkC ⟨h0, by rw [vp_cell_q]; show _ < (arrV _ _ _).slots.size; rw [arrV_size]; exact hlt⟩ g1 (fun q h => by rw [g3] at h; cases h) (by rw [g2]; exact hkC) (by rw [g2]; exact va_assign hcls) rfl rfl hd fun H1 e1 z1 o1 => ?_
  rw [← hL, ← opL_put] at kk
  refine kk p e s m args below meth c X hin2 hK hsz H1 _ (wc_upd hA hP hi ?_ o1) (hS.put z1 o1 (hA.AC i)) (by rw [z1]; exact hH) ls hls
  show H1[ad i]? = some (vp_cell (gE G) (N, .inr (.inr (.inr (.inr (va_up g j.toNatClampNeg (some (ad x))))))))
  rw [e1, vp_cell_q, vp_cell_q, arrV_store]
  congr 2
  funext q
  by_cases hq : q = j.toNatClampNeg
  · subst hq
    simp [updV, va_up, va_rf]
  · simp [updV, va_up, hq]
/-- a row of cells that is as it will be -/
theorem K_closeQ {N : Nat} {g : Nat → Option Nat} {R : List Int32} (ho : opL L i = some (nulls G N g)) (hl : lay.getD i (.inr false) = .inr true) (hS : S i = R) (hR : R.length = N) (hg : ∀ q, q < N → g q = some (ad (R.getD q 0).toNatClampNeg)) (hL : delL L i = L') (kk : Sk l G mi d mc ms lay ad S pc k (opL L') cu su lv st) : Sk l G mi d mc ms lay ad S pc k (opL L) cu su lv st := by
  refine k_close (i := i) (fun H h => ?_) (by rw [opL_del, hL]; exact kk)
  rw [ho, Option.getD_some] at h
  unfold fin
  rw [hl, hS]
  have h : H[ad i]? = some (vp_cell (gE G) (N, .inr (.inr (.inr (.inr g))))) := h
  show H[ad i]? = some (vp_cell (gE G) (R.length, .inr (.inr (.inr (.inr (fun k => some (ad (R.getD k 0).toNatClampNeg)))))))
  rw [h, vp_cell_q, vp_cell_q, hR]
  unfold arrV
  congr 3
  funext q
  show va_rf (g q.val) = va_rf _
  rw [hg q.val q.isLt]
/-- the end of a maker -/
theorem K_ret (hr : mR mi = none) (hk : k = lay.length) {e0 : va_E} (h0 : e0 = fin G lay ad S 0) (hd : decode (mC mi) pc = .ok (.return_, 1)) : Sk l G mi d mc ms lay ad S pc k (opL [(0, e0)]) mc ms lv [] := by
  refine k_ret hr hk (fun i hi H h => ?_) hd
  by_cases hi0 : i = 0
  · subst hi0
    simp only [opL, if_pos rfl, Option.getD_some] at h
    rw [← h0]; exact h
  · simp only [opL, if_neg hi0, Option.getD_none] at h
    exact h
theorem opL_one (e : va_E) : upo (fun _ => none) 0 e = opL [(0, e)] := rfl
end SK3
