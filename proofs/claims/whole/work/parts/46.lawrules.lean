/-! THE LAW's own frame: the rules once more (its room, its end); its script -/
def R_law : String := "KnotLaundryLaw"
abbrev mLaw : Mi := (⟨"KnotLaundryLaw", "law", "([I)Z"⟩, code, 4, some .boolean)
def lw_P (b : Addr) (xs : List Int32) (args : Array Value) (s : State) : Prop := args = #[.ref b] ∧ s.IntsAt b xs ∧ xs.length ≤ 3072 ∧ (Jvm.Cond.and given_1 narrow_1).before args s = true
def lw_Q (_ : Array Value) (s : State) (o : Outcome) (t : State) : Prop := o = .returned (some (.int 1)) ∧ Framed s o t [] 600000 7302250
def lw_Z (below : List Frame) (a : Array Value) (s : State) : State → Prop := fun t => ∃ o, t.status = .running ∧ Ended t below o ∧ lw_Q a s o t
/-- the law's own end, with 1 on the stack (the skeleton's row) -/
theorem lw_ret {p : Program} {l : Launch} {e : Env} {s : State} {m : MethodId} {below : List Frame} {meth : Method} {c : Code} {b : Nat} (hx : p.tables.exec = Jvm.exec) (hb : c.code = code) (hr : meth.sig.returnType = ret) (hlocks : meth.locks = false) {pc : Nat} {H : Heap} {ls : Array Slot} (hdg : decode code pc = .ok (.ireturn, 1)) : W p l e room_1 s m #[Value.ref b] below meth c H [] 600000 7302250 (lw_Z below #[Value.ref b] s) (F0 m pc ls [.int 1]) := by
  intro T hT X
  obtain ⟨fs, hret, hrun, hended, hW, hframe⟩ := X.leave (v := some (.int 1)) (hlocks := hlocks) (fun h => by rw [hr] at h; cases h)
  have hmeth' : T.vm.method? m = some meth := X.method'
  refine ⟨T.setFrames fs, ?_, .returned (some (.int 1)), hrun, hended, rfl, ⟨_, rfl⟩, hW, hframe⟩
  jvm_step X.here [X.here.top, hx, hb, hdg, hmeth', hr, ret, narrow_b1]
  (try refine ⟨rfl, ?_⟩); (try refine ⟨rfl, ?_⟩)
  first | (intro acts; rw [hret _ acts rfl rfl rfl]) | rw [hret _ _ rfl rfl rfl]
  exact Steps.refl _
/-- the law's frame, and its script -/
def CxL (G : Gl) (b L : Nat) (xs : Nat → Int32) (p : Program) (s : State) (m : MethodId) (args : Array Value) (meth : Method) (c : Code) : Prop :=
  Cx G mLaw p s m args meth c ∧ va_X b L xs s s.heap ∧ b < s.heap.size ∧ args = #[Value.ref b] ∧ gB G = s.heap.size
def Sl (l : Launch) (G : Gl) (b L : Nat) (xs : Nat → Int32) (cl sl : Nat) (lay : List Sh) (ad : Nat → Nat) (pc : Nat) (lv : List (Option Value)) (st : List Value) (K : MM Int32) : Prop :=
  ∀ (p : Program) (e : Env) (s : State) (m : MethodId) (args : Array Value) (below : List Frame) (meth : Method) (c : Code), CxL G b L xs p s m args meth c →
    ∀ (S : Bk) (r : Int32) (S' : Bk), K S = some (r, S') → ∀ (H : Heap) (locs : List Loc), Rl G lay ad S s H → va_S (Aof lay ad) s.heap H locs → ∀ ls : Array Slot, Lh ls 4 lv →
      W p l e room_1 s m args below meth c H locs cl sl (lw_Z below args s) (F0 m pc ls st)
section WA
variable {l : Launch} {G : Gl} {b L : Nat} {xs : Nat → Int32} {cl sl : Nat} {lay : List Sh} {ad : Nat → Nat} {pc : Nat} {lv lv' : List (Option Value)} {st : List Value} {K : MM Int32} {lf' : Int32 → List (Option Value)} {kk : Int32 → MM Int32}

theorem w_weak (h : mask lv' lv = lv') (k : Sl l G b L xs cl sl lay ad pc lv' st K) : Sl l G b L xs cl sl lay ad pc lv st K :=
  fun p e s m args below meth c X S r S' hK H locs hR hS ls hl => k p e s m args below meth c X S r S' hK H locs hR hS ls ⟨hl.1, hl.2.1, fun i v hi => hl.2.2 i v (mask_get h hi)⟩

theorem w_pure {pc' : Nat} {st' : List Value} (h : ∀ (p : Program) (e : Env) (s : State) (m : MethodId) (args : Array Value) (below : List Frame) (meth : Method) (c : Code), CxL G b L xs p s m args meth c → ∀ (H : Heap) (locs : List Loc) (Q : State → Prop) (ls : Array Slot), Lh ls 4 lv →
      (∀ ls', Lh ls' 4 lv' → W p l e room_1 s m args below meth c H locs cl sl Q (F0 m pc' ls' st')) → W p l e room_1 s m args below meth c H locs cl sl Q (F0 m pc ls st)) (k : Sl l G b L xs cl sl lay ad pc' lv' st' K) : Sl l G b L xs cl sl lay ad pc lv st K :=
  fun p e s m args below meth c X S r S' hK H locs hR hS ls hl => h p e s m args below meth c X H locs _ ls hl (fun ls' hl' => k p e s m args below meth c X S r S' hK H locs hR hS ls' hl')

theorem w_iconst {n : Int} {v : Int32} (hd : decode code pc = .ok (.iconst n, 1)) (hv : Int32.ofInt n = v) (k : Sl l G b L xs cl sl lay ad (pc + 1) lv (.int v :: st) K) : Sl l G b L xs cl sl lay ad pc lv st K :=
  w_pure (fun p e s m args below meth c X H locs Q ls hl kk => lv_iconst X.1.1 X.1.2.1 hd hv (kk ls hl)) k

theorem w_bipush {n : Int} {v : Int32} (hd : decode code pc = .ok (.bipush n, 2)) (hv : (Int8.ofInt n).toInt32 = v) (k : Sl l G b L xs cl sl lay ad (pc + 2) lv (.int v :: st) K) : Sl l G b L xs cl sl lay ad pc lv st K :=
  w_pure (fun p e s m args below meth c X H locs Q ls hl kk => lv_bipush X.1.1 X.1.2.1 hd hv (kk ls hl)) k

theorem w_iload_n {k4 : Fin 4} {i : Nat} {x : Int32} (hd : decode code pc = .ok (.iload_n k4, 1)) (hi : (k4 : Nat) = i) (hx : lv[i]? = some (some (.int x))) (k : Sl l G b L xs cl sl lay ad (pc + 1) lv (.int x :: st) K) : Sl l G b L xs cl sl lay ad pc lv st K :=
  w_pure (fun p e s m args below meth c X H locs Q ls hl kk => lv_iload_n X.1.1 X.1.2.1 hd hi (hl.get hx) (kk ls hl)) k

theorem w_aload_n {k4 : Fin 4} {i : Nat} {x : Nat} (hd : decode code pc = .ok (.aload_n k4, 1)) (hi : (k4 : Nat) = i) (hx : lv[i]? = some (some (.ref x))) (k : Sl l G b L xs cl sl lay ad (pc + 1) lv (.ref x :: st) K) : Sl l G b L xs cl sl lay ad pc lv st K :=
  w_pure (fun p e s m args below meth c X H locs Q ls hl kk => lv_aload_n X.1.1 X.1.2.1 hd hi (hl.get hx) (kk ls hl)) k

theorem w_istore_n {k4 : Fin 4} {i : Nat} {x : Int32} (hd : decode code pc = .ok (.istore_n k4, 1)) (hi : (k4 : Nat) = i) (hn : i < 4) (hs : lv.set i (some (.int x)) = lv') (k : Sl l G b L xs cl sl lay ad (pc + 1) lv' st K) : Sl l G b L xs cl sl lay ad pc lv (.int x :: st) K :=
  w_pure (fun p e s m args below meth c X H locs Q ls hl kk => lv_istore_n X.1.1 X.1.2.1 hd hi hl.hal hn rfl (fun ls' hl' => kk ls' (hs ▸ hl.store rfl hl'))) k

theorem w_iinc {i : Nat} {n : Int} {x v : Int32} (hd : decode code pc = .ok (.iinc i n, 3)) (hx : lv[i]? = some (some (.int x))) (hv : x + Int32.ofInt n = v) (hn : i < 4) (hs : lv.set i (some (.int v)) = lv') (k : Sl l G b L xs cl sl lay ad (pc + 3) lv' st K) : Sl l G b L xs cl sl lay ad pc lv st K := by
  refine w_pure (fun p e s m args below meth c X H locs Q ls hl kk => ?_) k
  have hm : (i, Value.int x) ∈ al 0 lv := (al_mem lv 0 i _).mpr ⟨i, by omega, hx⟩
  obtain ⟨j, hj⟩ := List.getElem?_of_mem hm
  exact lv_iinc X.1.1 X.1.2.1 hd hl.hal hj hv hn rfl (fun ls' hl' => kk ls' (hs ▸ hl.store rfl hl'))

theorem w_iadd {x y : Int32} (hd : decode code pc = .ok (.iadd, 1)) (k : Sl l G b L xs cl sl lay ad (pc + 1) lv (.int (x + y) :: st) K) : Sl l G b L xs cl sl lay ad pc lv (.int y :: .int x :: st) K :=
  w_pure (fun p e s m args below meth c X H locs Q ls hl kk => lv_iadd X.1.1 X.1.2.1 hd (kk ls hl)) k

theorem w_isub {x y : Int32} (hd : decode code pc = .ok (.isub, 1)) (k : Sl l G b L xs cl sl lay ad (pc + 1) lv (.int (x - y) :: st) K) : Sl l G b L xs cl sl lay ad pc lv (.int y :: .int x :: st) K :=
  w_pure (fun p e s m args below meth c X H locs Q ls hl kk => lv_isub X.1.1 X.1.2.1 hd (kk ls hl)) k

theorem w_iand {x y : Int32} (hd : decode code pc = .ok (.iand, 1)) (k : Sl l G b L xs cl sl lay ad (pc + 1) lv (.int (x &&& y) :: st) K) : Sl l G b L xs cl sl lay ad pc lv (.int y :: .int x :: st) K :=
  w_pure (fun p e s m args below meth c X H locs Q ls hl kk => lv_iand X.1.1 X.1.2.1 hd (kk ls hl)) k

theorem w_goto {off : Int} {tgt : Nat} (hd : decode code pc = .ok (.goto off, 3)) (ht : (pc : Int) + off = (tgt : Int)) (k : Sl l G b L xs cl sl lay ad tgt lv st K) : Sl l G b L xs cl sl lay ad pc lv st K :=
  w_pure (fun p e s m args below meth c X H locs Q ls hl kk => lv_goto X.1.1 X.1.2.1 hd ht (kk ls hl)) k

theorem w_lt {e : Int32} {k : Int32 → MM Int32} (h : Sl l G b L xs cl sl lay ad pc lv st (k e)) : Sl l G b L xs cl sl lay ad pc lv st (lt e k) := h

theorem w_jn {α : Type} {J : α → MM Int32} {B : (α → MM Int32) → MM Int32} (pj : Nat) (lj : α → List (Option Value)) (sj : α → List Value) (hJ : ∀ a, Sl l G b L xs cl sl lay ad pj (lj a) (sj a) (J a)) (hB : ∀ j : α → MM Int32, (∀ a, Sl l G b L xs cl sl lay ad pj (lj a) (sj a) (j a)) → Sl l G b L xs cl sl lay ad pc lv st (B j)) : Sl l G b L xs cl sl lay ad pc lv st (jn J B) := hB J hJ

theorem w_fl : Sl l G b L xs cl sl lay ad pc lv st fl := fun p e s m args below meth c X S r S' hK => by cases hK

theorem w_loop {σ : Type} {F : (σ → MM Int32) → σ → MM Int32} (lj : σ → List (Option Value)) (sj : List Value) (hF : ∀ self : σ → MM Int32, (∀ x, Sl l G b L xs cl sl lay ad pc (lj x) sj (self x)) → ∀ x, Sl l G b L xs cl sl lay ad pc (lj x) sj (F self x)) : ∀ (n : Nat) (x : σ), Sl l G b L xs cl sl lay ad pc (lj x) sj (loopC n F x)
  | 0, x => w_fl
  | n + 1, x => hF (loopC n F) (w_loop lj sj hF n) x

theorem w_istore_nL {k4 : Fin 4} {i : Nat} {x : Int32} (hd : decode code pc = .ok (.istore_n k4, 1)) (hi : (k4 : Nat) = i) (hn : i < 4) (hs : ∀ y : Int32, lv.set i (some (.int y)) = lf' y) (k : ∀ y : Int32, Sl l G b L xs cl sl lay ad (pc + 1) (lf' y) st (kk y)) : Sl l G b L xs cl sl lay ad pc lv (.int x :: st) (lt x kk) := w_istore_n hd hi hn (hs x) (k x)

theorem w_iincL {i : Nat} {n : Int} {x v : Int32} (hd : decode code pc = .ok (.iinc i n, 3)) (hx : lv[i]? = some (some (.int x))) (hv : x + Int32.ofInt n = v) (hn : i < 4) (hs : ∀ y : Int32, lv.set i (some (.int y)) = lf' y) (k : ∀ y : Int32, Sl l G b L xs cl sl lay ad (pc + 3) (lf' y) st (kk y)) : Sl l G b L xs cl sl lay ad pc lv st (lt v kk) := w_iinc hd hx hv hn (hs v) (k v)

theorem w_wk (k : Sl l G b L xs cl sl lay ad pc lv' st K) (h : mask lv' lv = lv') : Sl l G b L xs cl sl lay ad pc lv st K := w_weak h k

end WA
section WB
variable {l : Launch} {G : Gl} {b L : Nat} {xs : Nat → Int32} {cl sl : Nat} {lay : List Sh} {ad : Nat → Nat} {pc : Nat} {lv : List (Option Value)} {st : List Value} {K1 K2 : MM Int32} {off : Int} {tgt : Nat} {x y : Int32}

theorem w_icmp_eq (hd : decode code pc = .ok (.if_icmp .eq off, 3)) (ht : (pc : Int) + off = (tgt : Int)) (k1 : Sl l G b L xs cl sl lay ad tgt lv st K1) (k2 : Sl l G b L xs cl sl lay ad (pc + 3) lv st K2) : Sl l G b L xs cl sl lay ad pc lv (.int y :: .int x :: st) (if x = y then K1 else K2) :=
  fun p e s m args below meth c X S r S' hK H locs hR hS ls hl => lv_icmp_eq X.1.1 X.1.2.1 hd ht (fun h => k1 p e s m args below meth c X S r S' (by rw [if_pos h] at hK; exact hK) H locs hR hS ls hl) (fun h => k2 p e s m args below meth c X S r S' (by rw [if_neg h] at hK; exact hK) H locs hR hS ls hl)

theorem w_icmp_ne (hd : decode code pc = .ok (.if_icmp .ne off, 3)) (ht : (pc : Int) + off = (tgt : Int)) (k1 : Sl l G b L xs cl sl lay ad (pc + 3) lv st K1) (k2 : Sl l G b L xs cl sl lay ad tgt lv st K2) : Sl l G b L xs cl sl lay ad pc lv (.int y :: .int x :: st) (if x = y then K1 else K2) :=
  fun p e s m args below meth c X S r S' hK H locs hR hS ls hl => lv_icmp_ne X.1.1 X.1.2.1 hd ht (fun h => k2 p e s m args below meth c X S r S' (by rw [if_neg h] at hK; exact hK) H locs hR hS ls hl) (fun h => k1 p e s m args below meth c X S r S' (by rw [if_pos h] at hK; exact hK) H locs hR hS ls hl)

theorem w_icmp_gt (hd : decode code pc = .ok (.if_icmp .gt off, 3)) (ht : (pc : Int) + off = (tgt : Int)) (k1 : Sl l G b L xs cl sl lay ad tgt lv st K1) (k2 : Sl l G b L xs cl sl lay ad (pc + 3) lv st K2) : Sl l G b L xs cl sl lay ad pc lv (.int y :: .int x :: st) (if y < x then K1 else K2) :=
  fun p e s m args below meth c X S r S' hK H locs hR hS ls hl => lv_icmp_gt X.1.1 X.1.2.1 hd ht (fun h => k1 p e s m args below meth c X S r S' (by rw [if_pos h] at hK; exact hK) H locs hR hS ls hl) (fun h => k2 p e s m args below meth c X S r S' (by rw [if_neg h] at hK; exact hK) H locs hR hS ls hl)

theorem w_if_eq (hd : decode code pc = .ok (.ifCond .eq off, 3)) (ht : (pc : Int) + off = (tgt : Int)) (k1 : Sl l G b L xs cl sl lay ad tgt lv st K1) (k2 : Sl l G b L xs cl sl lay ad (pc + 3) lv st K2) : Sl l G b L xs cl sl lay ad pc lv (.int x :: st) (if x = 0 then K1 else K2) :=
  fun p e s m args below meth c X S r S' hK H locs hR hS ls hl => lv_if_eq X.1.1 X.1.2.1 hd ht (fun h => k1 p e s m args below meth c X S r S' (by rw [if_pos h] at hK; exact hK) H locs hR hS ls hl) (fun h => k2 p e s m args below meth c X S r S' (by rw [if_neg h] at hK; exact hK) H locs hR hS ls hl)

theorem w_if_ne (hd : decode code pc = .ok (.ifCond .ne off, 3)) (ht : (pc : Int) + off = (tgt : Int)) (k1 : Sl l G b L xs cl sl lay ad (pc + 3) lv st K1) (k2 : Sl l G b L xs cl sl lay ad tgt lv st K2) : Sl l G b L xs cl sl lay ad pc lv (.int x :: st) (if x = 0 then K1 else K2) :=
  fun p e s m args below meth c X S r S' hK H locs hR hS ls hl => lv_if_ne X.1.1 X.1.2.1 hd ht (fun h => k2 p e s m args below meth c X S r S' (by rw [if_neg h] at hK; exact hK) H locs hR hS ls hl) (fun h => k1 p e s m args below meth c X S r S' (by rw [if_pos h] at hK; exact hK) H locs hR hS ls hl)

/-- the ways of a switch, each at its place -/
def WayL (l : Launch) (G : Gl) (b L : Nat) (xs : Nat → Int32) (cl sl : Nat) (lay : List Sh) (ad : Nat → Nat) (lv : List (Option Value)) (st : List Value) (pc : Nat) : List Int → List (MM Int32) → Prop
  | [], [] => True
  | o :: os, K :: Ks => (∃ t : Nat, (pc : Int) + o = (t : Int) ∧ Sl l G b L xs cl sl lay ad t lv st K) ∧ WayL l G b L xs cl sl lay ad lv st pc os Ks
  | _, _ => False
theorem wayL_at : ∀ {os : List Int} {Ks : List (MM Int32)}, WayL l G b L xs cl sl lay ad lv st pc os Ks → os.length = Ks.length ∧ ∀ (i : Nat) (K : MM Int32), Ks[i]? = some K → ∃ (o : Int) (t : Nat), os[i]? = some o ∧ (pc : Int) + o = (t : Int) ∧ Sl l G b L xs cl sl lay ad t lv st K
  | [], [], _ => ⟨rfl, fun i K h => by simp at h⟩
  | [], _ :: _, h => by cases h
  | _ :: _, [], h => by cases h
  | o :: os, K :: Ks, ⟨⟨t, h1, h2⟩, h3⟩ => by
    obtain ⟨e, f⟩ := wayL_at h3
    refine ⟨by simp [e], fun i K' hK => ?_⟩
    cases i with
    | zero => simp at hK; subst hK; exact ⟨o, t, rfl, h1, h2⟩
    | succ i =>
      obtain ⟨o', t', g1, g2⟩ := f i K' (by simpa using hK)
      exact ⟨o', t', by simpa using g1, g2⟩
theorem w_table {dflt lo hi : Int} {offs : List Int} {len : Nat} {Ks : List (MM Int32)} {Kd : MM Int32} (hd : decode code pc = .ok (.tableswitch dflt lo hi offs.toArray, len)) (hn : lo + offs.length = hi + 1) (ht : (pc : Int) + dflt = (tgt : Int)) (kd : Sl l G b L xs cl sl lay ad tgt lv st Kd) (ks : WayL l G b L xs cl sl lay ad lv st pc offs Ks) : Sl l G b L xs cl sl lay ad pc lv (.int x :: st) (swt x lo Ks Kd) := by
  intro p e s m args below meth c X S r S' hK H locs hR hS ls hl
  obtain ⟨el, f⟩ := wayL_at ks
  unfold swt at hK
  by_cases h1 : x.toInt < lo
  · rw [if_pos h1] at hK
    exact lv_tableOut X.1.1 X.1.2.1 hd (Or.inl h1) ht (kd p e s m args below meth c X S r S' hK H locs hR hS ls hl)
  · rw [if_neg h1] at hK
    by_cases h2 : hi < x.toInt
    · rw [List.getD_eq_getElem?_getD, List.getElem?_eq_none (by omega), Option.getD_none] at hK
      exact lv_tableOut X.1.1 X.1.2.1 hd (Or.inr h2) ht (kd p e s m args below meth c X S r S' hK H locs hR hS ls hl)
    · have hlt : (x.toInt - lo).toNat < Ks.length := by omega
      obtain ⟨o, t, g1, g2, g3⟩ := f (x.toInt - lo).toNat _ (List.getElem?_eq_getElem hlt)
      rw [List.getD_eq_getElem?_getD, List.getElem?_eq_getElem hlt, Option.getD_some] at hK
      exact lv_tableIn X.1.1 X.1.2.1 hd h1 h2 (by simpa using g1) g2 (g3 p e s m args below meth c X S r S' hK H locs hR hS ls hl)

end WB
