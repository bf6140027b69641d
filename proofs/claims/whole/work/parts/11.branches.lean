/-! STEPS that branch, read and write cells, return, call -/
theorem ld_inv {i k : Nat} {S S1 : Bk} {v : Int32} (h : ld i k S = some (v, S1)) : k < (S i).length ∧ v = (S i).getD k 0 ∧ S1 = S := by
  unfold ld at h
  by_cases hk : k < (S i).length
  · rw [if_pos hk] at h; cases h; exact ⟨hk, rfl, rfl⟩
  · rw [if_neg hk] at h; cases h
theorem sv_inv {i k : Nat} {S S1 : Bk} {v : Int32} {u : Unit} (h : sv i k v S = some (u, S1)) : k < (S i).length ∧ S1 = up S i ((S i).set k v) := by
  unfold sv at h
  by_cases hk : k < (S i).length
  · rw [if_pos hk] at h; cases h; exact ⟨hk, rfl⟩
  · rw [if_neg hk] at h; cases h
theorem la_inv {i : Nat} {j : Int32} {S S1 : Bk} {v : Int32} (h : la i j S = some (v, S1)) : vp_in j (S i).length ∧ v = (S i).getD j.toNatClampNeg 0 ∧ S1 = S := by
  unfold la at h
  by_cases hk : j < 0 ∨ (S i).length ≤ j.toNatClampNeg
  · rw [if_pos hk] at h; cases h
  · rw [if_neg hk] at h; cases h; exact ⟨hk, rfl, rfl⟩
theorem sa_inv {i : Nat} {j : Int32} {S S1 : Bk} {v : Int32} {u : Unit} (h : sa i j v S = some (u, S1)) : vp_in j (S i).length ∧ S1 = up S i ((S i).set j.toNatClampNeg v) := by
  unfold sa at h
  by_cases hk : j < 0 ∨ (S i).length ≤ j.toNatClampNeg
  · rw [if_pos hk] at h; cases h
  · rw [if_neg hk] at h; cases h; exact ⟨hk, rfl⟩
theorem vp_in_lt {j : Int32} {n : Nat} (h : vp_in j n) : j.toNatClampNeg < n := Nat.not_le.mp fun q => h (Or.inr q)
section BR
variable {l : Launch} {G : Gl} {mi : Mi} {d : Nat} {lay : List Sh} {ad : Nat → Nat} {pc : Nat} {lv : List (Option Value)} {st : List Value} {K1 K2 : MM Int32} {off : Int} {tgt : Nat} {x y : Int32}
theorem s_icmp_eq (hd : decode (mC mi) pc = .ok (.if_icmp .eq off, 3)) (ht : (pc : Int) + off = (tgt : Int)) (k1 : Sm l G mi d lay ad tgt lv st K1) (k2 : Sm l G mi d lay ad (pc + 3) lv st K2) : Sm l G mi d lay ad pc lv (.int y :: .int x :: st) (if x = y then K1 else K2) :=
  fun p e s m args below meth c X S r S' hK H locs hR hS ls hl => lv_icmp_eq X.1 X.2.1 hd ht (fun h => k1 p e s m args below meth c X S r S' (by rw [if_pos h] at hK; exact hK) H locs hR hS ls hl) (fun h => k2 p e s m args below meth c X S r S' (by rw [if_neg h] at hK; exact hK) H locs hR hS ls hl)
theorem s_icmp_ne (hd : decode (mC mi) pc = .ok (.if_icmp .ne off, 3)) (ht : (pc : Int) + off = (tgt : Int)) (k1 : Sm l G mi d lay ad (pc + 3) lv st K1) (k2 : Sm l G mi d lay ad tgt lv st K2) : Sm l G mi d lay ad pc lv (.int y :: .int x :: st) (if x = y then K1 else K2) :=
  fun p e s m args below meth c X S r S' hK H locs hR hS ls hl => lv_icmp_ne X.1 X.2.1 hd ht (fun h => k2 p e s m args below meth c X S r S' (by rw [if_neg h] at hK; exact hK) H locs hR hS ls hl) (fun h => k1 p e s m args below meth c X S r S' (by rw [if_pos h] at hK; exact hK) H locs hR hS ls hl)
theorem s_icmp_lt (hd : decode (mC mi) pc = .ok (.if_icmp .lt off, 3)) (ht : (pc : Int) + off = (tgt : Int)) (k1 : Sm l G mi d lay ad tgt lv st K1) (k2 : Sm l G mi d lay ad (pc + 3) lv st K2) : Sm l G mi d lay ad pc lv (.int y :: .int x :: st) (if x < y then K1 else K2) :=
  fun p e s m args below meth c X S r S' hK H locs hR hS ls hl => lv_icmp_lt X.1 X.2.1 hd ht (fun h => k1 p e s m args below meth c X S r S' (by rw [if_pos h] at hK; exact hK) H locs hR hS ls hl) (fun h => k2 p e s m args below meth c X S r S' (by rw [if_neg h] at hK; exact hK) H locs hR hS ls hl)
theorem s_icmp_ge (hd : decode (mC mi) pc = .ok (.if_icmp .ge off, 3)) (ht : (pc : Int) + off = (tgt : Int)) (k1 : Sm l G mi d lay ad tgt lv st K1) (k2 : Sm l G mi d lay ad (pc + 3) lv st K2) : Sm l G mi d lay ad pc lv (.int y :: .int x :: st) (if y ≤ x then K1 else K2) :=
  fun p e s m args below meth c X S r S' hK H locs hR hS ls hl => lv_icmp_ge X.1 X.2.1 hd ht (fun h => k1 p e s m args below meth c X S r S' (by rw [if_pos h] at hK; exact hK) H locs hR hS ls hl) (fun h => k2 p e s m args below meth c X S r S' (by rw [if_neg h] at hK; exact hK) H locs hR hS ls hl)
theorem s_icmp_gt (hd : decode (mC mi) pc = .ok (.if_icmp .gt off, 3)) (ht : (pc : Int) + off = (tgt : Int)) (k1 : Sm l G mi d lay ad tgt lv st K1) (k2 : Sm l G mi d lay ad (pc + 3) lv st K2) : Sm l G mi d lay ad pc lv (.int y :: .int x :: st) (if y < x then K1 else K2) :=
  fun p e s m args below meth c X S r S' hK H locs hR hS ls hl => lv_icmp_gt X.1 X.2.1 hd ht (fun h => k1 p e s m args below meth c X S r S' (by rw [if_pos h] at hK; exact hK) H locs hR hS ls hl) (fun h => k2 p e s m args below meth c X S r S' (by rw [if_neg h] at hK; exact hK) H locs hR hS ls hl)
theorem s_icmp_le (hd : decode (mC mi) pc = .ok (.if_icmp .le off, 3)) (ht : (pc : Int) + off = (tgt : Int)) (k1 : Sm l G mi d lay ad tgt lv st K1) (k2 : Sm l G mi d lay ad (pc + 3) lv st K2) : Sm l G mi d lay ad pc lv (.int y :: .int x :: st) (if x ≤ y then K1 else K2) :=
  fun p e s m args below meth c X S r S' hK H locs hR hS ls hl => lv_icmp_le X.1 X.2.1 hd ht (fun h => k1 p e s m args below meth c X S r S' (by rw [if_pos h] at hK; exact hK) H locs hR hS ls hl) (fun h => k2 p e s m args below meth c X S r S' (by rw [if_neg h] at hK; exact hK) H locs hR hS ls hl)
theorem s_if_eq (hd : decode (mC mi) pc = .ok (.ifCond .eq off, 3)) (ht : (pc : Int) + off = (tgt : Int)) (k1 : Sm l G mi d lay ad tgt lv st K1) (k2 : Sm l G mi d lay ad (pc + 3) lv st K2) : Sm l G mi d lay ad pc lv (.int x :: st) (if x = 0 then K1 else K2) :=
  fun p e s m args below meth c X S r S' hK H locs hR hS ls hl => lv_if_eq X.1 X.2.1 hd ht (fun h => k1 p e s m args below meth c X S r S' (by rw [if_pos h] at hK; exact hK) H locs hR hS ls hl) (fun h => k2 p e s m args below meth c X S r S' (by rw [if_neg h] at hK; exact hK) H locs hR hS ls hl)
theorem s_if_ne (hd : decode (mC mi) pc = .ok (.ifCond .ne off, 3)) (ht : (pc : Int) + off = (tgt : Int)) (k1 : Sm l G mi d lay ad (pc + 3) lv st K1) (k2 : Sm l G mi d lay ad tgt lv st K2) : Sm l G mi d lay ad pc lv (.int x :: st) (if x = 0 then K1 else K2) :=
  fun p e s m args below meth c X S r S' hK H locs hR hS ls hl => lv_if_ne X.1 X.2.1 hd ht (fun h => k2 p e s m args below meth c X S r S' (by rw [if_neg h] at hK; exact hK) H locs hR hS ls hl) (fun h => k1 p e s m args below meth c X S r S' (by rw [if_pos h] at hK; exact hK) H locs hR hS ls hl)
theorem s_if_lt (hd : decode (mC mi) pc = .ok (.ifCond .lt off, 3)) (ht : (pc : Int) + off = (tgt : Int)) (k1 : Sm l G mi d lay ad tgt lv st K1) (k2 : Sm l G mi d lay ad (pc + 3) lv st K2) : Sm l G mi d lay ad pc lv (.int x :: st) (if x < 0 then K1 else K2) :=
  fun p e s m args below meth c X S r S' hK H locs hR hS ls hl => lv_if_lt X.1 X.2.1 hd ht (fun h => k1 p e s m args below meth c X S r S' (by rw [if_pos h] at hK; exact hK) H locs hR hS ls hl) (fun h => k2 p e s m args below meth c X S r S' (by rw [if_neg h] at hK; exact hK) H locs hR hS ls hl)
theorem s_if_ge (hd : decode (mC mi) pc = .ok (.ifCond .ge off, 3)) (ht : (pc : Int) + off = (tgt : Int)) (k1 : Sm l G mi d lay ad tgt lv st K1) (k2 : Sm l G mi d lay ad (pc + 3) lv st K2) : Sm l G mi d lay ad pc lv (.int x :: st) (if 0 ≤ x then K1 else K2) :=
  fun p e s m args below meth c X S r S' hK H locs hR hS ls hl => lv_if_ge X.1 X.2.1 hd ht (fun h => k1 p e s m args below meth c X S r S' (by rw [if_pos h] at hK; exact hK) H locs hR hS ls hl) (fun h => k2 p e s m args below meth c X S r S' (by rw [if_neg h] at hK; exact hK) H locs hR hS ls hl)
theorem s_if_gt (hd : decode (mC mi) pc = .ok (.ifCond .gt off, 3)) (ht : (pc : Int) + off = (tgt : Int)) (k1 : Sm l G mi d lay ad tgt lv st K1) (k2 : Sm l G mi d lay ad (pc + 3) lv st K2) : Sm l G mi d lay ad pc lv (.int x :: st) (if 0 < x then K1 else K2) :=
  fun p e s m args below meth c X S r S' hK H locs hR hS ls hl => lv_if_gt X.1 X.2.1 hd ht (fun h => k1 p e s m args below meth c X S r S' (by rw [if_pos h] at hK; exact hK) H locs hR hS ls hl) (fun h => k2 p e s m args below meth c X S r S' (by rw [if_neg h] at hK; exact hK) H locs hR hS ls hl)
theorem s_if_le (hd : decode (mC mi) pc = .ok (.ifCond .le off, 3)) (ht : (pc : Int) + off = (tgt : Int)) (k1 : Sm l G mi d lay ad tgt lv st K1) (k2 : Sm l G mi d lay ad (pc + 3) lv st K2) : Sm l G mi d lay ad pc lv (.int x :: st) (if x ≤ 0 then K1 else K2) :=
  fun p e s m args below meth c X S r S' hK H locs hR hS ls hl => lv_if_le X.1 X.2.1 hd ht (fun h => k1 p e s m args below meth c X S r S' (by rw [if_pos h] at hK; exact hK) H locs hR hS ls hl) (fun h => k2 p e s m args below meth c X S r S' (by rw [if_neg h] at hK; exact hK) H locs hR hS ls hl)
/-- the ways of a switch, each at its place -/
def Ways (l : Launch) (G : Gl) (mi : Mi) (d : Nat) (lay : List Sh) (ad : Nat → Nat) (lv : List (Option Value)) (st : List Value) (pc : Nat) : List Int → List (MM Int32) → Prop
  | [], [] => True
  | o :: os, K :: Ks => (∃ t : Nat, (pc : Int) + o = (t : Int) ∧ Sm l G mi d lay ad t lv st K) ∧ Ways l G mi d lay ad lv st pc os Ks
  | _, _ => False
theorem ways_at : ∀ {os : List Int} {Ks : List (MM Int32)}, Ways l G mi d lay ad lv st pc os Ks → os.length = Ks.length ∧ ∀ (i : Nat) (K : MM Int32), Ks[i]? = some K → ∃ (o : Int) (t : Nat), os[i]? = some o ∧ (pc : Int) + o = (t : Int) ∧ Sm l G mi d lay ad t lv st K
  | [], [], _ => ⟨rfl, fun i K h => by simp at h⟩
  | [], _ :: _, h => by cases h
  | _ :: _, [], h => by cases h
  | o :: os, K :: Ks, ⟨⟨t, h1, h2⟩, h3⟩ => by
    obtain ⟨e, f⟩ := ways_at h3
    refine ⟨by simp [e], fun i K' hK => ?_⟩
    cases i with
    | zero => simp at hK; subst hK; exact ⟨o, t, rfl, h1, h2⟩
    | succ i =>
      obtain ⟨o', t', g1, g2⟩ := f i K' (by simpa using hK)
      exact ⟨o', t', by simpa using g1, g2⟩
theorem s_table {dflt lo hi : Int} {offs : List Int} {len : Nat} {Ks : List (MM Int32)} {Kd : MM Int32} (hd : decode (mC mi) pc = .ok (.tableswitch dflt lo hi offs.toArray, len)) (hn : lo + offs.length = hi + 1) (ht : (pc : Int) + dflt = (tgt : Int)) (kd : Sm l G mi d lay ad tgt lv st Kd) (ks : Ways l G mi d lay ad lv st pc offs Ks) : Sm l G mi d lay ad pc lv (.int x :: st) (swt x lo Ks Kd) := by
  intro p e s m args below meth c X S r S' hK H locs hR hS ls hl
  obtain ⟨el, f⟩ := ways_at ks
  unfold swt at hK
  by_cases h1 : x.toInt < lo
  · rw [if_pos h1] at hK
    exact lv_tableOut X.1 X.2.1 hd (Or.inl h1) ht (kd p e s m args below meth c X S r S' hK H locs hR hS ls hl)
  · rw [if_neg h1] at hK
    by_cases h2 : hi < x.toInt
    · rw [List.getD_eq_getElem?_getD, List.getElem?_eq_none (by omega), Option.getD_none] at hK
      exact lv_tableOut X.1 X.2.1 hd (Or.inr h2) ht (kd p e s m args below meth c X S r S' hK H locs hR hS ls hl)
    · have hlt : (x.toInt - lo).toNat < Ks.length := by omega
      obtain ⟨o, t, g1, g2, g3⟩ := f (x.toInt - lo).toNat _ (List.getElem?_eq_getElem hlt)
      rw [List.getD_eq_getElem?_getD, List.getElem?_eq_getElem hlt, Option.getD_some] at hK
      exact lv_tableIn X.1 X.2.1 hd h1 h2 (by simpa using g1) g2 (g3 p e s m args below meth c X S r S' hK H locs hR hS ls hl)
def Wayl (l : Launch) (G : Gl) (mi : Mi) (d : Nat) (lay : List Sh) (ad : Nat → Nat) (lv : List (Option Value)) (st : List Value) (pc : Nat) : List (Int × Int) → List (Int × MM Int32) → Prop
  | [], [] => True
  | o :: os, (v, K) :: Ks => (o.1 = v ∧ ∃ t : Nat, (pc : Int) + o.2 = (t : Int) ∧ Sm l G mi d lay ad t lv st K) ∧ Wayl l G mi d lay ad lv st pc os Ks
  | _, _ => False
theorem wayl_at {z : Int} {dflt : Int} {Kd : MM Int32} (ht : (pc : Int) + dflt = (tgt : Int)) (kd : Sm l G mi d lay ad tgt lv st Kd) : ∀ {os : List (Int × Int)} {Ks : List (Int × MM Int32)}, Wayl l G mi d lay ad lv st pc os Ks → x.toInt = z → ∃ t : Nat, (pc : Int) + Op.lookupswitch.offset os dflt z = (t : Int) ∧ Sm l G mi d lay ad t lv st (swl x Ks Kd)
  | [], [], _, _ => ⟨tgt, by simpa [Op.lookupswitch.offset] using ht, kd⟩
  | [], _ :: _, h, _ => by cases h
  | _ :: _, [], h, _ => by cases h
  | o :: os, (v, K) :: Ks, ⟨⟨h0, t, h1, h2⟩, h3⟩, hz => by
    obtain ⟨t', e, f⟩ := wayl_at ht kd h3 hz
    by_cases hq : o.1 = z
    · refine ⟨t, ?_, ?_⟩
      · rw [← h1]; congr 1; obtain ⟨o1, o2⟩ := o; simp at hq; subst hq; simp [Op.lookupswitch.offset]
      · unfold swl; rw [if_pos (by rw [hz, ← hq, h0])]; exact h2
    · refine ⟨t', ?_, ?_⟩
      · rw [← e]; congr 1; obtain ⟨o1, o2⟩ := o; simp at hq; simp [Op.lookupswitch.offset, hq]
      · unfold swl; rw [if_neg (by rw [hz, ← h0]; exact fun q => hq q.symm)]; exact f
theorem s_lookup {dflt : Int} {ps : List (Int × Int)} {len : Nat} {Ks : List (Int × MM Int32)} {Kd : MM Int32} (hd : decode (mC mi) pc = .ok (.lookupswitch dflt ps.toArray, len)) (hp : (ps.zip (ps.drop 1)).all (fun (a, next) => a.1 < next.1) = true) (ht : (pc : Int) + dflt = (tgt : Int)) (kd : Sm l G mi d lay ad tgt lv st Kd) (ks : Wayl l G mi d lay ad lv st pc ps Ks) : Sm l G mi d lay ad pc lv (.int x :: st) (swl x Ks Kd) := by
  intro p e s m args below meth c X S r S' hK H locs hR hS ls hl
  obtain ⟨t, h1, h2⟩ := wayl_at (x := x) ht kd ks rfl
  exact lv_lookup X.1 X.2.1 hd (by simpa using hp) rfl (by simpa using h1) (h2 p e s m args below meth c X S r S' hK H locs hR hS ls hl)
end BR
section RT
variable {l : Launch} {G : Gl} {mi : Mi} {d : Nat} {lay : List Sh} {ad : Nat → Nat} {pc : Nat} {lv : List (Option Value)} {st : List Value} {v : Int32}
theorem s_ireturn (hr : mR mi = some .int) (hd : decode (mC mi) pc = .ok (.ireturn, 1)) : Sm l G mi d lay ad pc lv [.int v] (pr v) := by
  intro p e s m args below meth c X S r S' hK H locs hR hS ls hl
  cases hK
  rw [hr]
  exact W.iret X.1 X.2.1 (by rw [X.2.2.2.1, hr]) (fun t ht hW => ⟨⟨v, S, rfl, ⟨rfl, rfl⟩, by show Rl G lay ad S t t.heap; rw [ht]; exact hR.moved hW.alike⟩, hS.F ht⟩) hS.2.2 hd X.2.2.2.2.1
theorem s_zreturn (hr : mR mi = some .boolean) (hd : decode (mC mi) pc = .ok (.ireturn, 1)) : Sm l G mi d lay ad pc lv [.int v] (rz v) := by
  intro p e s m args below meth c X S r S' hK H locs hR hS ls hl
  unfold rz at hK
  by_cases hv : v = 0 ∨ v = 1
  · rw [if_pos hv] at hK
    cases hK
    rw [hr]
    exact W.zret (ty := .boolean) X.1 X.2.1 (by rw [X.2.2.2.1, hr]) (by rcases hv with rfl | rfl <;> decide +kernel) (fun t ht hW => ⟨⟨v, S, rfl, ⟨rfl, rfl⟩, by show Rl G lay ad S t t.heap; rw [ht]; exact hR.moved hW.alike⟩, hS.F ht⟩) hS.2.2 hd X.2.2.2.2.1
  · rw [if_neg hv] at hK
    cases hK
theorem s_return (hr : mR mi = none) (hd : decode (mC mi) pc = .ok (.return_, 1)) : Sm l G mi d lay ad pc lv [] (pr v) := by
  intro p e s m args below meth c X S r S' hK H locs hR hS ls hl
  cases hK
  rw [hr]
  exact W.vret X.1 X.2.1 (by rw [X.2.2.2.1, hr]) (fun t ht hW => ⟨⟨S, rfl, rfl, by show Rl G lay ad S t t.heap; rw [ht]; exact hR.moved hW.alike⟩, hS.F ht⟩) hS.2.2 hd X.2.2.2.2.1
end RT
