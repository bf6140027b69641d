/-! STEPS that read and write cells, and calls -/
section FD
variable {l : Launch} {G : Gl} {mi : Mi} {d : Nat} {lay : List Sh} {ad : Nat → Nat} {pc : Nat} {lv : List (Option Value)} {st : List Value} {i idx ci k : Nat} {ks : List (Option Nat)}
theorem s_getI {K : Int32 → MM Int32} (hF : FL (mY mi).cls idx ci k) (hl : lay[i]? = some (.inl (ci, ks))) (hk : ks[k]? = some none) (hd : decode (mC mi) pc = .ok (.getfield idx, 3)) (kk : ∀ v : Int32, Sm l G mi d lay ad (pc + 3) lv (.int v :: st) (K v)) : Sm l G mi d lay ad pc lv (.ref (ad i) :: st) (bd (ld i k) K) := by
  intro p e s m args below meth c X S r S' hK H locs hR hS ls hls
  obtain ⟨v, S1, h1, h2⟩ := bd_inv hK
  obtain ⟨hlt, rfl, rfl⟩ := ld_inv h1
  obtain ⟨C, T, N, ⟨hc, hin, -⟩, hkN, hlk⟩ := hF
  exact va_get X.1 X.2.1 X.2.2.2.2.2.2.1 hin X.2.2.2.2.2.1 hR.2.2 hR.1 i (ws_at hl) hc k hkN (X.2.2.2.2.2.2.1 _ hlk) (fun _ h9 => h9) (fs_int hk) hd (kk _ p e s m args below meth c X S1 r S' h2 H locs hR hS ls hls)
theorem s_getR {K : MM Int32} {j : Nat} (hF : FL (mY mi).cls idx ci k) (hl : lay[i]? = some (.inl (ci, ks))) (hk : ks[k]? = some (some j)) (hd : decode (mC mi) pc = .ok (.getfield idx, 3)) (kk : Sm l G mi d lay ad (pc + 3) lv (.ref (ad j) :: st) K) : Sm l G mi d lay ad pc lv (.ref (ad i) :: st) K := by
  intro p e s m args below meth c X S r S' hK H locs hR hS ls hls
  obtain ⟨C, T, N, ⟨hc, hin, -⟩, hkN, hlk⟩ := hF
  exact va_get X.1 X.2.1 X.2.2.2.2.2.2.1 hin X.2.2.2.2.2.1 hR.2.2 hR.1 i (ws_at hl) hc k hkN (X.2.2.2.2.2.2.1 _ hlk) (fun _ h9 => h9) (fs_ref hk) hd (kk p e s m args below meth c X S r S' hK H locs hR hS ls hls)
theorem s_put {ty : FieldType} {v : Int32} {K : Unit → MM Int32} (hF : FW (mY mi).cls idx ci k ty) (hl : lay[i]? = some (.inl (ci, ks))) (hk : ks[k]? = some none) (hn : narrow ty (.int v) = .int v) (hf : fits ty (.int v) = true) (hd : decode (mC mi) pc = .ok (.putfield idx, 3)) (kk : Sm l G mi d lay ad (pc + 3) lv st (K ())) : Sm l G mi d lay ad pc lv (.int v :: .ref (ad i) :: st) (bd (sv i k v) K) := by
  intro p e s m args below meth c X S r S' hK H locs hR hS ls hls
  obtain ⟨u, S1, h1, h2⟩ := bd_inv hK
  obtain ⟨hlt, rfl⟩ := sv_inv h1
  obtain ⟨C, T, N, ⟨hc, hin, ty0, hty, hnm⟩, hkN, hlk, hfin, hdesc⟩ := hF
  refine va_put X.1 X.2.1 X.2.2.2.2.2.2.1 hin ty0 hty hnm X.2.2.2.2.2.1 hR.2.2 hR.1 hR.hDA hS i (ws_at hl) hc k hkN (X.2.2.2.2.2.2.1 _ hlk) (fun _ h9 => h9) hfin hdesc hn hf (by rw [fs_len]; exact (List.getElem?_eq_some_iff.mp hk).1) hd (fun H1 locs1 hP1 hD1 hS1 => ?_)
  exact kk p e s m args below meth c X _ r S' h2 H1 locs1 (hR.put hl (by rw [fs_set v hk hlt]; rfl) hP1 hD1) hS1 ls hls
theorem s_putI {v : Int32} {K : Unit → MM Int32} (hF : FW (mY mi).cls idx ci k .int) (hl : lay[i]? = some (.inl (ci, ks))) (hk : ks[k]? = some none) (hd : decode (mC mi) pc = .ok (.putfield idx, 3)) (kk : Sm l G mi d lay ad (pc + 3) lv st (K ())) : Sm l G mi d lay ad pc lv (.int v :: .ref (ad i) :: st) (bd (sv i k v) K) :=
  s_put hF hl hk rfl rfl hd kk
theorem s_putZ {v : Int32} {K : Unit → MM Int32} (hF : FW (mY mi).cls idx ci k .boolean) (hl : lay[i]? = some (.inl (ci, ks))) (hk : ks[k]? = some none) (hd : decode (mC mi) pc = .ok (.putfield idx, 3)) (kk : Sm l G mi d lay ad (pc + 3) lv st (K ())) : Sm l G mi d lay ad pc lv (.int v :: .ref (ad i) :: st) (bd (svz i k v) K) := by
  intro p e s m args below meth c X S r S' hK
  obtain ⟨u, S1, h1, h2⟩ := bd_inv hK
  unfold svz at h1
  by_cases hv : v = 0 ∨ v = 1
  · rw [if_pos hv] at h1
    exact s_put hF hl hk (by rcases hv with rfl | rfl <;> decide +kernel) (by rcases hv with rfl | rfl <;> decide +kernel) hd kk p e s m args below meth c X S r S' (by rw [bd_some h1]; exact h2)
  · rw [if_neg hv] at h1
    cases h1
theorem s_iald {j : Int32} {K : Int32 → MM Int32} (hl : lay[i]? = some (.inr false)) (hd : decode (mC mi) pc = .ok (.iaload, 1)) (kk : ∀ v : Int32, Sm l G mi d lay ad (pc + 1) lv (.int v :: st) (K v)) : Sm l G mi d lay ad pc lv (.int j :: .ref (ad i) :: st) (bd (la i j) K) := by
  intro p e s m args below meth c X S r S' hK H locs hR hS ls hls
  obtain ⟨v, S1, h1, h2⟩ := bd_inv hK
  obtain ⟨hin, rfl, rfl⟩ := la_inv h1
  exact va_iald X.1 X.2.1 hR.2.2 hR.1 i 0 (ws_at hl) rfl hin hd (kk _ p e s m args below meth c X S1 r S' h2 H locs hR hS ls hls)
theorem s_iast {j v : Int32} {K : Unit → MM Int32} (hl : lay[i]? = some (.inr false)) (hd : decode (mC mi) pc = .ok (.iastore, 1)) (kk : Sm l G mi d lay ad (pc + 1) lv st (K ())) : Sm l G mi d lay ad pc lv (.int v :: .int j :: .ref (ad i) :: st) (bd (sa i j v) K) := by
  intro p e s m args below meth c X S r S' hK H locs hR hS ls hls
  obtain ⟨u, S1, h1, h2⟩ := bd_inv hK
  obtain ⟨hin, rfl⟩ := sa_inv h1
  refine va_iast X.1 X.2.1 hR.2.2 hR.1 hR.hDA hS i 0 (ws_at hl) rfl hin hd (fun H1 locs1 hP1 hD1 hS1 => ?_)
  refine kk p e s m args below meth c X _ r S' h2 H1 locs1 (hR.put hl ?_ hP1 hD1) hS1 ls hls
  show (Sum.inl (gI G, (S i).length, Sum.inl (upd (fun k => (S i).getD k 0) j.toNatClampNeg v)) : va_E) = Sum.inl (gI G, ((S i).set j.toNatClampNeg v).length, Sum.inl (fun k => ((S i).set j.toNatClampNeg v).getD k 0))
  have e1 : (upd (fun k => (S i).getD k 0) j.toNatClampNeg v) = (fun k => ((S i).set j.toNatClampNeg v).getD k 0) := by
    funext q
    by_cases hq : q = j.toNatClampNeg
    · subst hq
      simp [upd, List.getD_eq_getElem?_getD, List.getElem?_set, vp_in_lt hin]
    · have hq2 : ¬ j.toNatClampNeg = q := fun z => hq z.symm
      simp [upd, hq, hq2, List.getD_eq_getElem?_getD, List.getElem?_set]
  rw [e1, List.length_set]
theorem s_alen {b : Bool} {K : Int32 → MM Int32} (hl : lay[i]? = some (.inr b)) (hd : decode (mC mi) pc = .ok (.arraylength, 1)) (kk : ∀ v : Int32, Sm l G mi d lay ad (pc + 1) lv (.int v :: st) (K v)) : Sm l G mi d lay ad pc lv (.ref (ad i) :: st) (bd (ln i) K) := by
  intro p e s m args below meth c X S r S' hK H locs hR hS ls hls
  have h2 : K (Int32.ofNat (S i).length) S = some (r, S') := hK
  cases b with
  | false => exact va_alen X.1 X.2.1 hR.2.2 hR.1 i 0 (ws_at hl) rfl rfl hd (kk _ p e s m args below meth c X S r S' h2 H locs hR hS ls hls)
  | true => exact va_alen X.1 X.2.1 hR.2.2 hR.1 i 1 (ws_at hl) rfl rfl hd (kk _ p e s m args below meth c X S r S' h2 H locs hR hS ls hls)
theorem s_aald {j : Int32} {K : Int32 → MM Int32} (hl : lay[i]? = some (.inr true)) (hd : decode (mC mi) pc = .ok (.aaload, 1)) (kk : ∀ v : Int32, Sm l G mi d lay ad (pc + 1) lv (.ref (ad v.toNatClampNeg) :: st) (K v)) : Sm l G mi d lay ad pc lv (.int j :: .ref (ad i) :: st) (bd (la i j) K) := by
  intro p e s m args below meth c X S r S' hK H locs hR hS ls hls
  obtain ⟨v, S1, h1, h2⟩ := bd_inv hK
  obtain ⟨hin, rfl, rfl⟩ := la_inv h1
  exact va_aldq X.1 X.2.1 hR.2.2 hR.1 i 1 (ws_at hl) rfl hin hd (kk _ p e s m args below meth c X S1 r S' h2 H locs hR hS ls hls)
/-- a cell put into a row of cells: it is a World -/
theorem s_aast {j v : Int32} {kw : List (Option Nat)} {K : Unit → MM Int32} (hl : lay[i]? = some (.inr true)) (hw : lay[v.toNatClampNeg]? = some (.inl (9, kw))) (hd : decode (mC mi) pc = .ok (.aastore, 1)) (kk : Sm l G mi d lay ad (pc + 1) lv st (K ())) : Sm l G mi d lay ad pc lv (.ref (ad v.toNatClampNeg) :: .int j :: .ref (ad i) :: st) (bd (sa i j v) K) := by
  intro p e s m args below meth c X S r S' hK H locs hR hS ls hls
  obtain ⟨u, S1, h1, h2⟩ := bd_inv hK
  obtain ⟨hin, rfl⟩ := sa_inv h1
  refine va_astq X.1 X.2.1 hR.2.2 hR.1 hR.hDA hS i 1 v.toNatClampNeg 9 (r := (RX9, TX9, 19)) (ws_at hl) rfl (ws_at hw) rfl hin hd (fun H1 locs1 hP1 hD1 hS1 => ?_)
  refine kk p e s m args below meth c X _ r S' h2 H1 locs1 (hR.put hl ?_ hP1 hD1) hS1 ls hls
  show (Sum.inl (gE G, (S i).length, Sum.inr (Sum.inr (Sum.inr (Sum.inr (va_up (fun k => some (ad ((S i).getD k 0).toNatClampNeg)) j.toNatClampNeg (some (ad v.toNatClampNeg))))))) : va_E) = Sum.inl (gE G, ((S i).set j.toNatClampNeg v).length, Sum.inr (Sum.inr (Sum.inr (Sum.inr (fun k => some (ad (((S i).set j.toNatClampNeg v).getD k 0).toNatClampNeg))))))
  have e1 : (va_up (fun k => some (ad ((S i).getD k 0).toNatClampNeg)) j.toNatClampNeg (some (ad v.toNatClampNeg))) = (fun k => some (ad (((S i).set j.toNatClampNeg v).getD k 0).toNatClampNeg)) := by
    funext q
    by_cases hq : q = j.toNatClampNeg
    · subst hq
      simp [va_up, List.getD_eq_getElem?_getD, List.getElem?_set, vp_in_lt hin]
    · have hq2 : ¬ j.toNatClampNeg = q := fun z => hq z.symm
      simp [va_up, hq, hq2, List.getD_eq_getElem?_getD, List.getElem?_set]
  rw [e1, List.length_set]
end FD
