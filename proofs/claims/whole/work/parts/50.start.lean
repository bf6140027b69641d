/-! THE START: the tables' classes, the statics, the two makers; then the law's loop -/
theorem inst_0 : Cond.instantiable RX0 1 ∈ tb := tb_1 (i := 137) rfl rfl
theorem inst_1 : Cond.instantiable RX1 12 ∈ tb := tb_1 (i := 30) rfl rfl
theorem inst_2 : Cond.instantiable RX2 8 ∈ tb := tb_1 (i := 147) rfl rfl
theorem inst_3 : Cond.instantiable RX3 1 ∈ tb := tb_2 (i := 77) rfl rfl
theorem inst_4 : Cond.instantiable RX4 2 ∈ tb := tb_2 (i := 90) rfl rfl
theorem inst_5 : Cond.instantiable RX5 5 ∈ tb := tb_1 (i := 181) rfl rfl
theorem inst_6 : Cond.instantiable RX6 4 ∈ tb := tb_2 (i := 106) rfl rfl
theorem inst_7 : Cond.instantiable RX7 8 ∈ tb := tb_2 (i := 39) rfl rfl
theorem inst_8 : Cond.instantiable RX8 2 ∈ tb := tb_1 (i := 210) rfl rfl
theorem inst_9 : Cond.instantiable RX9 19 ∈ tb := tb_1 (i := 36) rfl rfl
theorem inst_10 : Cond.instantiable RX10 10 ∈ tb := tb_1 (i := 22) rfl rfl
theorem inst_11 : Cond.instantiable RX11 68 ∈ tb := tb_5 (i := 118) rfl rfl
theorem lays_COMPACT_STRINGS : Cond.laysStatic "java/lang/String" "COMPACT_STRINGS" "Z" ∈ lw_tbl := List.mem_of_getElem? (i := 761) (by decide +kernel)
theorem lays_SIOOBE_FORMATTER : Cond.laysStatic "jdk/internal/util/Preconditions" "SIOOBE_FORMATTER" "Ljava/util/function/BiFunction;" ∈ lw_tbl := List.mem_of_getElem? (i := 777) (by decide +kernel)
theorem lays_CASES_WITH : Cond.laysStatic "KnotLaundry$Puzzles" "CASES_WITH" "[I" ∈ lw_tbl := List.mem_of_getElem? (i := 1104) (by decide +kernel)
theorem lays_NIMBERS : Cond.laysStatic "KnotLaundry$Puzzles" "NIMBERS" "[I" ∈ lw_tbl := List.mem_of_getElem? (i := 1165) (by decide +kernel)
theorem ini_puz : Cond.initialized "KnotLaundry$Puzzles" ∈ tb := tb_1 (i := 12) rfl rfl
theorem ini_str : Cond.initialized "java/lang/String" ∈ tb := tb_1 (i := 16) rfl rfl
theorem ini_pre : Cond.initialized "jdk/internal/util/Preconditions" ∈ tb := tb_1 (i := 18) rfl rfl
theorem over_W : Cond.arrayOver (.object "KnotLaundry$World") ∈ lw_tbl := List.mem_of_getElem? (i := 397) (by decide +kernel)
theorem ref_W : Cond.stringRef "KnotLaundry$Tape" 48 wordsTx ∈ lw_tbl := List.mem_of_getElem? (i := 751) (by decide +kernel)
theorem start_D {args : Array Value} {s : State} (hts : ∀ w ∈ tb, w.before args s = true) : ∃ D : va_G, ∀ (c : Nat) (q : vw_C), classes[c]? = some q → u_Kn s q.1 q.2.1 q.2.2 (D.1 c) (D.2 c) := by
  have h : ∀ c : Nat, ∃ r : ClassId × (Nat → Nat), ∀ q : vw_C, classes[c]? = some q → u_Kn s q.1 q.2.1 q.2.2 r.1 r.2 := by
    have key : ∀ {ci : Nat} {C : String} {T : u_T} {N : Nat}, CF ci C T N → Cond.instantiable C N ∈ tb → ∃ r : ClassId × (Nat → Nat), ∀ q : vw_C, classes[ci]? = some q → u_Kn s q.1 q.2.1 q.2.2 r.1 r.2 := by
      intro ci C T N hc hi
      obtain ⟨cC, iS, hk⟩ := u_known hts hc.2.1 (hts _ hi)
      refine ⟨(cC, iS), fun q hq => ?_⟩
      rw [hc.1] at hq
      cases hq
      exact hk
    intro c
    match c with
    | 0 => exact key cf_0 inst_0
    | 1 => exact key cf_1 inst_1
    | 2 => exact key cf_2 inst_2
    | 3 => exact key cf_3 inst_3
    | 4 => exact key cf_4 inst_4
    | 5 => exact key cf_5 inst_5
    | 6 => exact key cf_6 inst_6
    | 7 => exact key cf_7 inst_7
    | 8 => exact key cf_8 inst_8
    | 9 => exact key cf_9 inst_9
    | 10 => exact key cf_10 inst_10
    | 11 => exact key cf_11 inst_11
    | n + 12 => exact ⟨(0, fun _ => 0), fun q hq => by
        have : n + 12 < 12 := (List.getElem?_eq_some_iff.mp hq).1
        omega⟩
  obtain ⟨f, hf⟩ := Classical.axiomOfChoice h
  exact ⟨(fun c => (f c).1, fun c => (f c).2), hf⟩
theorem start_K {args : Array Value} {s : State} (hts : ∀ w ∈ tb, w.before args s = true) (hov : (Cond.arrayOver (.object "KnotLaundry$World")).before args s = true) : ∃ (D : va_G) (cI cE : ClassId), va_K D classes [(cI, .int), (cE, .object "KnotLaundry$World")] s := by
  obtain ⟨D, hD⟩ := start_D hts
  obtain ⟨cI, kI, compI, i1, i2, i3⟩ := Cond.arrayClass_spec (hts _ wd_arrI)
  obtain ⟨comp, cE, kE, e1, e2, e3, e4, e5⟩ := Cond.arrayOver_spec hov
  refine ⟨D, cI, cE, hD, fun k q hk => ?_⟩
  match k, hk with
  | 0, hk =>
    cases hk
    exact ⟨fun n z => ⟨fun k h => (by cases h), kI, i2, compI, i3⟩, i1⟩
  | 1, hk =>
    cases hk
    exact ⟨fun n z => ⟨fun k h => (by cases h), kE, e3, comp, e4⟩, kE, comp, e3, e4, e1, e5⟩
  | n + 2, hk => exact absurd (List.getElem?_eq_some_iff.mp hk).1 (by simp)
theorem start_S {args : Array Value} {s : State} (hts : ∀ w ∈ lw_tbl, w.before args s = true) (hgv : (Jvm.Cond.and given_1 narrow_1).before args s = true) (D : va_G) (cI cE : ClassId) : ∃ tc tn ts tv : Nat, ∃ tf : Option Nat, gS (D, cI, cE, s.heap.size, tc, tn, ts, tv, tf) s s.heap := by
  have hb := tb_tbl hts
  have hs := flat_of_before _ hgv
  have hA : ∀ a : Nat, a < s.heap.size → ¬ (fun q : Nat => s.heap.size ≤ q) a := fun a h => Nat.not_le.mpr h
  obtain ⟨tc, c1, c2⟩ := va_Tof (A := fun q => s.heap.size ≤ q) (tm := .static "KnotLaundry$Puzzles" "CASES_WITH" "[I") (ty := .int) (N := 4) (f := fun j => .int (CWl.getD j 0)) (by decide) (hs (.arrayOf (.static "KnotLaundry$Puzzles" "CASES_WITH" "[I") .int) (by decide +kernel)) (va_eqt (hs (.eq (.length (.static "KnotLaundry$Puzzles" "CASES_WITH" "[I")) (.int 4)) (by decide +kernel))) (fun j hj => by
      have key : ∀ j, j < 4 → (Cond.eq (.elem (.static "KnotLaundry$Puzzles" "CASES_WITH" "[I") (.int (Int32.ofNat j))) (.int (CWl.getD j 0))) ∈ flatC (Jvm.Cond.and given_1 narrow_1) := by decide +kernel
      exact va_eqt (hs _ (key j hj))) hA
  obtain ⟨tn, n1, n2⟩ := va_Tof (A := fun q => s.heap.size ≤ q) (tm := .static "KnotLaundry$Puzzles" "NIMBERS" "[I") (ty := .int) (N := 14) (f := fun j => .int (NBl.getD j 0)) (by decide) (hs (.arrayOf (.static "KnotLaundry$Puzzles" "NIMBERS" "[I") .int) (by decide +kernel)) (va_eqt (hs (.eq (.length (.static "KnotLaundry$Puzzles" "NIMBERS" "[I")) (.int 14)) (by decide +kernel))) (fun j hj => by
      have key : ∀ j, j < 14 → (Cond.eq (.elem (.static "KnotLaundry$Puzzles" "NIMBERS" "[I") (.int (Int32.ofNat j))) (.int (NBl.getD j 0))) ∈ flatC (Jvm.Cond.and given_1 narrow_1) := by decide +kernel
      exact va_eqt (hs _ (key j hj))) hA
  obtain ⟨adK, adV, hS, hev⟩ := vk_Sof (args := args) (s := s) (N := 1) (tm := fun _ => .string "KnotLaundry$Tape" 48) (len := [111]) (byt := [WDl]) (A := fun q => s.heap.size ≤ q) (by intro i hi; match i, hi with | 0, _ => decide) (fun i hi => hs _ (by decide +kernel)) (fun i hi => hs _ (by decide +kernel)) (fun i hi => hs _ (by decide +kernel)) (fun i hi => by match i, hi with | 0, _ => exact hs _ (by decide +kernel)) (fun i hi j hj => by
    match i, hi with
    | 0, _ =>
      have key : ∀ j, j < 111 → (Cond.eq (.elem (.field (.string "KnotLaundry$Tape" 48) "java/lang/String" "value" "[B") (.int (Int32.ofNat j))) (.int (WDl.getD j 0))) ∈ flatC (Jvm.Cond.and given_1 narrow_1) := by decide +kernel
      exact hs _ (key j hj)) (fun i j hi hj h => absurd (show i = j by omega) h) hA
  have hZ := va_Zqof (A := fun q => s.heap.size ≤ q) (hts _ lays_SIOOBE_FORMATTER) (hb _ ini_pre) (hs (.isRef (.static "jdk/internal/util/Preconditions" "SIOOBE_FORMATTER" "Ljava/util/function/BiFunction;")) (by decide +kernel)) hA
  have h0 := hev 0 (by decide)
  have hSS : vk_S 1 [111] [WDl] (fun _ => adK 0) (fun _ => adV 0) (fun q => s.heap.size ≤ q) s s.heap := ⟨fun i hi => by match i, hi with | 0, _ => exact hS.1 0 (by decide), fun i j hi hj _ => by omega⟩
  rcases hZ with hZ | ⟨t, hZ⟩
  · exact ⟨tc, tn, adK 0, adV 0, none, va_Zof (hts _ lays_CASES_WITH) (hb _ ini_puz) c1 hA, c2, va_Zof (hts _ lays_NIMBERS) (hb _ ini_puz) n1 hA, n2, vk_R.of (hts _ ref_W) h0, hSS, va_Zof (hts _ lays_COMPACT_STRINGS) (hb _ ini_str) (va_eqi (hs (.eq (.static "java/lang/String" "COMPACT_STRINGS" "Z") (.int 1)) (by decide +kernel))) hA, hZ, va_AO.of (hts _ over_W)⟩
  · exact ⟨tc, tn, adK 0, adV 0, some t, va_Zof (hts _ lays_CASES_WITH) (hb _ ini_puz) c1 hA, c2, va_Zof (hts _ lays_NIMBERS) (hb _ ini_puz) n1 hA, n2, vk_R.of (hts _ ref_W) h0, hSS, va_Zof (hts _ lays_COMPACT_STRINGS) (hb _ ini_str) (va_eqi (hs (.eq (.static "java/lang/String" "COMPACT_STRINGS" "Z") (.int 1)) (by decide +kernel))) hA, hZ, va_AO.of (hts _ over_W)⟩
theorem lcl_7 : Cond.classLink R_law 7 "KnotLaundry" ∈ tb := tb_1 (i := 21) rfl rfl
theorem lcl_10 : Cond.classLink R_law 10 "KnotLaundryModel" ∈ tb := tb_5 (i := 117) rfl rfl
theorem lmi_9 : Cond.methodLink R_law 9 (mY mX10_init) ∈ tb := tb_1 (i := 23) rfl rfl
theorem lmo_X10_init : MOk mX10_init 0 ∧ Cond.instanceMethod (mY mX10_init) ∈ tb := ⟨⟨tb_1 (i := 25) rfl rfl, tb_1 (i := 1) rfl rfl, ⟨by decide, by decide⟩, by decide +kernel⟩, tb_1 (i := 24) rfl rfl⟩
theorem lin_X10_init : Cond.initialized "KnotLaundry" ∈ tb := tb_1 (i := 1) rfl rfl
theorem lmi_12 : Cond.methodLink R_law 12 (mY mX11_init) ∈ tb := tb_5 (i := 119) rfl rfl
theorem lmo_X11_init : MOk mX11_init 0 ∧ Cond.instanceMethod (mY mX11_init) ∈ tb := ⟨⟨tb_5 (i := 121) rfl rfl, tb_1 (i := 13) rfl rfl, ⟨by decide, by decide⟩, by decide +kernel⟩, tb_5 (i := 120) rfl rfl⟩
theorem lin_X11_init : Cond.initialized "KnotLaundryModel" ∈ tb := tb_1 (i := 13) rfl rfl
theorem ldf_10 : ∀ j, j < 10 → defaultValue (tyX10 j) = vp_V [.null, .null, .int 0, .null, .null, .int 0, .null, .null, .null, .null] j := by decide +kernel
theorem ldf_11 : ∀ j, j < 68 → defaultValue (tyX11 j) = vp_V [.int 0, .null, .null, .int 0, .null, .int 0, .int 0, .int 0, .int 0, .null, .null, .null, .null, .int 0, .int 0, .int 0, .int 0, .int 0, .null, .null, .null, .null, .null, .null, .null, .null, .int 0, .int 0, .int 0, .null, .int 0, .int 0, .int 0, .int 0, .int 0, .int 0, .null, .int 0, .null, .int 0, .null, .null, .null, .int 0, .null, .null, .int 0, .null, .null, .null, .null, .null, .int 0, .null, .int 0, .null, .null, .int 0, .null, .null, .null, .int 0, .null, .null, .int 0, .int 0, .int 0, .null] j := by decide +kernel
theorem adC_line (B : Nat) : adC B (B + 1) = fun i => B + i := by
  funext i
  unfold adC
  by_cases hi : i = 0
  · rw [if_pos hi, hi]; rfl
  · rw [if_neg hi]; omega
/-- the law makes an object: new, dup, its maker -/
theorem law_make {p : Program} {l : Launch} {e : Env} {s : State} {m : MethodId} {args : Array Value} {below : List Frame} {meth : Method} {c : Code} {G : Gl} {H : Heap} {locs : List Loc} {cl sl : Nat} {Q : State → Prop} {pc idx idx2 ci N d2 mc2 ms2 : Nat} {C : String} {T : u_T} {ty0 : Nat → FieldType} {mi2 : Mi} {lay2 : List Sh} {S2 : Bk} {fs : List Value} {ls : Array Slot} {st : List Value}
    (X : Cx G mLaw p s m args meth c) (hgb : gB G = s.heap.size) (hK : va_K (gD G) classes (gT G) s) (hls : ls.size = 4) (hS : va_S (fun q => s.heap.size ≤ q) s.heap H locs) (hcl : Cond.classLink R_law idx C ∈ tb) (hins : Cond.instantiable C N ∈ tb) (hini : Cond.initialized C ∈ tb) (hF : CF ci C T N) (hty : ∀ j, j < N → parseFieldDescriptor (T j).2.2.1 = some (ty0 j)) (hdf : ∀ j, j < N → defaultValue (ty0 j) = vp_V fs j)
    (hd1 : decode code pc = .ok (.new idx, 3)) (hd2 : decode code (pc + 3) = .ok (.dup, 1)) (hd3 : decode code (pc + 3 + 1) = .ok (.invokespecial idx2, 3)) (hO : MOk mi2 0) (hV : Cond.instanceMethod (mY mi2) ∈ tb) (hml : Cond.methodLink R_law idx2 (mY mi2) ∈ tb) (hret : mR mi2 = none) (hy : (mY mi2).name = "<init>") (hC : Ck l G mi2 d2 mc2 ms2 lay2 S2 ci fs []) (hdep : d2 ≤ 100 ∧ mL mi2 ≤ 45) (hcs : cl + 1 + mc2 ≤ 600000 ∧ sl + N + ms2 ≤ 7302250) (hcat : ((Value.ref H.size :: st).map fun v => v.category).sum ≤ 8)
    (kk : ∀ (H' : Heap) (locs' : List Loc), va_P (gD G) classes (wsOf G lay2 (fun i => H.size + i) S2) H' → H'.size = H.size + lay2.length → (∀ q : Nat, q < H.size → H'[q]? = H[q]?) → va_S (fun q => s.heap.size ≤ q) s.heap H' locs' → W p l e room_1 s m args below meth c H' locs' (cl + 1 + mc2) (sl + N + ms2) Q (F0 m (pc + 3 + 1 + 3) ls (.ref H.size :: st))) : W p l e room_1 s m args below meth c H locs cl sl Q (F0 m pc ls st) := by
  have hts := X.2.2.2.2.2.2.1
  have hKn := hK.1 ci _ hF.1
  have hBH : s.heap.size ≤ H.size := hS.1
  refine W.newcK (R := room_1) X.1 X.2.1 X.2.2.2.2.2.1 (hts _ hcl) (hts _ hins) (hts _ hini) (g := F0 m pc ls st) rfl hd1 (by show cl + 1 ≤ 600000; omega) (by show sl + N ≤ 7302250; omega) hKn.2.1 rfl fun H1 kC hkC e1 z1 o1 => ?_
  refine lv_dup X.1 X.2.1 hd2 rfl ?_
  have hcell : va_at (gD G) classes (H.size, .inr (ci, fs)) H1 := ⟨_, hF.1, (u_born ty0 hts hF.2.1 hKn hkC e1 hty).to hdf⟩
  have hS1 : va_S (fun q => s.heap.size ≤ q) s.heap H1 locs := vS_more hS z1 o1
  have hM := hC H.size (H.size + 1) (by rw [hgb]; exact hBH) (Nat.lt_succ_self _)
  rw [adC_line] at hM
  have hAC : ∀ q, AC (fun i => H.size + i) q → s.heap.size ≤ q := by
    intro q h
    rcases h with h | h
    · have h : q = H.size + 0 := h
      omega
    · have h : H.size + 1 ≤ q := h
      omega
  have hcb : CallB room_1 s args R_law idx2 (mY mi2) (mC mi2) (mL mi2) none (Cond.code (mY mi2) (mC mi2) (mL mi2) (mR mi2) :: tb) (RmC d2 mc2 ms2) mc2 ms2 0 :=
    ⟨rfl, rfl, (by show d2 + 1 ≤ 2048; omega), (by show 8 + (mL mi2 + 11) + 64 * d2 ≤ 84000; omega), mo_ws hO hts, by rw [← hret]; exact List.mem_cons_self, by rw [← hret]; exact hts _ hO.1, hts _ hO.2.1, hO.2.2.1, mo_len hO, hts _ hml⟩
  refine va_callv (va_runI (As := []) (rest := .ref H.size :: st) ⟨X.1, X.2.1, X.2.2.1, X.2.2.2.2.2.1, hts⟩ hM ⟨hcb, hy, hts _ hV⟩ ⟨qc_blind, fun U hU hW => ⟨rfl, by rw [hU]; exact z1, ?_, va_K.moved hW.alike hK, ?_⟩⟩ rfl rfl hls rfl (lv_room hcat) hd3 ⟨hcs.1, hcs.2⟩) hS1 (fun q _ h => hAC q h) hAC (fun u t H2 locs2 ht hvm hw hB hz hk hS2 => ?_)
  · intro j q hq
    have hj : j < 1 := (List.getElem?_eq_some_iff.mp hq).1
    rw [show j = 0 by omega] at hq
    cases hq
    rw [hU]
    exact hcell
  · rw [hU]
    exact gS_warm hW (gS_kept (fun a h1 h2 => hS1.2.1 a h1 (fun z => h2 (by rw [hgb]; exact z))) X.2.2.2.2.2.2.2)
  · obtain ⟨hB1, hB2⟩ := hB
    rw [ht] at hB1 hB2
    refine kk H2 locs2 hB2 hB1 (fun q hq => ?_) hS2
    rw [hk q (by omega) (fun z => ?_), o1 q hq]
    rcases z with z | z
    · have z : q = H.size + 0 := z
      omega
    · have z : H.size + 1 ≤ q := z
      omega
/-- what the two make, side by side -/
def S00 : Bk := fun i => if i < 211 then sb_X10_init i else sb_X11_init (i - 211)
theorem lay_All_Mo : ∀ i, i < 38 → lay_All[211 + i]? = (lay_Mo[i]?).map (ren rMo) := by decide +kernel
theorem lay_Mo_no : ∀ i, i < 38 → lay_Mo[i]? ≠ some (.inr true) := by decide +kernel
theorem lay_All_len : lay_All.length = 249 := by decide +kernel
theorem law_world {G : Gl} {B : Nat} {s : State} {H : Heap} (hB : gB G ≤ B) (hK : va_K (gD G) classes (gT G) s) (h1 : va_P (gD G) classes (wsOf G lay_KL (fun i => B + i) sb_X10_init) H) (h2 : va_P (gD G) classes (wsOf G lay_Mo (fun i => B + 211 + i) sb_X11_init) H) : Rl G lay_All (fun i => B + i) S00 s H := by
  refine ⟨fun k q hk => ?_, ⟨fun i j x y hx hy hxy => ?_, fun k q hk => ?_⟩, hK⟩
  · obtain ⟨sh, e1, rfl⟩ := ws_of hk
    have hkl : k < 249 := by rw [← lay_All_len]; exact (List.getElem?_eq_some_iff.mp e1).1
    by_cases hk2 : k < 211
    · rw [lay_All_KL k hk2] at e1
      have h3 := h1 k _ (ws_at e1)
      have e2 : S00 k = sb_X10_init k := by simp [S00, hk2]
      rw [e2]
      exact h3
    · obtain ⟨i, rfl⟩ : ∃ i, k = 211 + i := ⟨k - 211, by omega⟩
      have hi : i < 38 := by omega
      rw [lay_All_Mo i hi] at e1
      obtain ⟨sh2, g1, g2⟩ : ∃ sh2, lay_Mo[i]? = some sh2 ∧ ren rMo sh2 = sh := by
        cases hq : lay_Mo[i]? with
        | none => rw [hq] at e1; cases e1
        | some w => rw [hq] at e1; exact ⟨w, rfl, Option.some.inj e1⟩
      have h3 := h2 i _ (ws_at g1)
      have e2 : S00 (211 + i) = sb_X11_init i := by
        have : ¬ 211 + i < 211 := by omega
        simp [S00, this]
      rw [← g2, e2]
      show va_at (gD G) classes (B + (211 + i), cellE G (fun i => B + i) (ren rMo sh2) (sb_X11_init i)) H
      rw [cell_ren (fun h => lay_Mo_no i hi (by rw [g1, h]))]
      have e3 : (fun i => B + rMo i) = fun i => B + 211 + i := by funext j; unfold rMo; omega
      have e4 : B + (211 + i) = B + 211 + i := by omega
      rw [e3, e4]
      exact h3
  · obtain ⟨sx, e1, rfl⟩ := ws_of hx
    obtain ⟨sy, e2, rfl⟩ := ws_of hy
    have hxy : B + i = B + j := hxy
    omega
  · obtain ⟨sh, e1, rfl⟩ := ws_of hk
    show gB G ≤ B + k
    omega
