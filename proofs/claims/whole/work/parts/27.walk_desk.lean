def gX10_state (x1 : Int32) : MM Int32 :=
  bd (ld 2 1) fun v1 =>
  bd (sv 2 1 x1) fun _ =>
  bd (sv 0 5 0) fun _ =>
  pr v1
set_option maxHeartbeats 4000000 in
theorem cn_X10_state (l : Launch) (G : Gl) (hG : gOk G) (ad : Nat → Nat) (x1 : Int32) : Cn l G mX10_state 0 lay_KL ad [.ref (ad 0), .int x1] (gX10_state x1) := by
  refine cn_of (lv := [some (.ref (ad 0)), some (.int x1), none]) (by decide +kernel) rfl (Nat.le_of_ble_eq_true rfl) rfl ?_
  unfold gX10_state
  refine s_aload_n (pc := 0) (dc dl_X10_state 0 rfl) rfl rfl ?_
  refine s_getR (pc := 1) fl_X10_10 lk_KL_0 kk_KL_0_0 (dc dl_X10_state 1 rfl) ?_
  refine s_getR (pc := 4) fl_X10_68 lk_KL_1 kk_KL_1_0 (dc dl_X10_state 2 rfl) ?_
  refine s_getI (pc := 7) fl_X10_71 lk_KL_2 kk_KL_2_1 (dc dl_X10_state 3 rfl) (fun v1 => ?_)
  refine s_istore_n (pc := 10) (lv' := [some (.ref (ad 0)), some (.int x1), some (.int v1)]) (dc dl_X10_state 4 rfl) rfl (Nat.le_of_ble_eq_true rfl) rfl ?_
  refine s_aload_n (pc := 11) (dc dl_X10_state 5 rfl) rfl rfl ?_
  refine s_getR (pc := 12) fl_X10_10 lk_KL_0 kk_KL_0_0 (dc dl_X10_state 6 rfl) ?_
  refine s_getR (pc := 15) fl_X10_68 lk_KL_1 kk_KL_1_0 (dc dl_X10_state 7 rfl) ?_
  refine s_iload_n (pc := 18) (dc dl_X10_state 8 rfl) rfl rfl ?_
  refine s_putI (pc := 19) fw_X10_71 lk_KL_2 kk_KL_2_1 (dc dl_X10_state 9 rfl) ?_
  refine s_aload_n (pc := 22) (dc dl_X10_state 10 rfl) rfl rfl ?_
  refine s_iconst (pc := 23) (v := 0) (dc dl_X10_state 11 rfl) ic_0 ?_
  refine s_putI (pc := 24) fw_X10_36 lk_KL_0 kk_KL_0_5 (dc dl_X10_state 12 rfl) ?_
  refine s_iload_n (pc := 27) (dc dl_X10_state 13 rfl) rfl rfl ?_
  exact s_ireturn (pc := 28) rfl (dc dl_X10_state 14 rfl)
def gX10_forgetUndosFor (x1 : Int32) : MM Int32 :=
  jn (fun (a2 : Unit) =>
  pr x1) (fun j1 =>
  (if x1 = ((-1)) then
  j1 ()
  else
  bd (sv 0 5 0) fun _ =>
  j1 ()))
set_option maxHeartbeats 4000000 in
theorem cn_X10_forgetUndosFor (l : Launch) (G : Gl) (hG : gOk G) (ad : Nat → Nat) (x1 : Int32) : Cn l G mX10_forgetUndosFor 0 lay_KL ad [.ref (ad 0), .int x1] (gX10_forgetUndosFor x1) := by
  refine cn_of (lv := [some (.ref (ad 0)), some (.int x1)]) (by decide +kernel) rfl (Nat.le_of_ble_eq_true rfl) rfl ?_
  unfold gX10_forgetUndosFor
  refine s_iload_n (pc := 0) (dc dl_X10_forgetUndosFor 0 rfl) rfl rfl ?_
  refine s_iconst (pc := 1) (v := (-1)) (dc dl_X10_forgetUndosFor 1 rfl) ic_m1 ?_
  refine s_jn (pj := 10) (fun a2 : Unit => [none, some (.int x1)]) (fun a2 : Unit => []) (fun a2 => ?_) (fun j1 hj1 => ?_)
  · refine s_iload_n (pc := 10) (dc dl_X10_forgetUndosFor 6 rfl) rfl rfl ?_
    exact s_ireturn (pc := 11) rfl (dc dl_X10_forgetUndosFor 7 rfl)
  · refine s_icmp_eq (pc := 2) (tgt := 10) (dc dl_X10_forgetUndosFor 2 rfl) rfl ?_ ?_
    · exact s_wk (hj1 ()) rfl
    · refine s_aload_n (pc := 5) (dc dl_X10_forgetUndosFor 3 rfl) rfl rfl ?_
      refine s_iconst (pc := 6) (v := 0) (dc dl_X10_forgetUndosFor 4 rfl) ic_0 ?_
      refine s_putI (pc := 7) fw_X10_36 lk_KL_0 kk_KL_0_5 (dc dl_X10_forgetUndosFor 5 rfl) ?_
      exact s_wk (hj1 ()) rfl
def gX10_person (x1 : Int32) : MM Int32 :=
  bd (lf rh0 0 (gX10_isWithin x1 0 9)) fun r1 =>
  (if r1 = 0 then
  pr ((-1))
  else
  bd (lf rh23 13 (gX9_addPerson x1)) fun r2 =>
  bd (gX10_forgetUndosFor r2) fun r3 =>
  pr r3)
set_option maxHeartbeats 4000000 in
theorem cn_X10_person (l : Launch) (G : Gl) (hG : gOk G) (ad : Nat → Nat) (x1 : Int32) : Cn l G mX10_person 1 lay_KL ad [.ref (ad 0), .int x1] (gX10_person x1) := by
  refine cn_of (lv := [some (.ref (ad 0)), some (.int x1)]) (by decide +kernel) rfl (Nat.le_of_ble_eq_true rfl) rfl ?_
  unfold gX10_person
  refine s_iload_n (pc := 0) (dc dl_X10_person 0 rfl) rfl rfl ?_
  refine s_iconst (pc := 1) (v := 0) (dc dl_X10_person 1 rfl) ic_0 ?_
  refine s_bipush (pc := 2) (v := 9) (dc dl_X10_person 2 rfl) bi_9 ?_
  refine s_calll (pc := 4) (ρ := rh0) (rest := []) hG (ss_KL_E_rh0) (calls_S (mi := mX10_person) (As := [.int x1, .int 0, .int 9]) (rest := []) hG (dc dl_X10_person 3 rfl) mo_X10_isWithin ms_X10_isWithin ml_X10_74 ⟨Nat.le_of_ble_eq_true rfl, Nat.le_of_ble_eq_true rfl⟩ rfl rfl (Nat.le_of_ble_eq_true rfl)) (cn_X10_isWithin l G hG (fun i => ad (rh0 i)) x1 0 9) rfl rfl (fun r1 => ?_)
  refine s_if_ne (pc := 7) (tgt := 12) (dc dl_X10_person 4 rfl) rfl ?_ ?_
  · refine s_iconst (pc := 10) (v := (-1)) (dc dl_X10_person 5 rfl) ic_m1 ?_
    exact s_ireturn (pc := 11) rfl (dc dl_X10_person 6 rfl)
  · refine s_aload_n (pc := 12) (dc dl_X10_person 7 rfl) rfl rfl ?_
    refine s_aload_n (pc := 13) (dc dl_X10_person 8 rfl) rfl rfl ?_
    refine s_getR (pc := 14) fl_X10_10 lk_KL_0 kk_KL_0_0 (dc dl_X10_person 9 rfl) ?_
    refine s_getR (pc := 17) fl_X10_68 lk_KL_1 kk_KL_1_0 (dc dl_X10_person 10 rfl) ?_
    refine s_iload_n (pc := 20) (dc dl_X10_person 11 rfl) rfl rfl ?_
    refine s_calll (pc := 21) (ρ := rh23) (rest := [.ref (ad 0)]) hG (ss_KL_World_rh23) (calls_V (mi := mX10_person) (o := 2) (As := [.int x1]) (rest := [.ref (ad 0)]) hG (dc dl_X10_person 12 rfl) mo_X9_addPerson mv_X9_addPerson ml_X10_78 ⟨Nat.le_of_ble_eq_true rfl, Nat.le_of_ble_eq_true rfl⟩ rfl rfl (Nat.le_of_ble_eq_true rfl) lk_KL_2 rfl) (cn_X9_addPerson l G hG (fun i => ad (rh23 i)) x1) rfl rfl (fun r2 => ?_)
    refine s_call (pc := 24) (rest := []) hG (calls_V (mi := mX10_person) (o := 0) (As := [.int r2]) (rest := []) hG (dc dl_X10_person 13 rfl) mo_X10_forgetUndosFor mv_X10_forgetUndosFor ml_X10_82 ⟨Nat.le_of_ble_eq_true rfl, Nat.le_of_ble_eq_true rfl⟩ rfl rfl (Nat.le_of_ble_eq_true rfl) lk_KL_0 rfl) (cn_X10_forgetUndosFor l G hG ad r2) rfl (fun r3 => ?_)
    exact s_ireturn (pc := 27) rfl (dc dl_X10_person 14 rfl)
def gX10_cloth (x1 : Int32) : MM Int32 :=
  bd (lf rh23 13 (gX9_addCloth x1)) fun r1 =>
  bd (gX10_forgetUndosFor r1) fun r2 =>
  pr r2
set_option maxHeartbeats 4000000 in
theorem cn_X10_cloth (l : Launch) (G : Gl) (hG : gOk G) (ad : Nat → Nat) (x1 : Int32) : Cn l G mX10_cloth 2 lay_KL ad [.ref (ad 0), .int x1] (gX10_cloth x1) := by
  refine cn_of (lv := [some (.ref (ad 0)), some (.int x1)]) (by decide +kernel) rfl (Nat.le_of_ble_eq_true rfl) rfl ?_
  unfold gX10_cloth
  refine s_aload_n (pc := 0) (dc dl_X10_cloth 0 rfl) rfl rfl ?_
  refine s_aload_n (pc := 1) (dc dl_X10_cloth 1 rfl) rfl rfl ?_
  refine s_getR (pc := 2) fl_X10_10 lk_KL_0 kk_KL_0_0 (dc dl_X10_cloth 2 rfl) ?_
  refine s_getR (pc := 5) fl_X10_68 lk_KL_1 kk_KL_1_0 (dc dl_X10_cloth 3 rfl) ?_
  refine s_iload_n (pc := 8) (dc dl_X10_cloth 4 rfl) rfl rfl ?_
  refine s_calll (pc := 9) (ρ := rh23) (rest := [.ref (ad 0)]) hG (ss_KL_World_rh23) (calls_V (mi := mX10_cloth) (o := 2) (As := [.int x1]) (rest := [.ref (ad 0)]) hG (dc dl_X10_cloth 5 rfl) mo_X9_addCloth mv_X9_addCloth ml_X10_85 ⟨Nat.le_of_ble_eq_true rfl, Nat.le_of_ble_eq_true rfl⟩ rfl rfl (Nat.le_of_ble_eq_true rfl) lk_KL_2 rfl) (cn_X9_addCloth l G hG (fun i => ad (rh23 i)) x1) rfl rfl (fun r1 => ?_)
  refine s_call (pc := 12) (rest := []) hG (calls_V (mi := mX10_cloth) (o := 0) (As := [.int r1]) (rest := []) hG (dc dl_X10_cloth 6 rfl) mo_X10_forgetUndosFor mv_X10_forgetUndosFor ml_X10_82 ⟨Nat.le_of_ble_eq_true rfl, Nat.le_of_ble_eq_true rfl⟩ rfl rfl (Nat.le_of_ble_eq_true rfl) lk_KL_0 rfl) (cn_X10_forgetUndosFor l G hG ad r1) rfl (fun r2 => ?_)
  exact s_ireturn (pc := 15) rfl (dc dl_X10_cloth 7 rfl)
def gX10_thing (x1 x2 : Int32) : MM Int32 :=
  bd (lf rh0 0 (gX10_isWithin x2 0 999)) fun r1 =>
  (if r1 = 0 then
  pr ((-1))
  else
  bd (lf rh23 13 (gX9_addThing x1 x2)) fun r2 =>
  bd (gX10_forgetUndosFor r2) fun r3 =>
  pr r3)
set_option maxHeartbeats 4000000 in
theorem cn_X10_thing (l : Launch) (G : Gl) (hG : gOk G) (ad : Nat → Nat) (x1 x2 : Int32) : Cn l G mX10_thing 2 lay_KL ad [.ref (ad 0), .int x1, .int x2] (gX10_thing x1 x2) := by
  refine cn_of (lv := [some (.ref (ad 0)), some (.int x1), some (.int x2)]) (by decide +kernel) rfl (Nat.le_of_ble_eq_true rfl) rfl ?_
  unfold gX10_thing
  refine s_iload_n (pc := 0) (dc dl_X10_thing 0 rfl) rfl rfl ?_
  refine s_iconst (pc := 1) (v := 0) (dc dl_X10_thing 1 rfl) ic_0 ?_
  refine s_sipush (pc := 2) (v := 999) (dc dl_X10_thing 2 rfl) si_999 ?_
  refine s_calll (pc := 5) (ρ := rh0) (rest := []) hG (ss_KL_E_rh0) (calls_S (mi := mX10_thing) (As := [.int x2, .int 0, .int 999]) (rest := []) hG (dc dl_X10_thing 3 rfl) mo_X10_isWithin ms_X10_isWithin ml_X10_74 ⟨Nat.le_of_ble_eq_true rfl, Nat.le_of_ble_eq_true rfl⟩ rfl rfl (Nat.le_of_ble_eq_true rfl)) (cn_X10_isWithin l G hG (fun i => ad (rh0 i)) x2 0 999) rfl rfl (fun r1 => ?_)
  refine s_if_ne (pc := 8) (tgt := 13) (dc dl_X10_thing 4 rfl) rfl ?_ ?_
  · refine s_iconst (pc := 11) (v := (-1)) (dc dl_X10_thing 5 rfl) ic_m1 ?_
    exact s_ireturn (pc := 12) rfl (dc dl_X10_thing 6 rfl)
  · refine s_aload_n (pc := 13) (dc dl_X10_thing 7 rfl) rfl rfl ?_
    refine s_aload_n (pc := 14) (dc dl_X10_thing 8 rfl) rfl rfl ?_
    refine s_getR (pc := 15) fl_X10_10 lk_KL_0 kk_KL_0_0 (dc dl_X10_thing 9 rfl) ?_
    refine s_getR (pc := 18) fl_X10_68 lk_KL_1 kk_KL_1_0 (dc dl_X10_thing 10 rfl) ?_
    refine s_iload_n (pc := 21) (dc dl_X10_thing 11 rfl) rfl rfl ?_
    refine s_iload_n (pc := 22) (dc dl_X10_thing 12 rfl) rfl rfl ?_
    refine s_calll (pc := 23) (ρ := rh23) (rest := [.ref (ad 0)]) hG (ss_KL_World_rh23) (calls_V (mi := mX10_thing) (o := 2) (As := [.int x1, .int x2]) (rest := [.ref (ad 0)]) hG (dc dl_X10_thing 13 rfl) mo_X9_addThing mv_X9_addThing ml_X10_88 ⟨Nat.le_of_ble_eq_true rfl, Nat.le_of_ble_eq_true rfl⟩ rfl rfl (Nat.le_of_ble_eq_true rfl) lk_KL_2 rfl) (cn_X9_addThing l G hG (fun i => ad (rh23 i)) x1 x2) rfl rfl (fun r2 => ?_)
    refine s_call (pc := 26) (rest := []) hG (calls_V (mi := mX10_thing) (o := 0) (As := [.int r2]) (rest := []) hG (dc dl_X10_thing 14 rfl) mo_X10_forgetUndosFor mv_X10_forgetUndosFor ml_X10_82 ⟨Nat.le_of_ble_eq_true rfl, Nat.le_of_ble_eq_true rfl⟩ rfl rfl (Nat.le_of_ble_eq_true rfl) lk_KL_0 rfl) (cn_X10_forgetUndosFor l G hG ad r2) rfl (fun r3 => ?_)
    exact s_ireturn (pc := 29) rfl (dc dl_X10_thing 15 rfl)
def gX10_set (x1 x2 x3 : Int32) : MM Int32 :=
  bd (lf rh23 13 (gX9_change x1 x2 x3)) fun r1 =>
  jn (fun (a3 : Unit) =>
  rz r1) (fun j2 =>
  (if r1 = 0 then
  j2 ()
  else
  bd (sv 0 5 0) fun _ =>
  j2 ()))
set_option maxHeartbeats 4000000 in
theorem cn_X10_set (l : Launch) (G : Gl) (hG : gOk G) (ad : Nat → Nat) (x1 x2 x3 : Int32) : Cn l G mX10_set 3 lay_KL ad [.ref (ad 0), .int x1, .int x2, .int x3] (gX10_set x1 x2 x3) := by
  refine cn_of (lv := [some (.ref (ad 0)), some (.int x1), some (.int x2), some (.int x3), none]) (by decide +kernel) rfl (Nat.le_of_ble_eq_true rfl) rfl ?_
  unfold gX10_set
  refine s_aload_n (pc := 0) (dc dl_X10_set 0 rfl) rfl rfl ?_
  refine s_getR (pc := 1) fl_X10_10 lk_KL_0 kk_KL_0_0 (dc dl_X10_set 1 rfl) ?_
  refine s_getR (pc := 4) fl_X10_68 lk_KL_1 kk_KL_1_0 (dc dl_X10_set 2 rfl) ?_
  refine s_iload_n (pc := 7) (dc dl_X10_set 3 rfl) rfl rfl ?_
  refine s_iload_n (pc := 8) (dc dl_X10_set 4 rfl) rfl rfl ?_
  refine s_iload_n (pc := 9) (dc dl_X10_set 5 rfl) rfl rfl ?_
  refine s_calll (pc := 10) (ρ := rh23) (rest := []) hG (ss_KL_World_rh23) (calls_V (mi := mX10_set) (o := 2) (As := [.int x1, .int x2, .int x3]) (rest := []) hG (dc dl_X10_set 6 rfl) mo_X9_change mv_X9_change ml_X10_92 ⟨Nat.le_of_ble_eq_true rfl, Nat.le_of_ble_eq_true rfl⟩ rfl rfl (Nat.le_of_ble_eq_true rfl) lk_KL_2 rfl) (cn_X9_change l G hG (fun i => ad (rh23 i)) x1 x2 x3) rfl rfl (fun r1 => ?_)
  refine s_istore (pc := 13) (lv' := [some (.ref (ad 0)), some (.int x1), some (.int x2), some (.int x3), some (.int r1)]) (dc dl_X10_set 7 rfl) (Nat.le_of_ble_eq_true rfl) rfl ?_
  refine s_iload (pc := 15) (dc dl_X10_set 8 rfl) rfl ?_
  refine s_jn (pj := 25) (fun a3 : Unit => [none, none, none, none, some (.int r1)]) (fun a3 : Unit => []) (fun a3 => ?_) (fun j2 hj2 => ?_)
  · refine s_iload (pc := 25) (dc dl_X10_set 13 rfl) rfl ?_
    exact s_zreturn (pc := 27) rfl (dc dl_X10_set 14 rfl)
  · refine s_if_eq (pc := 17) (tgt := 25) (dc dl_X10_set 9 rfl) rfl ?_ ?_
    · exact s_wk (hj2 ()) rfl
    · refine s_aload_n (pc := 20) (dc dl_X10_set 10 rfl) rfl rfl ?_
      refine s_iconst (pc := 21) (v := 0) (dc dl_X10_set 11 rfl) ic_0 ?_
      refine s_putI (pc := 22) fw_X10_36 lk_KL_0 kk_KL_0_5 (dc dl_X10_set 12 rfl) ?_
      exact s_wk (hj2 ()) rfl
def gX10_keepForUndo : MM Int32 :=
  bd (ld 0 5) fun v1 =>
  jn (fun (a3 : Unit) =>
  bd (ld 0 5) fun v4 =>
  bd (la 112 v4) fun v5 =>
  inL v5.toNatClampNeg [133, 146, 159, 172, 185, 198] (
  bd (lf (rv0 v5.toNatClampNeg) 26 gX9_copy) fun r7 =>
  bd (ld 0 5) fun v8 =>
  bd (sv 0 5 (v8 + 1)) fun _ =>
  pr 0)) (fun j2 =>
  (if v1 < 6 then
  j2 ()
  else
  bd (la 112 0) fun v9 =>
  loopC 100000 (fun (self10 : Int32 → MM Int32) (s11 : Int32) =>
  (if 6 ≤ s11 then
  inL v9.toNatClampNeg [133, 146, 159, 172, 185, 198] (
  bd (sa 112 5 v9) fun _ =>
  bd (sv 0 5 5) fun _ =>
  j2 ())
  else
  bd (la 112 s11) fun v13 =>
  inL v13.toNatClampNeg [133, 146, 159, 172, 185, 198] (
  bd (sa 112 (s11 - 1) v13) fun _ =>
  lt (s11 + 1) fun y15 =>
  self10 y15))) 1))
set_option maxHeartbeats 4000000 in
theorem cn_X10_keepForUndo (l : Launch) (G : Gl) (hG : gOk G) (ad : Nat → Nat) : Cn l G mX10_keepForUndo 2 lay_KL ad [.ref (ad 0)] (gX10_keepForUndo) := by
  refine cn_of (lv := [some (.ref (ad 0)), none, none]) (by decide +kernel) rfl (Nat.le_of_ble_eq_true rfl) rfl ?_
  unfold gX10_keepForUndo
  refine s_aload_n (pc := 0) (dc dl_X10_keepForUndo 0 rfl) rfl rfl ?_
  refine s_getI (pc := 1) fl_X10_36 lk_KL_0 kk_KL_0_5 (dc dl_X10_keepForUndo 1 rfl) (fun v1 => ?_)
  refine s_bipush (pc := 4) (v := 6) (dc dl_X10_keepForUndo 2 rfl) bi_6 ?_
  refine s_jn (pj := 56) (fun a3 : Unit => [some (.ref (ad 0)), none, none]) (fun a3 : Unit => []) (fun a3 => ?_) (fun j2 hj2 => ?_)
  · refine s_aload_n (pc := 56) (dc dl_X10_keepForUndo 34 rfl) rfl rfl ?_
    refine s_getR (pc := 57) fl_X10_32 lk_KL_0 kk_KL_0_4 (dc dl_X10_keepForUndo 35 rfl) ?_
    refine s_aload_n (pc := 60) (dc dl_X10_keepForUndo 36 rfl) rfl rfl ?_
    refine s_getI (pc := 61) fl_X10_36 lk_KL_0 kk_KL_0_5 (dc dl_X10_keepForUndo 37 rfl) (fun v4 => ?_)
    refine s_aald (pc := 64) lk_KL_112 (dc dl_X10_keepForUndo 38 rfl) (fun v5 => ?_)
    refine s_astore_n (pc := 65) (lv' := [some (.ref (ad 0)), some (.ref (ad v5.toNatClampNeg)), none]) (dc dl_X10_keepForUndo 39 rfl) rfl (Nat.le_of_ble_eq_true rfl) rfl ?_
    refine s_aload_n (pc := 66) (dc dl_X10_keepForUndo 40 rfl) rfl rfl ?_
    refine s_ifnull (pc := 67) (dc dl_X10_keepForUndo 41 rfl) ?_
    refine s_aload_n (pc := 70) (dc dl_X10_keepForUndo 42 rfl) rfl rfl ?_
    refine s_aload_n (pc := 71) (dc dl_X10_keepForUndo 43 rfl) rfl rfl ?_
    refine s_getR (pc := 72) fl_X10_10 lk_KL_0 kk_KL_0_0 (dc dl_X10_keepForUndo 44 rfl) ?_
    refine s_getR (pc := 75) fl_X10_68 lk_KL_1 kk_KL_1_0 (dc dl_X10_keepForUndo 45 rfl) ?_
    refine s_inL (fun hx6 => ?_)
    refine s_calllv (pc := 78) (ρ := (rv0 v5.toNatClampNeg)) (rest := []) hG (ssrv0 _ hx6) (calls_V (mi := mX10_keepForUndo) (o := v5.toNatClampNeg) (As := [.ref (ad 2)]) (rest := []) hG (dc dl_X10_keepForUndo 46 rfl) mo_X9_copy mv_X9_copy ml_X10_346 ⟨Nat.le_of_ble_eq_true rfl, Nat.le_of_ble_eq_true rfl⟩ rfl rfl (Nat.le_of_ble_eq_true rfl) (lkv_World _ hx6) rfl) (cn_X9_copy l G hG (fun i => ad ((rv0 v5.toNatClampNeg) i))) rfl rfl (fun r7 => ?_)
    refine s_aload_n (pc := 81) (dc dl_X10_keepForUndo 47 rfl) rfl rfl ?_
    refine s_dup (pc := 82) (dc dl_X10_keepForUndo 48 rfl) rfl ?_
    refine s_getI (pc := 83) fl_X10_36 lk_KL_0 kk_KL_0_5 (dc dl_X10_keepForUndo 49 rfl) (fun v8 => ?_)
    refine s_iconst (pc := 86) (v := 1) (dc dl_X10_keepForUndo 50 rfl) ic_1 ?_
    refine s_iadd (pc := 87) (dc dl_X10_keepForUndo 51 rfl) ?_
    refine s_putI (pc := 88) fw_X10_36 lk_KL_0 kk_KL_0_5 (dc dl_X10_keepForUndo 52 rfl) ?_
    exact s_return (pc := 91) rfl (dc dl_X10_keepForUndo 53 rfl)
  · refine s_icmp_lt (pc := 6) (tgt := 56) (dc dl_X10_keepForUndo 3 rfl) rfl ?_ ?_
    · exact s_wk (hj2 ()) rfl
    · refine s_aload_n (pc := 9) (dc dl_X10_keepForUndo 4 rfl) rfl rfl ?_
      refine s_getR (pc := 10) fl_X10_32 lk_KL_0 kk_KL_0_4 (dc dl_X10_keepForUndo 5 rfl) ?_
      refine s_iconst (pc := 13) (v := 0) (dc dl_X10_keepForUndo 6 rfl) ic_0 ?_
      refine s_aald (pc := 14) lk_KL_112 (dc dl_X10_keepForUndo 7 rfl) (fun v9 => ?_)
      refine s_astore_n (pc := 15) (lv' := [some (.ref (ad 0)), some (.ref (ad v9.toNatClampNeg)), none]) (dc dl_X10_keepForUndo 8 rfl) rfl (Nat.le_of_ble_eq_true rfl) rfl ?_
      refine s_iconst (pc := 16) (v := 1) (dc dl_X10_keepForUndo 9 rfl) ic_1 ?_
      refine s_istore_n (pc := 17) (lv' := [some (.ref (ad 0)), some (.ref (ad v9.toNatClampNeg)), some (.int 1)]) (dc dl_X10_keepForUndo 10 rfl) rfl (Nat.le_of_ble_eq_true rfl) rfl ?_
      refine s_weak (lv' := [some (.ref (ad 0)), some (.ref (ad v9.toNatClampNeg)), some (.int 1)]) rfl ?_
      refine s_loop (pc := 18) (fun s11 : Int32 => [some (.ref (ad 0)), some (.ref (ad v9.toNatClampNeg)), some (.int s11)]) [] (fun self10 hself10 s11 => ?_) _ 1
      refine s_iload_n (pc := 18) (dc dl_X10_keepForUndo 11 rfl) rfl rfl ?_
      refine s_bipush (pc := 19) (v := 6) (dc dl_X10_keepForUndo 12 rfl) bi_6 ?_
      refine s_icmp_ge (pc := 21) (tgt := 44) (dc dl_X10_keepForUndo 13 rfl) rfl ?_ ?_
      · refine s_aload_n (pc := 44) (dc dl_X10_keepForUndo 26 rfl) rfl rfl ?_
        refine s_getR (pc := 45) fl_X10_32 lk_KL_0 kk_KL_0_4 (dc dl_X10_keepForUndo 27 rfl) ?_
        refine s_iconst (pc := 48) (v := 5) (dc dl_X10_keepForUndo 28 rfl) ic_5 ?_
        refine s_aload_n (pc := 49) (dc dl_X10_keepForUndo 29 rfl) rfl rfl ?_
        refine s_inL (fun hx12 => ?_)
        refine s_aast (pc := 50) (v := v9) lk_KL_112 (lkv_World _ hx12) (dc dl_X10_keepForUndo 30 rfl) ?_
        refine s_aload_n (pc := 51) (dc dl_X10_keepForUndo 31 rfl) rfl rfl ?_
        refine s_iconst (pc := 52) (v := 5) (dc dl_X10_keepForUndo 32 rfl) ic_5 ?_
        refine s_putI (pc := 53) fw_X10_36 lk_KL_0 kk_KL_0_5 (dc dl_X10_keepForUndo 33 rfl) ?_
        exact s_wk (hj2 ()) rfl
      · refine s_aload_n (pc := 24) (dc dl_X10_keepForUndo 14 rfl) rfl rfl ?_
        refine s_getR (pc := 25) fl_X10_32 lk_KL_0 kk_KL_0_4 (dc dl_X10_keepForUndo 15 rfl) ?_
        refine s_iload_n (pc := 28) (dc dl_X10_keepForUndo 16 rfl) rfl rfl ?_
        refine s_iconst (pc := 29) (v := 1) (dc dl_X10_keepForUndo 17 rfl) ic_1 ?_
        refine s_isub (pc := 30) (dc dl_X10_keepForUndo 18 rfl) ?_
        refine s_aload_n (pc := 31) (dc dl_X10_keepForUndo 19 rfl) rfl rfl ?_
        refine s_getR (pc := 32) fl_X10_32 lk_KL_0 kk_KL_0_4 (dc dl_X10_keepForUndo 20 rfl) ?_
        refine s_iload_n (pc := 35) (dc dl_X10_keepForUndo 21 rfl) rfl rfl ?_
        refine s_aald (pc := 36) lk_KL_112 (dc dl_X10_keepForUndo 22 rfl) (fun v13 => ?_)
        refine s_inL (fun hx14 => ?_)
        refine s_aast (pc := 37) (v := v13) lk_KL_112 (lkv_World _ hx14) (dc dl_X10_keepForUndo 23 rfl) ?_
        refine s_iincL (pc := 38) (lf' := fun y15 => [some (.ref (ad 0)), some (.ref (ad v9.toNatClampNeg)), some (.int y15)]) (dc dl_X10_keepForUndo 24 rfl) rfl rfl (Nat.le_of_ble_eq_true rfl) (fun _ => rfl) (fun y15 => ?_)
        refine s_goto (pc := 41) (tgt := 18) (dc dl_X10_keepForUndo 25 rfl) rfl ?_
        exact s_wk (hself10 y15) rfl
def gX10_act (x1 x2 x3 : Int32) : MM Int32 :=
  bd (lf rh23 13 (gX9_canDo x1 x2 x3)) fun r1 =>
  (if r1 = 0 then
  rz 0
  else
  bd gX10_keepForUndo fun r2 =>
  bd (lf rh24 49 (gX1_doDeed x1 x2 x3)) fun r3 =>
  rz 1)
set_option maxHeartbeats 4000000 in
theorem cn_X10_act (l : Launch) (G : Gl) (hG : gOk G) (ad : Nat → Nat) (x1 x2 x3 : Int32) : Cn l G mX10_act 6 lay_KL ad [.ref (ad 0), .int x1, .int x2, .int x3] (gX10_act x1 x2 x3) := by
  refine cn_of (lv := [some (.ref (ad 0)), some (.int x1), some (.int x2), some (.int x3)]) (by decide +kernel) rfl (Nat.le_of_ble_eq_true rfl) rfl ?_
  unfold gX10_act
  refine s_aload_n (pc := 0) (dc dl_X10_act 0 rfl) rfl rfl ?_
  refine s_getR (pc := 1) fl_X10_10 lk_KL_0 kk_KL_0_0 (dc dl_X10_act 1 rfl) ?_
  refine s_getR (pc := 4) fl_X10_68 lk_KL_1 kk_KL_1_0 (dc dl_X10_act 2 rfl) ?_
  refine s_iload_n (pc := 7) (dc dl_X10_act 3 rfl) rfl rfl ?_
  refine s_iload_n (pc := 8) (dc dl_X10_act 4 rfl) rfl rfl ?_
  refine s_iload_n (pc := 9) (dc dl_X10_act 5 rfl) rfl rfl ?_
  refine s_calll (pc := 10) (ρ := rh23) (rest := []) hG (ss_KL_World_rh23) (calls_V (mi := mX10_act) (o := 2) (As := [.int x1, .int x2, .int x3]) (rest := []) hG (dc dl_X10_act 6 rfl) mo_X9_canDo mv_X9_canDo ml_X10_95 ⟨Nat.le_of_ble_eq_true rfl, Nat.le_of_ble_eq_true rfl⟩ rfl rfl (Nat.le_of_ble_eq_true rfl) lk_KL_2 rfl) (cn_X9_canDo l G hG (fun i => ad (rh23 i)) x1 x2 x3) rfl rfl (fun r1 => ?_)
  refine s_if_ne (pc := 13) (tgt := 18) (dc dl_X10_act 7 rfl) rfl ?_ ?_
  · refine s_iconst (pc := 16) (v := 0) (dc dl_X10_act 8 rfl) ic_0 ?_
    exact s_zreturn (pc := 17) rfl (dc dl_X10_act 9 rfl)
  · refine s_aload_n (pc := 18) (dc dl_X10_act 10 rfl) rfl rfl ?_
    refine s_callv (pc := 19) (rest := []) hG (calls_V (mi := mX10_act) (o := 0) (As := []) (rest := []) hG (dc dl_X10_act 11 rfl) mo_X10_keepForUndo mv_X10_keepForUndo ml_X10_98 ⟨Nat.le_of_ble_eq_true rfl, Nat.le_of_ble_eq_true rfl⟩ rfl rfl (Nat.le_of_ble_eq_true rfl) lk_KL_0 rfl) (cn_X10_keepForUndo l G hG ad) rfl (fun r2 => ?_)
    refine s_aload_n (pc := 22) (dc dl_X10_act 12 rfl) rfl rfl ?_
    refine s_getR (pc := 23) fl_X10_10 lk_KL_0 kk_KL_0_0 (dc dl_X10_act 13 rfl) ?_
    refine s_aload_n (pc := 26) (dc dl_X10_act 14 rfl) rfl rfl ?_
    refine s_getR (pc := 27) fl_X10_10 lk_KL_0 kk_KL_0_0 (dc dl_X10_act 15 rfl) ?_
    refine s_getR (pc := 30) fl_X10_68 lk_KL_1 kk_KL_1_0 (dc dl_X10_act 16 rfl) ?_
    refine s_iload_n (pc := 33) (dc dl_X10_act 17 rfl) rfl rfl ?_
    refine s_iload_n (pc := 34) (dc dl_X10_act 18 rfl) rfl rfl ?_
    refine s_iload_n (pc := 35) (dc dl_X10_act 19 rfl) rfl rfl ?_
    refine s_calllv (pc := 36) (ρ := rh24) (rest := []) hG (ss_KL_HW_rh24) (calls_V (mi := mX10_act) (o := 1) (As := [.ref (ad 2), .int x1, .int x2, .int x3]) (rest := []) hG (dc dl_X10_act 20 rfl) mo_X1_doDeed mv_X1_doDeed ml_X10_101 ⟨Nat.le_of_ble_eq_true rfl, Nat.le_of_ble_eq_true rfl⟩ rfl rfl (Nat.le_of_ble_eq_true rfl) lk_KL_1 rfl) (cn_X1_doDeed l G hG (fun i => ad (rh24 i)) x1 x2 x3) rfl rfl (fun r3 => ?_)
    refine s_iconst (pc := 39) (v := 1) (dc dl_X10_act 21 rfl) ic_1 ?_
    exact s_zreturn (pc := 40) rfl (dc dl_X10_act 22 rfl)
def gX10_days (x1 : Int32) : MM Int32 :=
  bd (lf rh0 0 (gX10_isWithin x1 1 60)) fun r1 =>
  jn (fun (a3 : Unit) =>
  pr ((-1))) (fun j2 =>
  (if r1 = 0 then
  j2 ()
  else
  bd (ld 2 2) fun v4 =>
  (if (v4 + x1) ≤ 9999 then
  loopC 100000 (fun (self5 : (Int32 × Int32) → MM Int32) (s6 : Int32 × Int32) =>
  (if x1 ≤ s6.2 then
  pr s6.1
  else
  bd gX10_keepForUndo fun r7 =>
  bd (lf rh24 49 gX1_passDay) fun r8 =>
  lt (s6.1 + r8) fun y9 =>
  lt (s6.2 + 1) fun y10 =>
  self5 (y9, y10))) (0, 0)
  else
  j2 ())))
set_option maxHeartbeats 4000000 in
theorem cn_X10_days (l : Launch) (G : Gl) (hG : gOk G) (ad : Nat → Nat) (x1 : Int32) : Cn l G mX10_days 7 lay_KL ad [.ref (ad 0), .int x1] (gX10_days x1) := by
  refine cn_of (lv := [some (.ref (ad 0)), some (.int x1), none, none]) (by decide +kernel) rfl (Nat.le_of_ble_eq_true rfl) rfl ?_
  unfold gX10_days
  refine s_iload_n (pc := 0) (dc dl_X10_days 0 rfl) rfl rfl ?_
  refine s_iconst (pc := 1) (v := 1) (dc dl_X10_days 1 rfl) ic_1 ?_
  refine s_bipush (pc := 2) (v := 60) (dc dl_X10_days 2 rfl) bi_60 ?_
  refine s_calll (pc := 4) (ρ := rh0) (rest := []) hG (ss_KL_E_rh0) (calls_S (mi := mX10_days) (As := [.int x1, .int 1, .int 60]) (rest := []) hG (dc dl_X10_days 3 rfl) mo_X10_isWithin ms_X10_isWithin ml_X10_74 ⟨Nat.le_of_ble_eq_true rfl, Nat.le_of_ble_eq_true rfl⟩ rfl rfl (Nat.le_of_ble_eq_true rfl)) (cn_X10_isWithin l G hG (fun i => ad (rh0 i)) x1 1 60) rfl rfl (fun r1 => ?_)
  refine s_jn (pj := 28) (fun a3 : Unit => [none, none, none, none]) (fun a3 : Unit => []) (fun a3 => ?_) (fun j2 hj2 => ?_)
  · refine s_iconst (pc := 28) (v := (-1)) (dc dl_X10_days 13 rfl) ic_m1 ?_
    exact s_ireturn (pc := 29) rfl (dc dl_X10_days 14 rfl)
  · refine s_if_eq (pc := 7) (tgt := 28) (dc dl_X10_days 4 rfl) rfl ?_ ?_
    · exact s_wk (hj2 ()) rfl
    · refine s_aload_n (pc := 10) (dc dl_X10_days 5 rfl) rfl rfl ?_
      refine s_getR (pc := 11) fl_X10_10 lk_KL_0 kk_KL_0_0 (dc dl_X10_days 6 rfl) ?_
      refine s_getR (pc := 14) fl_X10_68 lk_KL_1 kk_KL_1_0 (dc dl_X10_days 7 rfl) ?_
      refine s_getI (pc := 17) fl_X10_105 lk_KL_2 kk_KL_2_2 (dc dl_X10_days 8 rfl) (fun v4 => ?_)
      refine s_iload_n (pc := 20) (dc dl_X10_days 9 rfl) rfl rfl ?_
      refine s_iadd (pc := 21) (dc dl_X10_days 10 rfl) ?_
      refine s_sipush (pc := 22) (v := 9999) (dc dl_X10_days 11 rfl) si_9999 ?_
      refine s_icmp_le (pc := 25) (tgt := 30) (dc dl_X10_days 12 rfl) rfl ?_ ?_
      · refine s_iconst (pc := 30) (v := 0) (dc dl_X10_days 15 rfl) ic_0 ?_
        refine s_istore_n (pc := 31) (lv' := [some (.ref (ad 0)), some (.int x1), some (.int 0), none]) (dc dl_X10_days 16 rfl) rfl (Nat.le_of_ble_eq_true rfl) rfl ?_
        refine s_iconst (pc := 32) (v := 0) (dc dl_X10_days 17 rfl) ic_0 ?_
        refine s_istore_n (pc := 33) (lv' := [some (.ref (ad 0)), some (.int x1), some (.int 0), some (.int 0)]) (dc dl_X10_days 18 rfl) rfl (Nat.le_of_ble_eq_true rfl) rfl ?_
        refine s_weak (lv' := [some (.ref (ad 0)), some (.int x1), some (.int 0), some (.int 0)]) rfl ?_
        refine s_loop (pc := 34) (fun s6 : Int32 × Int32 => [some (.ref (ad 0)), some (.int x1), some (.int s6.1), some (.int s6.2)]) [] (fun self5 hself5 s6 => ?_) _ (0, 0)
        refine s_iload_n (pc := 34) (dc dl_X10_days 19 rfl) rfl rfl ?_
        refine s_iload_n (pc := 35) (dc dl_X10_days 20 rfl) rfl rfl ?_
        refine s_icmp_ge (pc := 36) (tgt := 66) (dc dl_X10_days 21 rfl) rfl ?_ ?_
        · refine s_iload_n (pc := 66) (dc dl_X10_days 35 rfl) rfl rfl ?_
          exact s_ireturn (pc := 67) rfl (dc dl_X10_days 36 rfl)
        · refine s_aload_n (pc := 39) (dc dl_X10_days 22 rfl) rfl rfl ?_
          refine s_callv (pc := 40) (rest := []) hG (calls_V (mi := mX10_days) (o := 0) (As := []) (rest := []) hG (dc dl_X10_days 23 rfl) mo_X10_keepForUndo mv_X10_keepForUndo ml_X10_98 ⟨Nat.le_of_ble_eq_true rfl, Nat.le_of_ble_eq_true rfl⟩ rfl rfl (Nat.le_of_ble_eq_true rfl) lk_KL_0 rfl) (cn_X10_keepForUndo l G hG ad) rfl (fun r7 => ?_)
          refine s_iload_n (pc := 43) (dc dl_X10_days 24 rfl) rfl rfl ?_
          refine s_aload_n (pc := 44) (dc dl_X10_days 25 rfl) rfl rfl ?_
          refine s_getR (pc := 45) fl_X10_10 lk_KL_0 kk_KL_0_0 (dc dl_X10_days 26 rfl) ?_
          refine s_aload_n (pc := 48) (dc dl_X10_days 27 rfl) rfl rfl ?_
          refine s_getR (pc := 49) fl_X10_10 lk_KL_0 kk_KL_0_0 (dc dl_X10_days 28 rfl) ?_
          refine s_getR (pc := 52) fl_X10_68 lk_KL_1 kk_KL_1_0 (dc dl_X10_days 29 rfl) ?_
          refine s_calll (pc := 55) (ρ := rh24) (rest := [.int s6.1]) hG (ss_KL_HW_rh24) (calls_V (mi := mX10_days) (o := 1) (As := [.ref (ad 2)]) (rest := [.int s6.1]) hG (dc dl_X10_days 30 rfl) mo_X1_passDay mv_X1_passDay ml_X10_108 ⟨Nat.le_of_ble_eq_true rfl, Nat.le_of_ble_eq_true rfl⟩ rfl rfl (Nat.le_of_ble_eq_true rfl) lk_KL_1 rfl) (cn_X1_passDay l G hG (fun i => ad (rh24 i))) rfl rfl (fun r8 => ?_)
          refine s_iadd (pc := 58) (dc dl_X10_days 31 rfl) ?_
          refine s_istore_nL (pc := 59) (lf' := fun y9 => [some (.ref (ad 0)), some (.int x1), some (.int y9), some (.int s6.2)]) (dc dl_X10_days 32 rfl) rfl (Nat.le_of_ble_eq_true rfl) (fun _ => rfl) (fun y9 => ?_)
          refine s_iincL (pc := 60) (lf' := fun y10 => [some (.ref (ad 0)), some (.int x1), some (.int y9), some (.int y10)]) (dc dl_X10_days 33 rfl) rfl rfl (Nat.le_of_ble_eq_true rfl) (fun _ => rfl) (fun y10 => ?_)
          refine s_goto (pc := 63) (tgt := 34) (dc dl_X10_days 34 rfl) rfl ?_
          exact s_wk (hself5 (y9, y10)) rfl
      · exact s_wk (hj2 ()) rfl
def gX10_feed (x1 x2 x3 x4 x5 : Int32) : MM Int32 :=
  bd (ld 113 0) fun v1 =>
  (if (v1 + 20) ≤ 400 then
  bd (lf rh25 2 (gX7_put x1)) fun r2 =>
  bd (lf rh25 2 (gX7_put x2)) fun r3 =>
  bd (lf rh25 2 (gX7_put x3)) fun r4 =>
  bd (lf rh25 2 (gX7_put x4)) fun r5 =>
  bd (lf rh25 2 (gX7_put x5)) fun r6 =>
  bd (ld 113 0) fun v7 =>
  pr v7
  else
  pr ((-1)))
set_option maxHeartbeats 4000000 in
theorem cn_X10_feed (l : Launch) (G : Gl) (hG : gOk G) (ad : Nat → Nat) (x1 x2 x3 x4 x5 : Int32) : Cn l G mX10_feed 1 lay_KL ad [.ref (ad 0), .int x1, .int x2, .int x3, .int x4, .int x5] (gX10_feed x1 x2 x3 x4 x5) := by
  refine cn_of (lv := [some (.ref (ad 0)), some (.int x1), some (.int x2), some (.int x3), some (.int x4), some (.int x5)]) (by decide +kernel) rfl (Nat.le_of_ble_eq_true rfl) rfl ?_
  unfold gX10_feed
  refine s_aload_n (pc := 0) (dc dl_X10_feed 0 rfl) rfl rfl ?_
  refine s_getR (pc := 1) fl_X10_43 lk_KL_0 kk_KL_0_6 (dc dl_X10_feed 1 rfl) ?_
  refine s_getI (pc := 4) fl_X10_112 lk_KL_113 kk_KL_113_0 (dc dl_X10_feed 2 rfl) (fun v1 => ?_)
  refine s_bipush (pc := 7) (v := 20) (dc dl_X10_feed 3 rfl) bi_20 ?_
  refine s_iadd (pc := 9) (dc dl_X10_feed 4 rfl) ?_
  refine s_sipush (pc := 10) (v := 400) (dc dl_X10_feed 5 rfl) si_400 ?_
  refine s_icmp_le (pc := 13) (tgt := 18) (dc dl_X10_feed 6 rfl) rfl ?_ ?_
  · refine s_aload_n (pc := 18) (dc dl_X10_feed 9 rfl) rfl rfl ?_
    refine s_getR (pc := 19) fl_X10_43 lk_KL_0 kk_KL_0_6 (dc dl_X10_feed 10 rfl) ?_
    refine s_iload_n (pc := 22) (dc dl_X10_feed 11 rfl) rfl rfl ?_
    refine s_calllv (pc := 23) (ρ := rh25) (rest := []) hG (ss_KL_Tape_rh25) (calls_V (mi := mX10_feed) (o := 113) (As := [.int x1]) (rest := []) hG (dc dl_X10_feed 12 rfl) mo_X7_put mv_X7_put ml_X10_115 ⟨Nat.le_of_ble_eq_true rfl, Nat.le_of_ble_eq_true rfl⟩ rfl rfl (Nat.le_of_ble_eq_true rfl) lk_KL_113 rfl) (cn_X7_put l G hG (fun i => ad (rh25 i)) x1) rfl rfl (fun r2 => ?_)
    refine s_aload_n (pc := 26) (dc dl_X10_feed 13 rfl) rfl rfl ?_
    refine s_getR (pc := 27) fl_X10_43 lk_KL_0 kk_KL_0_6 (dc dl_X10_feed 14 rfl) ?_
    refine s_iload_n (pc := 30) (dc dl_X10_feed 15 rfl) rfl rfl ?_
    refine s_calllv (pc := 31) (ρ := rh25) (rest := []) hG (ss_KL_Tape_rh25) (calls_V (mi := mX10_feed) (o := 113) (As := [.int x2]) (rest := []) hG (dc dl_X10_feed 16 rfl) mo_X7_put mv_X7_put ml_X10_115 ⟨Nat.le_of_ble_eq_true rfl, Nat.le_of_ble_eq_true rfl⟩ rfl rfl (Nat.le_of_ble_eq_true rfl) lk_KL_113 rfl) (cn_X7_put l G hG (fun i => ad (rh25 i)) x2) rfl rfl (fun r3 => ?_)
    refine s_aload_n (pc := 34) (dc dl_X10_feed 17 rfl) rfl rfl ?_
    refine s_getR (pc := 35) fl_X10_43 lk_KL_0 kk_KL_0_6 (dc dl_X10_feed 18 rfl) ?_
    refine s_iload_n (pc := 38) (dc dl_X10_feed 19 rfl) rfl rfl ?_
    refine s_calllv (pc := 39) (ρ := rh25) (rest := []) hG (ss_KL_Tape_rh25) (calls_V (mi := mX10_feed) (o := 113) (As := [.int x3]) (rest := []) hG (dc dl_X10_feed 20 rfl) mo_X7_put mv_X7_put ml_X10_115 ⟨Nat.le_of_ble_eq_true rfl, Nat.le_of_ble_eq_true rfl⟩ rfl rfl (Nat.le_of_ble_eq_true rfl) lk_KL_113 rfl) (cn_X7_put l G hG (fun i => ad (rh25 i)) x3) rfl rfl (fun r4 => ?_)
    refine s_aload_n (pc := 42) (dc dl_X10_feed 21 rfl) rfl rfl ?_
    refine s_getR (pc := 43) fl_X10_43 lk_KL_0 kk_KL_0_6 (dc dl_X10_feed 22 rfl) ?_
    refine s_iload (pc := 46) (dc dl_X10_feed 23 rfl) rfl ?_
    refine s_calllv (pc := 48) (ρ := rh25) (rest := []) hG (ss_KL_Tape_rh25) (calls_V (mi := mX10_feed) (o := 113) (As := [.int x4]) (rest := []) hG (dc dl_X10_feed 24 rfl) mo_X7_put mv_X7_put ml_X10_115 ⟨Nat.le_of_ble_eq_true rfl, Nat.le_of_ble_eq_true rfl⟩ rfl rfl (Nat.le_of_ble_eq_true rfl) lk_KL_113 rfl) (cn_X7_put l G hG (fun i => ad (rh25 i)) x4) rfl rfl (fun r5 => ?_)
    refine s_aload_n (pc := 51) (dc dl_X10_feed 25 rfl) rfl rfl ?_
    refine s_getR (pc := 52) fl_X10_43 lk_KL_0 kk_KL_0_6 (dc dl_X10_feed 26 rfl) ?_
    refine s_iload (pc := 55) (dc dl_X10_feed 27 rfl) rfl ?_
    refine s_calllv (pc := 57) (ρ := rh25) (rest := []) hG (ss_KL_Tape_rh25) (calls_V (mi := mX10_feed) (o := 113) (As := [.int x5]) (rest := []) hG (dc dl_X10_feed 28 rfl) mo_X7_put mv_X7_put ml_X10_115 ⟨Nat.le_of_ble_eq_true rfl, Nat.le_of_ble_eq_true rfl⟩ rfl rfl (Nat.le_of_ble_eq_true rfl) lk_KL_113 rfl) (cn_X7_put l G hG (fun i => ad (rh25 i)) x5) rfl rfl (fun r6 => ?_)
    refine s_aload_n (pc := 60) (dc dl_X10_feed 29 rfl) rfl rfl ?_
    refine s_getR (pc := 61) fl_X10_43 lk_KL_0 kk_KL_0_6 (dc dl_X10_feed 30 rfl) ?_
    refine s_getI (pc := 64) fl_X10_112 lk_KL_113 kk_KL_113_0 (dc dl_X10_feed 31 rfl) (fun v7 => ?_)
    exact s_ireturn (pc := 67) rfl (dc dl_X10_feed 32 rfl)
  · refine s_iconst (pc := 16) (v := (-1)) (dc dl_X10_feed 7 rfl) ic_m1 ?_
    exact s_ireturn (pc := 17) rfl (dc dl_X10_feed 8 rfl)
def gX10_end (x1 : Int32) : MM Int32 :=
  bd (ld 113 0) fun v1 =>
  bd (lf rh0 0 (gX10_isWithin x1 0 v1)) fun r2 =>
  (if r2 = 0 then
  rz 0
  else
  bd (sv 113 0 x1) fun _ =>
  rz 1)
set_option maxHeartbeats 4000000 in
theorem cn_X10_end (l : Launch) (G : Gl) (hG : gOk G) (ad : Nat → Nat) (x1 : Int32) : Cn l G mX10_end 1 lay_KL ad [.ref (ad 0), .int x1] (gX10_end x1) := by
  refine cn_of (lv := [some (.ref (ad 0)), some (.int x1)]) (by decide +kernel) rfl (Nat.le_of_ble_eq_true rfl) rfl ?_
  unfold gX10_end
  refine s_iload_n (pc := 0) (dc dl_X10_end 0 rfl) rfl rfl ?_
  refine s_iconst (pc := 1) (v := 0) (dc dl_X10_end 1 rfl) ic_0 ?_
  refine s_aload_n (pc := 2) (dc dl_X10_end 2 rfl) rfl rfl ?_
  refine s_getR (pc := 3) fl_X10_43 lk_KL_0 kk_KL_0_6 (dc dl_X10_end 3 rfl) ?_
  refine s_getI (pc := 6) fl_X10_112 lk_KL_113 kk_KL_113_0 (dc dl_X10_end 4 rfl) (fun v1 => ?_)
  refine s_calll (pc := 9) (ρ := rh0) (rest := []) hG (ss_KL_E_rh0) (calls_S (mi := mX10_end) (As := [.int x1, .int 0, .int v1]) (rest := []) hG (dc dl_X10_end 5 rfl) mo_X10_isWithin ms_X10_isWithin ml_X10_74 ⟨Nat.le_of_ble_eq_true rfl, Nat.le_of_ble_eq_true rfl⟩ rfl rfl (Nat.le_of_ble_eq_true rfl)) (cn_X10_isWithin l G hG (fun i => ad (rh0 i)) x1 0 v1) rfl rfl (fun r2 => ?_)
  refine s_if_ne (pc := 12) (tgt := 17) (dc dl_X10_end 6 rfl) rfl ?_ ?_
  · refine s_iconst (pc := 15) (v := 0) (dc dl_X10_end 7 rfl) ic_0 ?_
    exact s_zreturn (pc := 16) rfl (dc dl_X10_end 8 rfl)
  · refine s_aload_n (pc := 17) (dc dl_X10_end 9 rfl) rfl rfl ?_
    refine s_getR (pc := 18) fl_X10_43 lk_KL_0 kk_KL_0_6 (dc dl_X10_end 10 rfl) ?_
    refine s_iload_n (pc := 21) (dc dl_X10_end 11 rfl) rfl rfl ?_
    refine s_putI (pc := 22) fw_X10_112 lk_KL_113 kk_KL_113_0 (dc dl_X10_end 12 rfl) ?_
    refine s_iconst (pc := 25) (v := 1) (dc dl_X10_end 13 rfl) ic_1 ?_
    exact s_zreturn (pc := 26) rfl (dc dl_X10_end 14 rfl)
def gX10_tellLines (x1 : Int32) : MM Int32 :=
  jn (fun (a2 : Nat) =>
  inL a2 [24, 29, 34] (
  bd (lf (rv1 a2) 10 gX5_copy) fun r4 =>
  jn (fun (a6 : Unit) =>
  bd (ld a2 0) fun v7 =>
  pr v7) (fun j5 =>
  (if x1 = 3 then
  j5 ()
  else
  bd (sv 0 5 0) fun _ =>
  j5 ())))) (fun j1 =>
  (if x1 = 1 then
  j1 24
  else
  (if x1 = 2 then
  j1 29
  else
  j1 34)))
set_option maxHeartbeats 4000000 in
theorem cn_X10_tellLines (l : Launch) (G : Gl) (hG : gOk G) (ad : Nat → Nat) (x1 : Int32) : Cn l G mX10_tellLines 2 lay_KL ad [.ref (ad 0), .int x1] (gX10_tellLines x1) := by
  refine cn_of (lv := [some (.ref (ad 0)), some (.int x1), none]) (by decide +kernel) rfl (Nat.le_of_ble_eq_true rfl) rfl ?_
  unfold gX10_tellLines
  refine s_iload_n (pc := 0) (dc dl_X10_tellLines 0 rfl) rfl rfl ?_
  refine s_iconst (pc := 1) (v := 1) (dc dl_X10_tellLines 1 rfl) ic_1 ?_
  refine s_jn (pj := 37) (fun a2 : Nat => [some (.ref (ad 0)), some (.int x1), none]) (fun a2 : Nat => [.ref (ad a2)]) (fun a2 => ?_) (fun j1 hj1 => ?_)
  · refine s_astore_n (pc := 37) (lv' := [some (.ref (ad 0)), some (.int x1), some (.ref (ad a2))]) (dc dl_X10_tellLines 17 rfl) rfl (Nat.le_of_ble_eq_true rfl) rfl ?_
    refine s_aload_n (pc := 38) (dc dl_X10_tellLines 18 rfl) rfl rfl ?_
    refine s_aload_n (pc := 39) (dc dl_X10_tellLines 19 rfl) rfl rfl ?_
    refine s_getR (pc := 40) fl_X10_57 lk_KL_0 kk_KL_0_8 (dc dl_X10_tellLines 20 rfl) ?_
    refine s_getR (pc := 43) fl_X10_363 lk_KL_123 kk_KL_123_0 (dc dl_X10_tellLines 21 rfl) ?_
    refine s_inL (fun hx3 => ?_)
    refine s_calllv (pc := 46) (ρ := (rv1 a2)) (rest := []) hG (ssrv1 _ hx3) (calls_V (mi := mX10_tellLines) (o := a2) (As := [.ref (ad 124)]) (rest := []) hG (dc dl_X10_tellLines 22 rfl) mo_X5_copy mv_X5_copy ml_X10_365 ⟨Nat.le_of_ble_eq_true rfl, Nat.le_of_ble_eq_true rfl⟩ rfl rfl (Nat.le_of_ble_eq_true rfl) (lkv_Lines _ hx3) rfl) (cn_X5_copy l G hG (fun i => ad ((rv1 a2) i))) rfl rfl (fun r4 => ?_)
    refine s_iload_n (pc := 49) (dc dl_X10_tellLines 23 rfl) rfl rfl ?_
    refine s_iconst (pc := 50) (v := 3) (dc dl_X10_tellLines 24 rfl) ic_3 ?_
    refine s_jn (pj := 59) (fun a6 : Unit => [none, none, some (.ref (ad a2))]) (fun a6 : Unit => []) (fun a6 => ?_) (fun j5 hj5 => ?_)
    · refine s_aload_n (pc := 59) (dc dl_X10_tellLines 29 rfl) rfl rfl ?_
      refine s_getI (pc := 60) fl_X10_358 (lkv_Lines _ hx3) rfl (dc dl_X10_tellLines 30 rfl) (fun v7 => ?_)
      exact s_ireturn (pc := 63) rfl (dc dl_X10_tellLines 31 rfl)
    · refine s_icmp_eq (pc := 51) (tgt := 59) (dc dl_X10_tellLines 25 rfl) rfl ?_ ?_
      · exact s_wk (hj5 ()) rfl
      · refine s_aload_n (pc := 54) (dc dl_X10_tellLines 26 rfl) rfl rfl ?_
        refine s_iconst (pc := 55) (v := 0) (dc dl_X10_tellLines 27 rfl) ic_0 ?_
        refine s_putI (pc := 56) fw_X10_36 lk_KL_0 kk_KL_0_5 (dc dl_X10_tellLines 28 rfl) ?_
        exact s_wk (hj5 ()) rfl
  · refine s_icmp_ne (pc := 2) (tgt := 15) (dc dl_X10_tellLines 2 rfl) rfl ?_ ?_
    · refine s_aload_n (pc := 5) (dc dl_X10_tellLines 3 rfl) rfl rfl ?_
      refine s_getR (pc := 6) fl_X10_10 lk_KL_0 kk_KL_0_0 (dc dl_X10_tellLines 4 rfl) ?_
      refine s_getR (pc := 9) fl_X10_355 lk_KL_1 kk_KL_1_3 (dc dl_X10_tellLines 5 rfl) ?_
      refine s_goto (pc := 12) (tgt := 37) (dc dl_X10_tellLines 6 rfl) rfl ?_
      exact s_wk (hj1 24) rfl
    · refine s_iload_n (pc := 15) (dc dl_X10_tellLines 7 rfl) rfl rfl ?_
      refine s_iconst (pc := 16) (v := 2) (dc dl_X10_tellLines 8 rfl) ic_2 ?_
      refine s_icmp_ne (pc := 17) (tgt := 30) (dc dl_X10_tellLines 9 rfl) rfl ?_ ?_
      · refine s_aload_n (pc := 20) (dc dl_X10_tellLines 10 rfl) rfl rfl ?_
        refine s_getR (pc := 21) fl_X10_10 lk_KL_0 kk_KL_0_0 (dc dl_X10_tellLines 11 rfl) ?_
        refine s_getR (pc := 24) fl_X10_359 lk_KL_1 kk_KL_1_4 (dc dl_X10_tellLines 12 rfl) ?_
        refine s_goto (pc := 27) (tgt := 37) (dc dl_X10_tellLines 13 rfl) rfl ?_
        exact s_wk (hj1 29) rfl
      · refine s_aload_n (pc := 30) (dc dl_X10_tellLines 14 rfl) rfl rfl ?_
        refine s_getR (pc := 31) fl_X10_10 lk_KL_0 kk_KL_0_0 (dc dl_X10_tellLines 15 rfl) ?_
        refine s_getR (pc := 34) fl_X10_176 lk_KL_1 kk_KL_1_5 (dc dl_X10_tellLines 16 rfl) ?_
        exact s_wk (hj1 34) rfl
def gX10_text (x1 : Int32) : MM Int32 :=
  bd (lf rh25 2 gX7_rewind) fun r1 =>
  jn (fun (a3 : Int32) =>
  bd (sv 113 0 0) fun _ =>
  pr a3) (fun j2 =>
  jn (fun (a5 : Unit) =>
  bd (lf rh0 0 (gX10_isWithin x1 1 3)) fun r6 =>
  (if r6 = 0 then
  j2 ((-1))
  else
  bd (lf rh26 21 (gX4_readLines x1)) fun r7 =>
  (if r7 = 0 then
  j2 ((-1))
  else
  bd (gX10_tellLines x1) fun r8 =>
  j2 r8))) (fun j4 =>
  (if x1 = 0 then
  bd (lf rh27 10 gX3_readLaw) fun r9 =>
  (if r9 = 0 then
  j4 ()
  else
  bd (lf rh28 14 gX2_copy) fun r10 =>
  bd (ld 17 0) fun v11 =>
  j2 v11)
  else
  j4 ())))
set_option maxHeartbeats 4000000 in
theorem cn_X10_text (l : Launch) (G : Gl) (hG : gOk G) (ad : Nat → Nat) (x1 : Int32) : Cn l G mX10_text 50 lay_KL ad [.ref (ad 0), .int x1] (gX10_text x1) := by
  refine cn_of (lv := [some (.ref (ad 0)), some (.int x1), none]) (by decide +kernel) rfl (Nat.le_of_ble_eq_true rfl) rfl ?_
  unfold gX10_text
  refine s_aload_n (pc := 0) (dc dl_X10_text 0 rfl) rfl rfl ?_
  refine s_getR (pc := 1) fl_X10_43 lk_KL_0 kk_KL_0_6 (dc dl_X10_text 1 rfl) ?_
  refine s_calllv (pc := 4) (ρ := rh25) (rest := []) hG (ss_KL_Tape_rh25) (calls_V (mi := mX10_text) (o := 113) (As := []) (rest := []) hG (dc dl_X10_text 2 rfl) mo_X7_rewind mv_X7_rewind ml_X10_119 ⟨Nat.le_of_ble_eq_true rfl, Nat.le_of_ble_eq_true rfl⟩ rfl rfl (Nat.le_of_ble_eq_true rfl) lk_KL_113 rfl) (cn_X7_rewind l G hG (fun i => ad (rh25 i))) rfl rfl (fun r1 => ?_)
  refine s_iconst (pc := 7) (v := (-1)) (dc dl_X10_text 3 rfl) ic_m1 ?_
  refine s_istore_n (pc := 8) (lv' := [some (.ref (ad 0)), some (.int x1), some (.int ((-1)))]) (dc dl_X10_text 4 rfl) rfl (Nat.le_of_ble_eq_true rfl) rfl ?_
  refine s_iload_n (pc := 9) (dc dl_X10_text 5 rfl) rfl rfl ?_
  refine s_jn (pj := 95) (fun a3 : Int32 => [some (.ref (ad 0)), none, some (.int a3)]) (fun a3 : Int32 => []) (fun a3 => ?_) (fun j2 hj2 => ?_)
  · refine s_aload_n (pc := 95) (dc dl_X10_text 45 rfl) rfl rfl ?_
    refine s_getR (pc := 96) fl_X10_43 lk_KL_0 kk_KL_0_6 (dc dl_X10_text 46 rfl) ?_
    refine s_iconst (pc := 99) (v := 0) (dc dl_X10_text 47 rfl) ic_0 ?_
    refine s_putI (pc := 100) fw_X10_112 lk_KL_113 kk_KL_113_0 (dc dl_X10_text 48 rfl) ?_
    refine s_iload_n (pc := 103) (dc dl_X10_text 49 rfl) rfl rfl ?_
    exact s_ireturn (pc := 104) rfl (dc dl_X10_text 50 rfl)
  · refine s_jn (pj := 58) (fun a5 : Unit => [some (.ref (ad 0)), some (.int x1), some (.int ((-1)))]) (fun a5 : Unit => []) (fun a5 => ?_) (fun j4 hj4 => ?_)
    · refine s_iload_n (pc := 58) (dc dl_X10_text 26 rfl) rfl rfl ?_
      refine s_iconst (pc := 59) (v := 1) (dc dl_X10_text 27 rfl) ic_1 ?_
      refine s_iconst (pc := 60) (v := 3) (dc dl_X10_text 28 rfl) ic_3 ?_
      refine s_calll (pc := 61) (ρ := rh0) (rest := []) hG (ss_KL_E_rh0) (calls_S (mi := mX10_text) (As := [.int x1, .int 1, .int 3]) (rest := []) hG (dc dl_X10_text 29 rfl) mo_X10_isWithin ms_X10_isWithin ml_X10_74 ⟨Nat.le_of_ble_eq_true rfl, Nat.le_of_ble_eq_true rfl⟩ rfl rfl (Nat.le_of_ble_eq_true rfl)) (cn_X10_isWithin l G hG (fun i => ad (rh0 i)) x1 1 3) rfl rfl (fun r6 => ?_)
      refine s_if_eq (pc := 64) (tgt := 95) (dc dl_X10_text 30 rfl) rfl ?_ ?_
      · exact s_wk (hj2 ((-1))) rfl
      · refine s_aload_n (pc := 67) (dc dl_X10_text 31 rfl) rfl rfl ?_
        refine s_getR (pc := 68) fl_X10_57 lk_KL_0 kk_KL_0_8 (dc dl_X10_text 32 rfl) ?_
        refine s_aload_n (pc := 71) (dc dl_X10_text 33 rfl) rfl rfl ?_
        refine s_getR (pc := 72) fl_X10_43 lk_KL_0 kk_KL_0_6 (dc dl_X10_text 34 rfl) ?_
        refine s_iload_n (pc := 75) (dc dl_X10_text 35 rfl) rfl rfl ?_
        refine s_aload_n (pc := 76) (dc dl_X10_text 36 rfl) rfl rfl ?_
        refine s_getR (pc := 77) fl_X10_10 lk_KL_0 kk_KL_0_0 (dc dl_X10_text 37 rfl) ?_
        refine s_getR (pc := 80) fl_X10_68 lk_KL_1 kk_KL_1_0 (dc dl_X10_text 38 rfl) ?_
        refine s_calll (pc := 83) (ρ := rh26) (rest := []) hG (ss_KL_LineR_rh26) (calls_V (mi := mX10_text) (o := 123) (As := [.ref (ad 113), .int x1, .ref (ad 2)]) (rest := []) hG (dc dl_X10_text 39 rfl) mo_X4_readLines mv_X4_readLines ml_X10_140 ⟨Nat.le_of_ble_eq_true rfl, Nat.le_of_ble_eq_true rfl⟩ rfl rfl (Nat.le_of_ble_eq_true rfl) lk_KL_123 rfl) (cn_X4_readLines l G hG (fun i => ad (rh26 i)) x1) rfl rfl (fun r7 => ?_)
        refine s_if_eq (pc := 86) (tgt := 95) (dc dl_X10_text 40 rfl) rfl ?_ ?_
        · exact s_wk (hj2 ((-1))) rfl
        · refine s_aload_n (pc := 89) (dc dl_X10_text 41 rfl) rfl rfl ?_
          refine s_iload_n (pc := 90) (dc dl_X10_text 42 rfl) rfl rfl ?_
          refine s_call (pc := 91) (rest := []) hG (calls_V (mi := mX10_text) (o := 0) (As := [.int x1]) (rest := []) hG (dc dl_X10_text 43 rfl) mo_X10_tellLines mv_X10_tellLines ml_X10_144 ⟨Nat.le_of_ble_eq_true rfl, Nat.le_of_ble_eq_true rfl⟩ rfl rfl (Nat.le_of_ble_eq_true rfl) lk_KL_0 rfl) (cn_X10_tellLines l G hG ad x1) rfl (fun r8 => ?_)
          refine s_istore_n (pc := 94) (lv' := [some (.ref (ad 0)), some (.int x1), some (.int r8)]) (dc dl_X10_text 44 rfl) rfl (Nat.le_of_ble_eq_true rfl) rfl ?_
          exact s_wk (hj2 r8) rfl
    · refine s_if_ne (pc := 10) (tgt := 58) (dc dl_X10_text 6 rfl) rfl ?_ ?_
      · refine s_aload_n (pc := 13) (dc dl_X10_text 7 rfl) rfl rfl ?_
        refine s_getR (pc := 14) fl_X10_50 lk_KL_0 kk_KL_0_7 (dc dl_X10_text 8 rfl) ?_
        refine s_aload_n (pc := 17) (dc dl_X10_text 9 rfl) rfl rfl ?_
        refine s_getR (pc := 18) fl_X10_43 lk_KL_0 kk_KL_0_6 (dc dl_X10_text 10 rfl) ?_
        refine s_calll (pc := 21) (ρ := rh27) (rest := []) hG (ss_KL_LawR_rh27) (calls_V (mi := mX10_text) (o := 115) (As := [.ref (ad 113)]) (rest := []) hG (dc dl_X10_text 11 rfl) mo_X3_readLaw mv_X3_readLaw ml_X10_122 ⟨Nat.le_of_ble_eq_true rfl, Nat.le_of_ble_eq_true rfl⟩ rfl rfl (Nat.le_of_ble_eq_true rfl) lk_KL_115 rfl) (cn_X3_readLaw l G hG (fun i => ad (rh27 i))) rfl rfl (fun r9 => ?_)
        refine s_if_eq (pc := 24) (tgt := 58) (dc dl_X10_text 12 rfl) rfl ?_ ?_
        · exact s_wk (hj4 ()) rfl
        · refine s_aload_n (pc := 27) (dc dl_X10_text 13 rfl) rfl rfl ?_
          refine s_getR (pc := 28) fl_X10_10 lk_KL_0 kk_KL_0_0 (dc dl_X10_text 14 rfl) ?_
          refine s_getR (pc := 31) fl_X10_126 lk_KL_1 kk_KL_1_2 (dc dl_X10_text 15 rfl) ?_
          refine s_aload_n (pc := 34) (dc dl_X10_text 16 rfl) rfl rfl ?_
          refine s_getR (pc := 35) fl_X10_50 lk_KL_0 kk_KL_0_7 (dc dl_X10_text 17 rfl) ?_
          refine s_getR (pc := 38) fl_X10_130 lk_KL_115 kk_KL_115_0 (dc dl_X10_text 18 rfl) ?_
          refine s_calllv (pc := 41) (ρ := rh28) (rest := []) hG (ss_KL_Law2_rh28) (calls_V (mi := mX10_text) (o := 17) (As := [.ref (ad 116)]) (rest := []) hG (dc dl_X10_text 19 rfl) mo_X2_copy mv_X2_copy ml_X10_131 ⟨Nat.le_of_ble_eq_true rfl, Nat.le_of_ble_eq_true rfl⟩ rfl rfl (Nat.le_of_ble_eq_true rfl) lk_KL_17 rfl) (cn_X2_copy l G hG (fun i => ad (rh28 i))) rfl rfl (fun r10 => ?_)
          refine s_aload_n (pc := 44) (dc dl_X10_text 20 rfl) rfl rfl ?_
          refine s_getR (pc := 45) fl_X10_10 lk_KL_0 kk_KL_0_0 (dc dl_X10_text 21 rfl) ?_
          refine s_getR (pc := 48) fl_X10_126 lk_KL_1 kk_KL_1_2 (dc dl_X10_text 22 rfl) ?_
          refine s_getI (pc := 51) fl_X10_137 lk_KL_17 kk_KL_17_0 (dc dl_X10_text 23 rfl) (fun v11 => ?_)
          refine s_istore_n (pc := 54) (lv' := [some (.ref (ad 0)), some (.int x1), some (.int v11)]) (dc dl_X10_text 24 rfl) rfl (Nat.le_of_ble_eq_true rfl) rfl ?_
          refine s_goto (pc := 55) (tgt := 95) (dc dl_X10_text 25 rfl) rfl ?_
          exact s_wk (hj2 v11) rfl
      · exact s_wk (hj4 ()) rfl
def gX10_fault (x1 : Int32) : MM Int32 :=
  swl x1 [(0, bd (ld 113 6) fun v1 =>
  pr v1),
  (1, bd (ld 113 7) fun v2 =>
  pr v2)]
  (pr ((-1)))
set_option maxHeartbeats 4000000 in
theorem cn_X10_fault (l : Launch) (G : Gl) (hG : gOk G) (ad : Nat → Nat) (x1 : Int32) : Cn l G mX10_fault 0 lay_KL ad [.ref (ad 0), .int x1] (gX10_fault x1) := by
  refine cn_of (lv := [some (.ref (ad 0)), some (.int x1)]) (by decide +kernel) rfl (Nat.le_of_ble_eq_true rfl) rfl ?_
  unfold gX10_fault
  refine s_iload_n (pc := 0) (dc dl_X10_fault 0 rfl) rfl rfl ?_
  refine s_lookup (pc := 1) (ps := [(0, 27), (1, 35)]) (tgt := 44) (dc dl_X10_fault 1 rfl) (by decide) (by decide) ?_ ⟨⟨rfl, 28, by decide, ?_⟩, ⟨rfl, 36, by decide, ?_⟩, trivial⟩
  · refine s_iconst (pc := 44) (v := (-1)) (dc dl_X10_fault 10 rfl) ic_m1 ?_
    exact s_ireturn (pc := 45) rfl (dc dl_X10_fault 11 rfl)
  · refine s_aload_n (pc := 28) (dc dl_X10_fault 2 rfl) rfl rfl ?_
    refine s_getR (pc := 29) fl_X10_43 lk_KL_0 kk_KL_0_6 (dc dl_X10_fault 3 rfl) ?_
    refine s_getI (pc := 32) fl_X10_147 lk_KL_113 kk_KL_113_6 (dc dl_X10_fault 4 rfl) (fun v1 => ?_)
    exact s_ireturn (pc := 35) rfl (dc dl_X10_fault 5 rfl)
  · refine s_aload_n (pc := 36) (dc dl_X10_fault 6 rfl) rfl rfl ?_
    refine s_getR (pc := 37) fl_X10_43 lk_KL_0 kk_KL_0_6 (dc dl_X10_fault 7 rfl) ?_
    refine s_getI (pc := 40) fl_X10_150 lk_KL_113 kk_KL_113_7 (dc dl_X10_fault 8 rfl) (fun v2 => ?_)
    exact s_ireturn (pc := 43) rfl (dc dl_X10_fault 9 rfl)
def gX10_of (x1 x2 : Int32) : MM Int32 :=
  bd (lf rh23 13 (gX9_hasPerson x1)) fun r1 =>
  (if r1 = 0 then
  pr ((-1))
  else
  swt x2 0 [bd (la 3 x1) fun v2 =>
  pr v2,
  bd (la 4 x1) fun v3 =>
  pr v3,
  bd (la 5 x1) fun v4 =>
  pr v4,
  bd (lf rh23 13 (gX9_leftTo x1)) fun r5 =>
  pr r5,
  bd (lf rh23 13 (gX9_leastDueOf x1)) fun r6 =>
  pr r6,
  bd (lf rh23 13 (gX9_clothsWith x1)) fun r7 =>
  pr r7,
  bd (lf rh29 5 (gX5_friendsOf x1)) fun r8 =>
  pr r8]
  (pr ((-1))))
set_option maxHeartbeats 4000000 in
theorem cn_X10_of (l : Launch) (G : Gl) (hG : gOk G) (ad : Nat → Nat) (x1 x2 : Int32) : Cn l G mX10_of 1 lay_KL ad [.ref (ad 0), .int x1, .int x2] (gX10_of x1 x2) := by
  refine cn_of (lv := [some (.ref (ad 0)), some (.int x1), some (.int x2), none]) (by decide +kernel) rfl (Nat.le_of_ble_eq_true rfl) rfl ?_
  unfold gX10_of
  refine s_aload_n (pc := 0) (dc dl_X10_of 0 rfl) rfl rfl ?_
  refine s_getR (pc := 1) fl_X10_10 lk_KL_0 kk_KL_0_0 (dc dl_X10_of 1 rfl) ?_
  refine s_getR (pc := 4) fl_X10_68 lk_KL_1 kk_KL_1_0 (dc dl_X10_of 2 rfl) ?_
  refine s_astore_n (pc := 7) (lv' := [some (.ref (ad 0)), some (.int x1), some (.int x2), some (.ref (ad 2))]) (dc dl_X10_of 3 rfl) rfl (Nat.le_of_ble_eq_true rfl) rfl ?_
  refine s_aload_n (pc := 8) (dc dl_X10_of 4 rfl) rfl rfl ?_
  refine s_iload_n (pc := 9) (dc dl_X10_of 5 rfl) rfl rfl ?_
  refine s_calll (pc := 10) (ρ := rh23) (rest := []) hG (ss_KL_World_rh23) (calls_V (mi := mX10_of) (o := 2) (As := [.int x1]) (rest := []) hG (dc dl_X10_of 6 rfl) mo_X9_hasPerson mv_X9_hasPerson ml_X10_153 ⟨Nat.le_of_ble_eq_true rfl, Nat.le_of_ble_eq_true rfl⟩ rfl rfl (Nat.le_of_ble_eq_true rfl) lk_KL_2 rfl) (cn_X9_hasPerson l G hG (fun i => ad (rh23 i)) x1) rfl rfl (fun r1 => ?_)
  refine s_if_ne (pc := 13) (tgt := 18) (dc dl_X10_of 7 rfl) rfl ?_ ?_
  · refine s_iconst (pc := 16) (v := (-1)) (dc dl_X10_of 8 rfl) ic_m1 ?_
    exact s_ireturn (pc := 17) rfl (dc dl_X10_of 9 rfl)
  · refine s_iload_n (pc := 18) (dc dl_X10_of 10 rfl) rfl rfl ?_
    refine s_table (pc := 19) (offs := [41, 48, 55, 62, 68, 74, 80]) (tgt := 111) (dc dl_X10_of 11 rfl) (by decide) (by decide) ?_ ⟨⟨60, by decide, ?_⟩, ⟨67, by decide, ?_⟩, ⟨74, by decide, ?_⟩, ⟨81, by decide, ?_⟩, ⟨87, by decide, ?_⟩, ⟨93, by decide, ?_⟩, ⟨99, by decide, ?_⟩, trivial⟩
    · refine s_iconst (pc := 111) (v := (-1)) (dc dl_X10_of 45 rfl) ic_m1 ?_
      exact s_ireturn (pc := 112) rfl (dc dl_X10_of 46 rfl)
    · refine s_aload_n (pc := 60) (dc dl_X10_of 12 rfl) rfl rfl ?_
      refine s_getR (pc := 61) fl_X10_157 lk_KL_2 kk_KL_2_7 (dc dl_X10_of 13 rfl) ?_
      refine s_iload_n (pc := 64) (dc dl_X10_of 14 rfl) rfl rfl ?_
      refine s_iald (pc := 65) lk_KL_3 (dc dl_X10_of 15 rfl) (fun v2 => ?_)
      exact s_ireturn (pc := 66) rfl (dc dl_X10_of 16 rfl)
    · refine s_aload_n (pc := 67) (dc dl_X10_of 17 rfl) rfl rfl ?_
      refine s_getR (pc := 68) fl_X10_161 lk_KL_2 kk_KL_2_8 (dc dl_X10_of 18 rfl) ?_
      refine s_iload_n (pc := 71) (dc dl_X10_of 19 rfl) rfl rfl ?_
      refine s_iald (pc := 72) lk_KL_4 (dc dl_X10_of 20 rfl) (fun v3 => ?_)
      exact s_ireturn (pc := 73) rfl (dc dl_X10_of 21 rfl)
    · refine s_aload_n (pc := 74) (dc dl_X10_of 22 rfl) rfl rfl ?_
      refine s_getR (pc := 75) fl_X10_164 lk_KL_2 kk_KL_2_9 (dc dl_X10_of 23 rfl) ?_
      refine s_iload_n (pc := 78) (dc dl_X10_of 24 rfl) rfl rfl ?_
      refine s_iald (pc := 79) lk_KL_5 (dc dl_X10_of 25 rfl) (fun v4 => ?_)
      exact s_ireturn (pc := 80) rfl (dc dl_X10_of 26 rfl)
    · refine s_aload_n (pc := 81) (dc dl_X10_of 27 rfl) rfl rfl ?_
      refine s_iload_n (pc := 82) (dc dl_X10_of 28 rfl) rfl rfl ?_
      refine s_calll (pc := 83) (ρ := rh23) (rest := []) hG (ss_KL_World_rh23) (calls_V (mi := mX10_of) (o := 2) (As := [.int x1]) (rest := []) hG (dc dl_X10_of 29 rfl) mo_X9_leftTo mv_X9_leftTo ml_X10_167 ⟨Nat.le_of_ble_eq_true rfl, Nat.le_of_ble_eq_true rfl⟩ rfl rfl (Nat.le_of_ble_eq_true rfl) lk_KL_2 rfl) (cn_X9_leftTo l G hG (fun i => ad (rh23 i)) x1) rfl rfl (fun r5 => ?_)
      exact s_ireturn (pc := 86) rfl (dc dl_X10_of 30 rfl)
    · refine s_aload_n (pc := 87) (dc dl_X10_of 31 rfl) rfl rfl ?_
      refine s_iload_n (pc := 88) (dc dl_X10_of 32 rfl) rfl rfl ?_
      refine s_calll (pc := 89) (ρ := rh23) (rest := []) hG (ss_KL_World_rh23) (calls_V (mi := mX10_of) (o := 2) (As := [.int x1]) (rest := []) hG (dc dl_X10_of 33 rfl) mo_X9_leastDueOf mv_X9_leastDueOf ml_X10_170 ⟨Nat.le_of_ble_eq_true rfl, Nat.le_of_ble_eq_true rfl⟩ rfl rfl (Nat.le_of_ble_eq_true rfl) lk_KL_2 rfl) (cn_X9_leastDueOf l G hG (fun i => ad (rh23 i)) x1) rfl rfl (fun r6 => ?_)
      exact s_ireturn (pc := 92) rfl (dc dl_X10_of 34 rfl)
    · refine s_aload_n (pc := 93) (dc dl_X10_of 35 rfl) rfl rfl ?_
      refine s_iload_n (pc := 94) (dc dl_X10_of 36 rfl) rfl rfl ?_
      refine s_calll (pc := 95) (ρ := rh23) (rest := []) hG (ss_KL_World_rh23) (calls_V (mi := mX10_of) (o := 2) (As := [.int x1]) (rest := []) hG (dc dl_X10_of 37 rfl) mo_X9_clothsWith mv_X9_clothsWith ml_X10_173 ⟨Nat.le_of_ble_eq_true rfl, Nat.le_of_ble_eq_true rfl⟩ rfl rfl (Nat.le_of_ble_eq_true rfl) lk_KL_2 rfl) (cn_X9_clothsWith l G hG (fun i => ad (rh23 i)) x1) rfl rfl (fun r7 => ?_)
      exact s_ireturn (pc := 98) rfl (dc dl_X10_of 38 rfl)
    · refine s_aload_n (pc := 99) (dc dl_X10_of 39 rfl) rfl rfl ?_
      refine s_getR (pc := 100) fl_X10_10 lk_KL_0 kk_KL_0_0 (dc dl_X10_of 40 rfl) ?_
      refine s_getR (pc := 103) fl_X10_176 lk_KL_1 kk_KL_1_5 (dc dl_X10_of 41 rfl) ?_
      refine s_iload_n (pc := 106) (dc dl_X10_of 42 rfl) rfl rfl ?_
      refine s_calll (pc := 107) (ρ := rh29) (rest := []) hG (ss_KL_Lines_rh29) (calls_V (mi := mX10_of) (o := 34) (As := [.int x1]) (rest := []) hG (dc dl_X10_of 43 rfl) mo_X5_friendsOf mv_X5_friendsOf ml_X10_180 ⟨Nat.le_of_ble_eq_true rfl, Nat.le_of_ble_eq_true rfl⟩ rfl rfl (Nat.le_of_ble_eq_true rfl) lk_KL_34 rfl) (cn_X5_friendsOf l G hG (fun i => ad (rh29 i)) x1) rfl rfl (fun r8 => ?_)
      exact s_ireturn (pc := 110) rfl (dc dl_X10_of 44 rfl)
def gX10_clothOf (x1 x2 : Int32) : MM Int32 :=
  bd (lf rh23 13 (gX9_hasCloth x1)) fun r1 =>
  (if r1 = 0 then
  pr ((-2))
  else
  jn (fun (a3 : Unit) =>
  pr ((-2))) (fun j2 =>
  jn (fun (a5 : Unit) =>
  bd (lf rh23 13 (gX9_knotAt x1 (x2 - 10))) fun r6 =>
  pr r6) (fun j4 =>
  swt x2 0 [bd (la 6 x1) fun v7 =>
  pr v7,
  bd (la 7 x1) fun v8 =>
  pr v8,
  bd (la 8 x1) fun v9 =>
  pr v9,
  j2 (),
  j2 (),
  j2 (),
  j2 (),
  j2 (),
  j2 (),
  j2 (),
  j4 (),
  j4 (),
  j4 (),
  j4 ()]
  (j2 ()))))
set_option maxHeartbeats 4000000 in
theorem cn_X10_clothOf (l : Launch) (G : Gl) (hG : gOk G) (ad : Nat → Nat) (x1 x2 : Int32) : Cn l G mX10_clothOf 2 lay_KL ad [.ref (ad 0), .int x1, .int x2] (gX10_clothOf x1 x2) := by
  refine cn_of (lv := [some (.ref (ad 0)), some (.int x1), some (.int x2), none]) (by decide +kernel) rfl (Nat.le_of_ble_eq_true rfl) rfl ?_
  unfold gX10_clothOf
  refine s_aload_n (pc := 0) (dc dl_X10_clothOf 0 rfl) rfl rfl ?_
  refine s_getR (pc := 1) fl_X10_10 lk_KL_0 kk_KL_0_0 (dc dl_X10_clothOf 1 rfl) ?_
  refine s_getR (pc := 4) fl_X10_68 lk_KL_1 kk_KL_1_0 (dc dl_X10_clothOf 2 rfl) ?_
  refine s_astore_n (pc := 7) (lv' := [some (.ref (ad 0)), some (.int x1), some (.int x2), some (.ref (ad 2))]) (dc dl_X10_clothOf 3 rfl) rfl (Nat.le_of_ble_eq_true rfl) rfl ?_
  refine s_aload_n (pc := 8) (dc dl_X10_clothOf 4 rfl) rfl rfl ?_
  refine s_iload_n (pc := 9) (dc dl_X10_clothOf 5 rfl) rfl rfl ?_
  refine s_calll (pc := 10) (ρ := rh23) (rest := []) hG (ss_KL_World_rh23) (calls_V (mi := mX10_clothOf) (o := 2) (As := [.int x1]) (rest := []) hG (dc dl_X10_clothOf 6 rfl) mo_X9_hasCloth mv_X9_hasCloth ml_X10_185 ⟨Nat.le_of_ble_eq_true rfl, Nat.le_of_ble_eq_true rfl⟩ rfl rfl (Nat.le_of_ble_eq_true rfl) lk_KL_2 rfl) (cn_X9_hasCloth l G hG (fun i => ad (rh23 i)) x1) rfl rfl (fun r1 => ?_)
  refine s_if_ne (pc := 13) (tgt := 19) (dc dl_X10_clothOf 7 rfl) rfl ?_ ?_
  · refine s_bipush (pc := 16) (v := (-2)) (dc dl_X10_clothOf 8 rfl) bi_m2 ?_
    exact s_ireturn (pc := 18) rfl (dc dl_X10_clothOf 9 rfl)
  · refine s_iload_n (pc := 19) (dc dl_X10_clothOf 10 rfl) rfl rfl ?_
    refine s_jn (pj := 123) (fun a3 : Unit => [none, none, none, none]) (fun a3 : Unit => []) (fun a3 => ?_) (fun j2 hj2 => ?_)
    · refine s_bipush (pc := 123) (v := (-2)) (dc dl_X10_clothOf 34 rfl) bi_m2 ?_
      exact s_ireturn (pc := 125) rfl (dc dl_X10_clothOf 35 rfl)
    · refine s_jn (pj := 113) (fun a5 : Unit => [none, some (.int x1), some (.int x2), some (.ref (ad 2))]) (fun a5 : Unit => []) (fun a5 => ?_) (fun j4 hj4 => ?_)
      · refine s_aload_n (pc := 113) (dc dl_X10_clothOf 27 rfl) rfl rfl ?_
        refine s_iload_n (pc := 114) (dc dl_X10_clothOf 28 rfl) rfl rfl ?_
        refine s_iload_n (pc := 115) (dc dl_X10_clothOf 29 rfl) rfl rfl ?_
        refine s_bipush (pc := 116) (v := 10) (dc dl_X10_clothOf 30 rfl) bi_10 ?_
        refine s_isub (pc := 118) (dc dl_X10_clothOf 31 rfl) ?_
        refine s_calll (pc := 119) (ρ := rh23) (rest := []) hG (ss_KL_World_rh23) (calls_V (mi := mX10_clothOf) (o := 2) (As := [.int x1, .int (x2 - 10)]) (rest := []) hG (dc dl_X10_clothOf 32 rfl) mo_X9_knotAt mv_X9_knotAt ml_X10_197 ⟨Nat.le_of_ble_eq_true rfl, Nat.le_of_ble_eq_true rfl⟩ rfl rfl (Nat.le_of_ble_eq_true rfl) lk_KL_2 rfl) (cn_X9_knotAt l G hG (fun i => ad (rh23 i)) x1 (x2 - 10)) rfl rfl (fun r6 => ?_)
        exact s_ireturn (pc := 122) rfl (dc dl_X10_clothOf 33 rfl)
      · refine s_table (pc := 20) (offs := [72, 79, 86, 103, 103, 103, 103, 103, 103, 103, 93, 93, 93, 93]) (tgt := 123) (dc dl_X10_clothOf 11 rfl) (by decide) (by decide) ?_ ⟨⟨92, by decide, ?_⟩, ⟨99, by decide, ?_⟩, ⟨106, by decide, ?_⟩, ⟨123, by decide, ?_⟩, ⟨123, by decide, ?_⟩, ⟨123, by decide, ?_⟩, ⟨123, by decide, ?_⟩, ⟨123, by decide, ?_⟩, ⟨123, by decide, ?_⟩, ⟨123, by decide, ?_⟩, ⟨113, by decide, ?_⟩, ⟨113, by decide, ?_⟩, ⟨113, by decide, ?_⟩, ⟨113, by decide, ?_⟩, trivial⟩
        · exact s_wk (hj2 ()) rfl
        · refine s_aload_n (pc := 92) (dc dl_X10_clothOf 12 rfl) rfl rfl ?_
          refine s_getR (pc := 93) fl_X10_188 lk_KL_2 kk_KL_2_10 (dc dl_X10_clothOf 13 rfl) ?_
          refine s_iload_n (pc := 96) (dc dl_X10_clothOf 14 rfl) rfl rfl ?_
          refine s_iald (pc := 97) lk_KL_6 (dc dl_X10_clothOf 15 rfl) (fun v7 => ?_)
          exact s_ireturn (pc := 98) rfl (dc dl_X10_clothOf 16 rfl)
        · refine s_aload_n (pc := 99) (dc dl_X10_clothOf 17 rfl) rfl rfl ?_
          refine s_getR (pc := 100) fl_X10_191 lk_KL_2 kk_KL_2_11 (dc dl_X10_clothOf 18 rfl) ?_
          refine s_iload_n (pc := 103) (dc dl_X10_clothOf 19 rfl) rfl rfl ?_
          refine s_iald (pc := 104) lk_KL_7 (dc dl_X10_clothOf 20 rfl) (fun v8 => ?_)
          exact s_ireturn (pc := 105) rfl (dc dl_X10_clothOf 21 rfl)
        · refine s_aload_n (pc := 106) (dc dl_X10_clothOf 22 rfl) rfl rfl ?_
          refine s_getR (pc := 107) fl_X10_194 lk_KL_2 kk_KL_2_12 (dc dl_X10_clothOf 23 rfl) ?_
          refine s_iload_n (pc := 110) (dc dl_X10_clothOf 24 rfl) rfl rfl ?_
          refine s_iald (pc := 111) lk_KL_8 (dc dl_X10_clothOf 25 rfl) (fun v9 => ?_)
          exact s_ireturn (pc := 112) rfl (dc dl_X10_clothOf 26 rfl)
        · exact s_wk (hj2 ()) rfl
        · exact s_wk (hj2 ()) rfl
        · exact s_wk (hj2 ()) rfl
        · exact s_wk (hj2 ()) rfl
        · exact s_wk (hj2 ()) rfl
        · exact s_wk (hj2 ()) rfl
        · exact s_wk (hj2 ()) rfl
        · exact s_wk (hj4 ()) rfl
        · exact s_wk (hj4 ()) rfl
        · exact s_wk (hj4 ()) rfl
        · exact s_wk (hj4 ()) rfl
def gX10_thingOf (x1 x2 : Int32) : MM Int32 :=
  bd (lf rh23 13 (gX9_hasThing x1)) fun r1 =>
  (if r1 = 0 then
  pr ((-2))
  else
  bd (la 12 x1) fun v2 =>
  swt x2 0 [bd (la 10 x1) fun v7 =>
  pr v7,
  bd (la 11 x1) fun v8 =>
  pr v8,
  pr v2,
  bd (la 13 x1) fun v9 =>
  pr v9,
  bd (la 14 x1) fun v10 =>
  pr v10,
  jn (fun (a12 : Int32) =>
  pr a12) (fun j11 =>
  (if v2 = ((-1)) then
  j11 ((-1))
  else
  bd (lf rh24 49 (gX1_askLaw 1 x1 v2)) fun r13 =>
  j11 r13)),
  jn (fun (a15 : Int32) =>
  pr a15) (fun j14 =>
  (if v2 = ((-1)) then
  j14 ((-1))
  else
  bd (lf rh24 49 (gX1_askLaw 2 x1 v2)) fun r16 =>
  j14 r16))]
  (jn (fun (a4 : Unit) =>
  pr ((-2))) (fun j3 =>
  (if x2 < 20 then
  j3 ()
  else
  bd (lf rh23 13 (gX9_hasCloth (x2 - 20))) fun r5 =>
  (if r5 = 0 then
  j3 ()
  else
  bd (lf rh24 49 (gX1_askLaw 0 x1 (x2 - 20))) fun r6 =>
  pr r6)))))
set_option maxHeartbeats 4000000 in
theorem cn_X10_thingOf (l : Launch) (G : Gl) (hG : gOk G) (ad : Nat → Nat) (x1 x2 : Int32) : Cn l G mX10_thingOf 4 lay_KL ad [.ref (ad 0), .int x1, .int x2] (gX10_thingOf x1 x2) := by
  refine cn_of (lv := [some (.ref (ad 0)), some (.int x1), some (.int x2), none, none]) (by decide +kernel) rfl (Nat.le_of_ble_eq_true rfl) rfl ?_
  unfold gX10_thingOf
  refine s_aload_n (pc := 0) (dc dl_X10_thingOf 0 rfl) rfl rfl ?_
  refine s_getR (pc := 1) fl_X10_10 lk_KL_0 kk_KL_0_0 (dc dl_X10_thingOf 1 rfl) ?_
  refine s_getR (pc := 4) fl_X10_68 lk_KL_1 kk_KL_1_0 (dc dl_X10_thingOf 2 rfl) ?_
  refine s_astore_n (pc := 7) (lv' := [some (.ref (ad 0)), some (.int x1), some (.int x2), some (.ref (ad 2)), none]) (dc dl_X10_thingOf 3 rfl) rfl (Nat.le_of_ble_eq_true rfl) rfl ?_
  refine s_aload_n (pc := 8) (dc dl_X10_thingOf 4 rfl) rfl rfl ?_
  refine s_iload_n (pc := 9) (dc dl_X10_thingOf 5 rfl) rfl rfl ?_
  refine s_calll (pc := 10) (ρ := rh23) (rest := []) hG (ss_KL_World_rh23) (calls_V (mi := mX10_thingOf) (o := 2) (As := [.int x1]) (rest := []) hG (dc dl_X10_thingOf 6 rfl) mo_X9_hasThing mv_X9_hasThing ml_X10_200 ⟨Nat.le_of_ble_eq_true rfl, Nat.le_of_ble_eq_true rfl⟩ rfl rfl (Nat.le_of_ble_eq_true rfl) lk_KL_2 rfl) (cn_X9_hasThing l G hG (fun i => ad (rh23 i)) x1) rfl rfl (fun r1 => ?_)
  refine s_if_ne (pc := 13) (tgt := 19) (dc dl_X10_thingOf 7 rfl) rfl ?_ ?_
  · refine s_bipush (pc := 16) (v := (-2)) (dc dl_X10_thingOf 8 rfl) bi_m2 ?_
    exact s_ireturn (pc := 18) rfl (dc dl_X10_thingOf 9 rfl)
  · refine s_aload_n (pc := 19) (dc dl_X10_thingOf 10 rfl) rfl rfl ?_
    refine s_getR (pc := 20) fl_X10_203 lk_KL_2 kk_KL_2_16 (dc dl_X10_thingOf 11 rfl) ?_
    refine s_iload_n (pc := 23) (dc dl_X10_thingOf 12 rfl) rfl rfl ?_
    refine s_iald (pc := 24) lk_KL_12 (dc dl_X10_thingOf 13 rfl) (fun v2 => ?_)
    refine s_istore (pc := 25) (lv' := [some (.ref (ad 0)), some (.int x1), some (.int x2), some (.ref (ad 2)), some (.int v2)]) (dc dl_X10_thingOf 14 rfl) (Nat.le_of_ble_eq_true rfl) rfl ?_
    refine s_iload_n (pc := 27) (dc dl_X10_thingOf 15 rfl) rfl rfl ?_
    refine s_table (pc := 28) (offs := [44, 51, 58, 61, 68, 75, 98]) (tgt := 149) (dc dl_X10_thingOf 16 rfl) (by decide) (by decide) ?_ ⟨⟨72, by decide, ?_⟩, ⟨79, by decide, ?_⟩, ⟨86, by decide, ?_⟩, ⟨89, by decide, ?_⟩, ⟨96, by decide, ?_⟩, ⟨103, by decide, ?_⟩, ⟨126, by decide, ?_⟩, trivial⟩
    · refine s_iload_n (pc := 149) (dc dl_X10_thingOf 65 rfl) rfl rfl ?_
      refine s_bipush (pc := 150) (v := 20) (dc dl_X10_thingOf 66 rfl) bi_20 ?_
      refine s_jn (pj := 181) (fun a4 : Unit => [none, none, none, none, none]) (fun a4 : Unit => []) (fun a4 => ?_) (fun j3 hj3 => ?_)
      · refine s_bipush (pc := 181) (v := (-2)) (dc dl_X10_thingOf 84 rfl) bi_m2 ?_
        exact s_ireturn (pc := 183) rfl (dc dl_X10_thingOf 85 rfl)
      · refine s_icmp_lt (pc := 152) (tgt := 181) (dc dl_X10_thingOf 67 rfl) rfl ?_ ?_
        · exact s_wk (hj3 ()) rfl
        · refine s_aload_n (pc := 155) (dc dl_X10_thingOf 68 rfl) rfl rfl ?_
          refine s_iload_n (pc := 156) (dc dl_X10_thingOf 69 rfl) rfl rfl ?_
          refine s_bipush (pc := 157) (v := 20) (dc dl_X10_thingOf 70 rfl) bi_20 ?_
          refine s_isub (pc := 159) (dc dl_X10_thingOf 71 rfl) ?_
          refine s_calll (pc := 160) (ρ := rh23) (rest := []) hG (ss_KL_World_rh23) (calls_V (mi := mX10_thingOf) (o := 2) (As := [.int (x2 - 20)]) (rest := []) hG (dc dl_X10_thingOf 72 rfl) mo_X9_hasCloth mv_X9_hasCloth ml_X10_185 ⟨Nat.le_of_ble_eq_true rfl, Nat.le_of_ble_eq_true rfl⟩ rfl rfl (Nat.le_of_ble_eq_true rfl) lk_KL_2 rfl) (cn_X9_hasCloth l G hG (fun i => ad (rh23 i)) (x2 - 20)) rfl rfl (fun r5 => ?_)
          refine s_if_eq (pc := 163) (tgt := 181) (dc dl_X10_thingOf 73 rfl) rfl ?_ ?_
          · exact s_wk (hj3 ()) rfl
          · refine s_aload_n (pc := 166) (dc dl_X10_thingOf 74 rfl) rfl rfl ?_
            refine s_getR (pc := 167) fl_X10_10 lk_KL_0 kk_KL_0_0 (dc dl_X10_thingOf 75 rfl) ?_
            refine s_aload_n (pc := 170) (dc dl_X10_thingOf 76 rfl) rfl rfl ?_
            refine s_iconst (pc := 171) (v := 0) (dc dl_X10_thingOf 77 rfl) ic_0 ?_
            refine s_iload_n (pc := 172) (dc dl_X10_thingOf 78 rfl) rfl rfl ?_
            refine s_iload_n (pc := 173) (dc dl_X10_thingOf 79 rfl) rfl rfl ?_
            refine s_bipush (pc := 174) (v := 20) (dc dl_X10_thingOf 80 rfl) bi_20 ?_
            refine s_isub (pc := 176) (dc dl_X10_thingOf 81 rfl) ?_
            refine s_calll (pc := 177) (ρ := rh24) (rest := []) hG (ss_KL_HW_rh24) (calls_V (mi := mX10_thingOf) (o := 1) (As := [.ref (ad 2), .int 0, .int x1, .int (x2 - 20)]) (rest := []) hG (dc dl_X10_thingOf 82 rfl) mo_X1_askLaw mv_X1_askLaw ml_X10_218 ⟨Nat.le_of_ble_eq_true rfl, Nat.le_of_ble_eq_true rfl⟩ rfl rfl (Nat.le_of_ble_eq_true rfl) lk_KL_1 rfl) (cn_X1_askLaw l G hG (fun i => ad (rh24 i)) 0 x1 (x2 - 20)) rfl rfl (fun r6 => ?_)
            exact s_ireturn (pc := 180) rfl (dc dl_X10_thingOf 83 rfl)
    · refine s_aload_n (pc := 72) (dc dl_X10_thingOf 17 rfl) rfl rfl ?_
      refine s_getR (pc := 73) fl_X10_206 lk_KL_2 kk_KL_2_14 (dc dl_X10_thingOf 18 rfl) ?_
      refine s_iload_n (pc := 76) (dc dl_X10_thingOf 19 rfl) rfl rfl ?_
      refine s_iald (pc := 77) lk_KL_10 (dc dl_X10_thingOf 20 rfl) (fun v7 => ?_)
      exact s_ireturn (pc := 78) rfl (dc dl_X10_thingOf 21 rfl)
    · refine s_aload_n (pc := 79) (dc dl_X10_thingOf 22 rfl) rfl rfl ?_
      refine s_getR (pc := 80) fl_X10_209 lk_KL_2 kk_KL_2_15 (dc dl_X10_thingOf 23 rfl) ?_
      refine s_iload_n (pc := 83) (dc dl_X10_thingOf 24 rfl) rfl rfl ?_
      refine s_iald (pc := 84) lk_KL_11 (dc dl_X10_thingOf 25 rfl) (fun v8 => ?_)
      exact s_ireturn (pc := 85) rfl (dc dl_X10_thingOf 26 rfl)
    · refine s_iload (pc := 86) (dc dl_X10_thingOf 27 rfl) rfl ?_
      exact s_ireturn (pc := 88) rfl (dc dl_X10_thingOf 28 rfl)
    · refine s_aload_n (pc := 89) (dc dl_X10_thingOf 29 rfl) rfl rfl ?_
      refine s_getR (pc := 90) fl_X10_212 lk_KL_2 kk_KL_2_17 (dc dl_X10_thingOf 30 rfl) ?_
      refine s_iload_n (pc := 93) (dc dl_X10_thingOf 31 rfl) rfl rfl ?_
      refine s_iald (pc := 94) lk_KL_13 (dc dl_X10_thingOf 32 rfl) (fun v9 => ?_)
      exact s_ireturn (pc := 95) rfl (dc dl_X10_thingOf 33 rfl)
    · refine s_aload_n (pc := 96) (dc dl_X10_thingOf 34 rfl) rfl rfl ?_
      refine s_getR (pc := 97) fl_X10_215 lk_KL_2 kk_KL_2_18 (dc dl_X10_thingOf 35 rfl) ?_
      refine s_iload_n (pc := 100) (dc dl_X10_thingOf 36 rfl) rfl rfl ?_
      refine s_iald (pc := 101) lk_KL_14 (dc dl_X10_thingOf 37 rfl) (fun v10 => ?_)
      exact s_ireturn (pc := 102) rfl (dc dl_X10_thingOf 38 rfl)
    · refine s_iload (pc := 103) (dc dl_X10_thingOf 39 rfl) rfl ?_
      refine s_iconst (pc := 105) (v := (-1)) (dc dl_X10_thingOf 40 rfl) ic_m1 ?_
      refine s_jn (pj := 125) (fun a12 : Int32 => [none, none, none, none, none]) (fun a12 : Int32 => [.int a12]) (fun a12 => ?_) (fun j11 hj11 => ?_)
      · exact s_ireturn (pc := 125) rfl (dc dl_X10_thingOf 51 rfl)
      · refine s_icmp_ne (pc := 106) (tgt := 113) (dc dl_X10_thingOf 41 rfl) rfl ?_ ?_
        · refine s_iconst (pc := 109) (v := (-1)) (dc dl_X10_thingOf 42 rfl) ic_m1 ?_
          refine s_goto (pc := 110) (tgt := 125) (dc dl_X10_thingOf 43 rfl) rfl ?_
          exact s_wk (hj11 ((-1))) rfl
        · refine s_aload_n (pc := 113) (dc dl_X10_thingOf 44 rfl) rfl rfl ?_
          refine s_getR (pc := 114) fl_X10_10 lk_KL_0 kk_KL_0_0 (dc dl_X10_thingOf 45 rfl) ?_
          refine s_aload_n (pc := 117) (dc dl_X10_thingOf 46 rfl) rfl rfl ?_
          refine s_iconst (pc := 118) (v := 1) (dc dl_X10_thingOf 47 rfl) ic_1 ?_
          refine s_iload_n (pc := 119) (dc dl_X10_thingOf 48 rfl) rfl rfl ?_
          refine s_iload (pc := 120) (dc dl_X10_thingOf 49 rfl) rfl ?_
          refine s_calll (pc := 122) (ρ := rh24) (rest := []) hG (ss_KL_HW_rh24) (calls_V (mi := mX10_thingOf) (o := 1) (As := [.ref (ad 2), .int 1, .int x1, .int v2]) (rest := []) hG (dc dl_X10_thingOf 50 rfl) mo_X1_askLaw mv_X1_askLaw ml_X10_218 ⟨Nat.le_of_ble_eq_true rfl, Nat.le_of_ble_eq_true rfl⟩ rfl rfl (Nat.le_of_ble_eq_true rfl) lk_KL_1 rfl) (cn_X1_askLaw l G hG (fun i => ad (rh24 i)) 1 x1 v2) rfl rfl (fun r13 => ?_)
          exact s_wk (hj11 r13) rfl
    · refine s_iload (pc := 126) (dc dl_X10_thingOf 52 rfl) rfl ?_
      refine s_iconst (pc := 128) (v := (-1)) (dc dl_X10_thingOf 53 rfl) ic_m1 ?_
      refine s_jn (pj := 148) (fun a15 : Int32 => [none, none, none, none, none]) (fun a15 : Int32 => [.int a15]) (fun a15 => ?_) (fun j14 hj14 => ?_)
      · exact s_ireturn (pc := 148) rfl (dc dl_X10_thingOf 64 rfl)
      · refine s_icmp_ne (pc := 129) (tgt := 136) (dc dl_X10_thingOf 54 rfl) rfl ?_ ?_
        · refine s_iconst (pc := 132) (v := (-1)) (dc dl_X10_thingOf 55 rfl) ic_m1 ?_
          refine s_goto (pc := 133) (tgt := 148) (dc dl_X10_thingOf 56 rfl) rfl ?_
          exact s_wk (hj14 ((-1))) rfl
        · refine s_aload_n (pc := 136) (dc dl_X10_thingOf 57 rfl) rfl rfl ?_
          refine s_getR (pc := 137) fl_X10_10 lk_KL_0 kk_KL_0_0 (dc dl_X10_thingOf 58 rfl) ?_
          refine s_aload_n (pc := 140) (dc dl_X10_thingOf 59 rfl) rfl rfl ?_
          refine s_iconst (pc := 141) (v := 2) (dc dl_X10_thingOf 60 rfl) ic_2 ?_
          refine s_iload_n (pc := 142) (dc dl_X10_thingOf 61 rfl) rfl rfl ?_
          refine s_iload (pc := 143) (dc dl_X10_thingOf 62 rfl) rfl ?_
          refine s_calll (pc := 145) (ρ := rh24) (rest := []) hG (ss_KL_HW_rh24) (calls_V (mi := mX10_thingOf) (o := 1) (As := [.ref (ad 2), .int 2, .int x1, .int v2]) (rest := []) hG (dc dl_X10_thingOf 63 rfl) mo_X1_askLaw mv_X1_askLaw ml_X10_218 ⟨Nat.le_of_ble_eq_true rfl, Nat.le_of_ble_eq_true rfl⟩ rfl rfl (Nat.le_of_ble_eq_true rfl) lk_KL_1 rfl) (cn_X1_askLaw l G hG (fun i => ad (rh24 i)) 2 x1 v2) rfl rfl (fun r16 => ?_)
          exact s_wk (hj14 r16) rfl
def gX10_book (x1 x2 : Int32) : MM Int32 :=
  bd (ld 2 3) fun v1 =>
  bd (lf rh0 0 (gX10_isWithin x1 0 (v1 - 1))) fun r2 =>
  jn (fun (a4 : Unit) =>
  pr ((-2))) (fun j3 =>
  (if r2 = 0 then
  j3 ()
  else
  bd (lf rh0 0 (gX10_isWithin x2 0 3)) fun r5 =>
  (if r5 = 0 then
  j3 ()
  else
  bd (lf rh30 2 (gX0_read x1 x2)) fun r6 =>
  pr r6)))
set_option maxHeartbeats 4000000 in
theorem cn_X10_book (l : Launch) (G : Gl) (hG : gOk G) (ad : Nat → Nat) (x1 x2 : Int32) : Cn l G mX10_book 2 lay_KL ad [.ref (ad 0), .int x1, .int x2] (gX10_book x1 x2) := by
  refine cn_of (lv := [some (.ref (ad 0)), some (.int x1), some (.int x2)]) (by decide +kernel) rfl (Nat.le_of_ble_eq_true rfl) rfl ?_
  unfold gX10_book
  refine s_iload_n (pc := 0) (dc dl_X10_book 0 rfl) rfl rfl ?_
  refine s_iconst (pc := 1) (v := 0) (dc dl_X10_book 1 rfl) ic_0 ?_
  refine s_aload_n (pc := 2) (dc dl_X10_book 2 rfl) rfl rfl ?_
  refine s_getR (pc := 3) fl_X10_10 lk_KL_0 kk_KL_0_0 (dc dl_X10_book 3 rfl) ?_
  refine s_getR (pc := 6) fl_X10_68 lk_KL_1 kk_KL_1_0 (dc dl_X10_book 4 rfl) ?_
  refine s_getI (pc := 9) fl_X10_222 lk_KL_2 kk_KL_2_3 (dc dl_X10_book 5 rfl) (fun v1 => ?_)
  refine s_iconst (pc := 12) (v := 1) (dc dl_X10_book 6 rfl) ic_1 ?_
  refine s_isub (pc := 13) (dc dl_X10_book 7 rfl) ?_
  refine s_calll (pc := 14) (ρ := rh0) (rest := []) hG (ss_KL_E_rh0) (calls_S (mi := mX10_book) (As := [.int x1, .int 0, .int (v1 - 1)]) (rest := []) hG (dc dl_X10_book 8 rfl) mo_X10_isWithin ms_X10_isWithin ml_X10_74 ⟨Nat.le_of_ble_eq_true rfl, Nat.le_of_ble_eq_true rfl⟩ rfl rfl (Nat.le_of_ble_eq_true rfl)) (cn_X10_isWithin l G hG (fun i => ad (rh0 i)) x1 0 (v1 - 1)) rfl rfl (fun r2 => ?_)
  refine s_jn (pj := 29) (fun a4 : Unit => [none, none, none]) (fun a4 : Unit => []) (fun a4 => ?_) (fun j3 hj3 => ?_)
  · refine s_bipush (pc := 29) (v := (-2)) (dc dl_X10_book 15 rfl) bi_m2 ?_
    exact s_ireturn (pc := 31) rfl (dc dl_X10_book 16 rfl)
  · refine s_if_eq (pc := 17) (tgt := 29) (dc dl_X10_book 9 rfl) rfl ?_ ?_
    · exact s_wk (hj3 ()) rfl
    · refine s_iload_n (pc := 20) (dc dl_X10_book 10 rfl) rfl rfl ?_
      refine s_iconst (pc := 21) (v := 0) (dc dl_X10_book 11 rfl) ic_0 ?_
      refine s_iconst (pc := 22) (v := 3) (dc dl_X10_book 12 rfl) ic_3 ?_
      refine s_calll (pc := 23) (ρ := rh0) (rest := []) hG (ss_KL_E_rh0) (calls_S (mi := mX10_book) (As := [.int x2, .int 0, .int 3]) (rest := []) hG (dc dl_X10_book 13 rfl) mo_X10_isWithin ms_X10_isWithin ml_X10_74 ⟨Nat.le_of_ble_eq_true rfl, Nat.le_of_ble_eq_true rfl⟩ rfl rfl (Nat.le_of_ble_eq_true rfl)) (cn_X10_isWithin l G hG (fun i => ad (rh0 i)) x2 0 3) rfl rfl (fun r5 => ?_)
      refine s_if_ne (pc := 26) (tgt := 32) (dc dl_X10_book 14 rfl) rfl ?_ ?_
      · exact s_wk (hj3 ()) rfl
      · refine s_aload_n (pc := 32) (dc dl_X10_book 17 rfl) rfl rfl ?_
        refine s_getR (pc := 33) fl_X10_10 lk_KL_0 kk_KL_0_0 (dc dl_X10_book 18 rfl) ?_
        refine s_getR (pc := 36) fl_X10_223 lk_KL_1 kk_KL_1_1 (dc dl_X10_book 19 rfl) ?_
        refine s_iload_n (pc := 39) (dc dl_X10_book 20 rfl) rfl rfl ?_
        refine s_iload_n (pc := 40) (dc dl_X10_book 21 rfl) rfl rfl ?_
        refine s_calll (pc := 41) (ρ := rh30) (rest := []) hG (ss_KL_Book_rh30) (calls_V (mi := mX10_book) (o := 15) (As := [.int x1, .int x2]) (rest := []) hG (dc dl_X10_book 22 rfl) mo_X0_read mv_X0_read ml_X10_227 ⟨Nat.le_of_ble_eq_true rfl, Nat.le_of_ble_eq_true rfl⟩ rfl rfl (Nat.le_of_ble_eq_true rfl) lk_KL_15 rfl) (cn_X0_read l G hG (fun i => ad (rh30 i)) x1 x2) rfl rfl (fun r6 => ?_)
        exact s_ireturn (pc := 44) rfl (dc dl_X10_book 23 rfl)
def gX10_sum (x1 : Int32) : MM Int32 :=
  loopC 100000 (fun (self1 : (Int32 × Int32) → MM Int32) (s2 : Int32 × Int32) =>
  jn (fun (a4 : Unit) =>
  pr s2.1) (fun j3 =>
  (if x1 ≤ s2.2 then
  j3 ()
  else
  bd (ln 0) fun v5 =>
  (if v5 ≤ s2.2 then
  j3 ()
  else
  bd (la 0 s2.2) fun v6 =>
  lt (s2.1 + v6) fun y7 =>
  lt (s2.2 + 1) fun y8 =>
  self1 (y7, y8))))) (0, 0)
set_option maxHeartbeats 4000000 in
theorem cn_X10_sum (l : Launch) (G : Gl) (hG : gOk G) (ad : Nat → Nat) (x1 : Int32) : Cn l G mX10_sum 0 lay_A ad [.ref (ad 0), .int x1] (gX10_sum x1) := by
  refine cn_of (lv := [some (.ref (ad 0)), some (.int x1), none, none]) (by decide +kernel) rfl (Nat.le_of_ble_eq_true rfl) rfl ?_
  unfold gX10_sum
  refine s_iconst (pc := 0) (v := 0) (dc dl_X10_sum 0 rfl) ic_0 ?_
  refine s_istore_n (pc := 1) (lv' := [some (.ref (ad 0)), some (.int x1), some (.int 0), none]) (dc dl_X10_sum 1 rfl) rfl (Nat.le_of_ble_eq_true rfl) rfl ?_
  refine s_iconst (pc := 2) (v := 0) (dc dl_X10_sum 2 rfl) ic_0 ?_
  refine s_istore_n (pc := 3) (lv' := [some (.ref (ad 0)), some (.int x1), some (.int 0), some (.int 0)]) (dc dl_X10_sum 3 rfl) rfl (Nat.le_of_ble_eq_true rfl) rfl ?_
  refine s_weak (lv' := [some (.ref (ad 0)), some (.int x1), some (.int 0), some (.int 0)]) rfl ?_
  refine s_loop (pc := 4) (fun s2 : Int32 × Int32 => [some (.ref (ad 0)), some (.int x1), some (.int s2.1), some (.int s2.2)]) [] (fun self1 hself1 s2 => ?_) _ (0, 0)
  refine s_iload_n (pc := 4) (dc dl_X10_sum 4 rfl) rfl rfl ?_
  refine s_iload_n (pc := 5) (dc dl_X10_sum 5 rfl) rfl rfl ?_
  refine s_jn (pj := 27) (fun a4 : Unit => [none, none, some (.int s2.1), none]) (fun a4 : Unit => []) (fun a4 => ?_) (fun j3 hj3 => ?_)
  · refine s_iload_n (pc := 27) (dc dl_X10_sum 19 rfl) rfl rfl ?_
    exact s_ireturn (pc := 28) rfl (dc dl_X10_sum 20 rfl)
  · refine s_icmp_ge (pc := 6) (tgt := 27) (dc dl_X10_sum 6 rfl) rfl ?_ ?_
    · exact s_wk (hj3 ()) rfl
    · refine s_iload_n (pc := 9) (dc dl_X10_sum 7 rfl) rfl rfl ?_
      refine s_aload_n (pc := 10) (dc dl_X10_sum 8 rfl) rfl rfl ?_
      refine s_alen (pc := 11) lk_A_0 (dc dl_X10_sum 9 rfl) (fun v5 => ?_)
      refine s_icmp_ge (pc := 12) (tgt := 27) (dc dl_X10_sum 10 rfl) rfl ?_ ?_
      · exact s_wk (hj3 ()) rfl
      · refine s_iload_n (pc := 15) (dc dl_X10_sum 11 rfl) rfl rfl ?_
        refine s_aload_n (pc := 16) (dc dl_X10_sum 12 rfl) rfl rfl ?_
        refine s_iload_n (pc := 17) (dc dl_X10_sum 13 rfl) rfl rfl ?_
        refine s_iald (pc := 18) lk_A_0 (dc dl_X10_sum 14 rfl) (fun v6 => ?_)
        refine s_iadd (pc := 19) (dc dl_X10_sum 15 rfl) ?_
        refine s_istore_nL (pc := 20) (lf' := fun y7 => [some (.ref (ad 0)), some (.int x1), some (.int y7), some (.int s2.2)]) (dc dl_X10_sum 16 rfl) rfl (Nat.le_of_ble_eq_true rfl) (fun _ => rfl) (fun y7 => ?_)
        refine s_iincL (pc := 21) (lf' := fun y8 => [some (.ref (ad 0)), some (.int x1), some (.int y7), some (.int y8)]) (dc dl_X10_sum 17 rfl) rfl rfl (Nat.le_of_ble_eq_true rfl) (fun _ => rfl) (fun y8 => ?_)
        refine s_goto (pc := 24) (tgt := 4) (dc dl_X10_sum 18 rfl) rfl ?_
        exact s_wk (hself1 (y7, y8)) rfl
def gX10_think (x1 : Int32) : MM Int32 :=
  bd (lf rh31 26 gX9_copy) fun r1 =>
  loopC 100000 (fun (self2 : Int32 → MM Int32) (s3 : Int32) =>
  (if x1 ≤ s3 then
  pr 0
  else
  bd (lf rh32 49 gX1_passDay) fun r4 =>
  lt (s3 + 1) fun y5 =>
  self2 y5)) 0
set_option maxHeartbeats 4000000 in
theorem cn_X10_think (l : Launch) (G : Gl) (hG : gOk G) (ad : Nat → Nat) (x1 : Int32) : Cn l G mX10_think 7 lay_KL ad [.ref (ad 0), .int x1] (gX10_think x1) := by
  refine cn_of (lv := [some (.ref (ad 0)), some (.int x1), none]) (by decide +kernel) rfl (Nat.le_of_ble_eq_true rfl) rfl ?_
  unfold gX10_think
  refine s_aload_n (pc := 0) (dc dl_X10_think 0 rfl) rfl rfl ?_
  refine s_getR (pc := 1) fl_X10_28 lk_KL_0 kk_KL_0_3 (dc dl_X10_think 1 rfl) ?_
  refine s_aload_n (pc := 4) (dc dl_X10_think 2 rfl) rfl rfl ?_
  refine s_getR (pc := 5) fl_X10_10 lk_KL_0 kk_KL_0_0 (dc dl_X10_think 3 rfl) ?_
  refine s_getR (pc := 8) fl_X10_68 lk_KL_1 kk_KL_1_0 (dc dl_X10_think 4 rfl) ?_
  refine s_calllv (pc := 11) (ρ := rh31) (rest := []) hG (ss_KL_World2_rh31) (calls_V (mi := mX10_think) (o := 99) (As := [.ref (ad 2)]) (rest := []) hG (dc dl_X10_think 5 rfl) mo_X9_copy mv_X9_copy ml_X10_346 ⟨Nat.le_of_ble_eq_true rfl, Nat.le_of_ble_eq_true rfl⟩ rfl rfl (Nat.le_of_ble_eq_true rfl) lk_KL_99 rfl) (cn_X9_copy l G hG (fun i => ad (rh31 i))) rfl rfl (fun r1 => ?_)
  refine s_iconst (pc := 14) (v := 0) (dc dl_X10_think 6 rfl) ic_0 ?_
  refine s_istore_n (pc := 15) (lv' := [some (.ref (ad 0)), some (.int x1), some (.int 0)]) (dc dl_X10_think 7 rfl) rfl (Nat.le_of_ble_eq_true rfl) rfl ?_
  refine s_weak (lv' := [some (.ref (ad 0)), some (.int x1), some (.int 0)]) rfl ?_
  refine s_loop (pc := 16) (fun s3 : Int32 => [some (.ref (ad 0)), some (.int x1), some (.int s3)]) [] (fun self2 hself2 s3 => ?_) _ 0
  refine s_iload_n (pc := 16) (dc dl_X10_think 8 rfl) rfl rfl ?_
  refine s_iload_n (pc := 17) (dc dl_X10_think 9 rfl) rfl rfl ?_
  refine s_icmp_ge (pc := 18) (tgt := 39) (dc dl_X10_think 10 rfl) rfl ?_ ?_
  · exact s_return (pc := 39) rfl (dc dl_X10_think 19 rfl)
  · refine s_aload_n (pc := 21) (dc dl_X10_think 11 rfl) rfl rfl ?_
    refine s_getR (pc := 22) fl_X10_10 lk_KL_0 kk_KL_0_0 (dc dl_X10_think 12 rfl) ?_
    refine s_aload_n (pc := 25) (dc dl_X10_think 13 rfl) rfl rfl ?_
    refine s_getR (pc := 26) fl_X10_28 lk_KL_0 kk_KL_0_3 (dc dl_X10_think 14 rfl) ?_
    refine s_calll (pc := 29) (ρ := rh32) (rest := []) hG (ss_KL_HW_rh32) (calls_V (mi := mX10_think) (o := 1) (As := [.ref (ad 99)]) (rest := []) hG (dc dl_X10_think 15 rfl) mo_X1_passDay mv_X1_passDay ml_X10_108 ⟨Nat.le_of_ble_eq_true rfl, Nat.le_of_ble_eq_true rfl⟩ rfl rfl (Nat.le_of_ble_eq_true rfl) lk_KL_1 rfl) (cn_X1_passDay l G hG (fun i => ad (rh32 i))) rfl rfl (fun r4 => ?_)
    refine s_pop (pc := 32) (dc dl_X10_think 16 rfl) rfl ?_
    refine s_iincL (pc := 33) (lf' := fun y5 => [some (.ref (ad 0)), some (.int x1), some (.int y5)]) (dc dl_X10_think 17 rfl) rfl rfl (Nat.le_of_ble_eq_true rfl) (fun _ => rfl) (fun y5 => ?_)
    refine s_goto (pc := 36) (tgt := 16) (dc dl_X10_think 18 rfl) rfl ?_
    exact s_wk (hself2 y5) rfl
def gX10_goes (x1 x2 : Int32) : MM Int32 :=
  bd (lf rh0 0 (gX10_isWithin x1 1 60)) fun r1 =>
  (if r1 = 0 then
  pr ((-1))
  else
  bd (gX10_think x1) fun r2 =>
  swt x2 0 [bd (ld 99 4) fun v3 =>
  bd (lf rh33 1 (gX10_sum v3)) fun r4 =>
  pr r4,
  bd (ld 99 4) fun v5 =>
  bd (lf rh34 1 (gX10_sum v5)) fun r6 =>
  pr r6,
  bd (ld 99 5) fun v7 =>
  bd (lf rh35 1 (gX10_sum v7)) fun r8 =>
  pr r8,
  bd (ld 99 6) fun v9 =>
  bd (lf rh36 1 (gX10_sum v9)) fun r10 =>
  pr r10]
  (pr ((-1))))
set_option maxHeartbeats 4000000 in
theorem cn_X10_goes (l : Launch) (G : Gl) (hG : gOk G) (ad : Nat → Nat) (x1 x2 : Int32) : Cn l G mX10_goes 8 lay_KL ad [.ref (ad 0), .int x1, .int x2] (gX10_goes x1 x2) := by
  refine cn_of (lv := [some (.ref (ad 0)), some (.int x1), some (.int x2)]) (by decide +kernel) rfl (Nat.le_of_ble_eq_true rfl) rfl ?_
  unfold gX10_goes
  refine s_iload_n (pc := 0) (dc dl_X10_goes 0 rfl) rfl rfl ?_
  refine s_iconst (pc := 1) (v := 1) (dc dl_X10_goes 1 rfl) ic_1 ?_
  refine s_bipush (pc := 2) (v := 60) (dc dl_X10_goes 2 rfl) bi_60 ?_
  refine s_calll (pc := 4) (ρ := rh0) (rest := []) hG (ss_KL_E_rh0) (calls_S (mi := mX10_goes) (As := [.int x1, .int 1, .int 60]) (rest := []) hG (dc dl_X10_goes 3 rfl) mo_X10_isWithin ms_X10_isWithin ml_X10_74 ⟨Nat.le_of_ble_eq_true rfl, Nat.le_of_ble_eq_true rfl⟩ rfl rfl (Nat.le_of_ble_eq_true rfl)) (cn_X10_isWithin l G hG (fun i => ad (rh0 i)) x1 1 60) rfl rfl (fun r1 => ?_)
  refine s_if_ne (pc := 7) (tgt := 12) (dc dl_X10_goes 4 rfl) rfl ?_ ?_
  · refine s_iconst (pc := 10) (v := (-1)) (dc dl_X10_goes 5 rfl) ic_m1 ?_
    exact s_ireturn (pc := 11) rfl (dc dl_X10_goes 6 rfl)
  · refine s_aload_n (pc := 12) (dc dl_X10_goes 7 rfl) rfl rfl ?_
    refine s_iload_n (pc := 13) (dc dl_X10_goes 8 rfl) rfl rfl ?_
    refine s_callv (pc := 14) (rest := []) hG (calls_V (mi := mX10_goes) (o := 0) (As := [.int x1]) (rest := []) hG (dc dl_X10_goes 9 rfl) mo_X10_think mv_X10_think ml_X10_232 ⟨Nat.le_of_ble_eq_true rfl, Nat.le_of_ble_eq_true rfl⟩ rfl rfl (Nat.le_of_ble_eq_true rfl) lk_KL_0 rfl) (cn_X10_think l G hG ad x1) rfl (fun r2 => ?_)
    refine s_iload_n (pc := 17) (dc dl_X10_goes 10 rfl) rfl rfl ?_
    refine s_table (pc := 18) (offs := [30, 48, 66, 84]) (tgt := 120) (dc dl_X10_goes 11 rfl) (by decide) (by decide) ?_ ⟨⟨48, by decide, ?_⟩, ⟨66, by decide, ?_⟩, ⟨84, by decide, ?_⟩, ⟨102, by decide, ?_⟩, trivial⟩
    · refine s_iconst (pc := 120) (v := (-1)) (dc dl_X10_goes 44 rfl) ic_m1 ?_
      exact s_ireturn (pc := 121) rfl (dc dl_X10_goes 45 rfl)
    · refine s_aload_n (pc := 48) (dc dl_X10_goes 12 rfl) rfl rfl ?_
      refine s_getR (pc := 49) fl_X10_28 lk_KL_0 kk_KL_0_3 (dc dl_X10_goes 13 rfl) ?_
      refine s_getR (pc := 52) fl_X10_161 lk_KL_99 kk_KL_99_8 (dc dl_X10_goes 14 rfl) ?_
      refine s_aload_n (pc := 55) (dc dl_X10_goes 15 rfl) rfl rfl ?_
      refine s_getR (pc := 56) fl_X10_28 lk_KL_0 kk_KL_0_3 (dc dl_X10_goes 16 rfl) ?_
      refine s_getI (pc := 59) fl_X10_235 lk_KL_99 kk_KL_99_4 (dc dl_X10_goes 17 rfl) (fun v3 => ?_)
      refine s_calll (pc := 62) (ρ := rh33) (rest := []) hG (ss_KL_A_rh33) (calls_S (mi := mX10_goes) (As := [.ref (ad 101), .int v3]) (rest := []) hG (dc dl_X10_goes 18 rfl) mo_X10_sum ms_X10_sum ml_X10_238 ⟨Nat.le_of_ble_eq_true rfl, Nat.le_of_ble_eq_true rfl⟩ rfl rfl (Nat.le_of_ble_eq_true rfl)) (cn_X10_sum l G hG (fun i => ad (rh33 i)) v3) rfl rfl (fun r4 => ?_)
      exact s_ireturn (pc := 65) rfl (dc dl_X10_goes 19 rfl)
    · refine s_aload_n (pc := 66) (dc dl_X10_goes 20 rfl) rfl rfl ?_
      refine s_getR (pc := 67) fl_X10_28 lk_KL_0 kk_KL_0_3 (dc dl_X10_goes 21 rfl) ?_
      refine s_getR (pc := 70) fl_X10_164 lk_KL_99 kk_KL_99_9 (dc dl_X10_goes 22 rfl) ?_
      refine s_aload_n (pc := 73) (dc dl_X10_goes 23 rfl) rfl rfl ?_
      refine s_getR (pc := 74) fl_X10_28 lk_KL_0 kk_KL_0_3 (dc dl_X10_goes 24 rfl) ?_
      refine s_getI (pc := 77) fl_X10_235 lk_KL_99 kk_KL_99_4 (dc dl_X10_goes 25 rfl) (fun v5 => ?_)
      refine s_calll (pc := 80) (ρ := rh34) (rest := []) hG (ss_KL_A_rh34) (calls_S (mi := mX10_goes) (As := [.ref (ad 102), .int v5]) (rest := []) hG (dc dl_X10_goes 26 rfl) mo_X10_sum ms_X10_sum ml_X10_238 ⟨Nat.le_of_ble_eq_true rfl, Nat.le_of_ble_eq_true rfl⟩ rfl rfl (Nat.le_of_ble_eq_true rfl)) (cn_X10_sum l G hG (fun i => ad (rh34 i)) v5) rfl rfl (fun r6 => ?_)
      exact s_ireturn (pc := 83) rfl (dc dl_X10_goes 27 rfl)
    · refine s_aload_n (pc := 84) (dc dl_X10_goes 28 rfl) rfl rfl ?_
      refine s_getR (pc := 85) fl_X10_28 lk_KL_0 kk_KL_0_3 (dc dl_X10_goes 29 rfl) ?_
      refine s_getR (pc := 88) fl_X10_194 lk_KL_99 kk_KL_99_12 (dc dl_X10_goes 30 rfl) ?_
      refine s_aload_n (pc := 91) (dc dl_X10_goes 31 rfl) rfl rfl ?_
      refine s_getR (pc := 92) fl_X10_28 lk_KL_0 kk_KL_0_3 (dc dl_X10_goes 32 rfl) ?_
      refine s_getI (pc := 95) fl_X10_242 lk_KL_99 kk_KL_99_5 (dc dl_X10_goes 33 rfl) (fun v7 => ?_)
      refine s_calll (pc := 98) (ρ := rh35) (rest := []) hG (ss_KL_A_rh35) (calls_S (mi := mX10_goes) (As := [.ref (ad 105), .int v7]) (rest := []) hG (dc dl_X10_goes 34 rfl) mo_X10_sum ms_X10_sum ml_X10_238 ⟨Nat.le_of_ble_eq_true rfl, Nat.le_of_ble_eq_true rfl⟩ rfl rfl (Nat.le_of_ble_eq_true rfl)) (cn_X10_sum l G hG (fun i => ad (rh35 i)) v7) rfl rfl (fun r8 => ?_)
      exact s_ireturn (pc := 101) rfl (dc dl_X10_goes 35 rfl)
    · refine s_aload_n (pc := 102) (dc dl_X10_goes 36 rfl) rfl rfl ?_
      refine s_getR (pc := 103) fl_X10_28 lk_KL_0 kk_KL_0_3 (dc dl_X10_goes 37 rfl) ?_
      refine s_getR (pc := 106) fl_X10_212 lk_KL_99 kk_KL_99_17 (dc dl_X10_goes 38 rfl) ?_
      refine s_aload_n (pc := 109) (dc dl_X10_goes 39 rfl) rfl rfl ?_
      refine s_getR (pc := 110) fl_X10_28 lk_KL_0 kk_KL_0_3 (dc dl_X10_goes 40 rfl) ?_
      refine s_getI (pc := 113) fl_X10_245 lk_KL_99 kk_KL_99_6 (dc dl_X10_goes 41 rfl) (fun v9 => ?_)
      refine s_calll (pc := 116) (ρ := rh36) (rest := []) hG (ss_KL_A_rh36) (calls_S (mi := mX10_goes) (As := [.ref (ad 110), .int v9]) (rest := []) hG (dc dl_X10_goes 42 rfl) mo_X10_sum ms_X10_sum ml_X10_238 ⟨Nat.le_of_ble_eq_true rfl, Nat.le_of_ble_eq_true rfl⟩ rfl rfl (Nat.le_of_ble_eq_true rfl)) (cn_X10_sum l G hG (fun i => ad (rh36 i)) v9) rfl rfl (fun r10 => ?_)
      exact s_ireturn (pc := 119) rfl (dc dl_X10_goes 43 rfl)
def gX10_fate (x1 : Int32) : MM Int32 :=
  bd (lf rh23 13 (gX9_hasThing x1)) fun r1 =>
  (if r1 = 0 then
  pr ((-1))
  else
  bd (gX10_think 60) fun r2 =>
  bd (la 111 x1) fun v3 =>
  pr v3)
set_option maxHeartbeats 4000000 in
theorem cn_X10_fate (l : Launch) (G : Gl) (hG : gOk G) (ad : Nat → Nat) (x1 : Int32) : Cn l G mX10_fate 8 lay_KL ad [.ref (ad 0), .int x1] (gX10_fate x1) := by
  refine cn_of (lv := [some (.ref (ad 0)), some (.int x1)]) (by decide +kernel) rfl (Nat.le_of_ble_eq_true rfl) rfl ?_
  unfold gX10_fate
  refine s_aload_n (pc := 0) (dc dl_X10_fate 0 rfl) rfl rfl ?_
  refine s_getR (pc := 1) fl_X10_10 lk_KL_0 kk_KL_0_0 (dc dl_X10_fate 1 rfl) ?_
  refine s_getR (pc := 4) fl_X10_68 lk_KL_1 kk_KL_1_0 (dc dl_X10_fate 2 rfl) ?_
  refine s_iload_n (pc := 7) (dc dl_X10_fate 3 rfl) rfl rfl ?_
  refine s_calll (pc := 8) (ρ := rh23) (rest := []) hG (ss_KL_World_rh23) (calls_V (mi := mX10_fate) (o := 2) (As := [.int x1]) (rest := []) hG (dc dl_X10_fate 4 rfl) mo_X9_hasThing mv_X9_hasThing ml_X10_200 ⟨Nat.le_of_ble_eq_true rfl, Nat.le_of_ble_eq_true rfl⟩ rfl rfl (Nat.le_of_ble_eq_true rfl) lk_KL_2 rfl) (cn_X9_hasThing l G hG (fun i => ad (rh23 i)) x1) rfl rfl (fun r1 => ?_)
  refine s_if_ne (pc := 11) (tgt := 16) (dc dl_X10_fate 5 rfl) rfl ?_ ?_
  · refine s_iconst (pc := 14) (v := (-1)) (dc dl_X10_fate 6 rfl) ic_m1 ?_
    exact s_ireturn (pc := 15) rfl (dc dl_X10_fate 7 rfl)
  · refine s_aload_n (pc := 16) (dc dl_X10_fate 8 rfl) rfl rfl ?_
    refine s_bipush (pc := 17) (v := 60) (dc dl_X10_fate 9 rfl) bi_60 ?_
    refine s_callv (pc := 19) (rest := []) hG (calls_V (mi := mX10_fate) (o := 0) (As := [.int 60]) (rest := []) hG (dc dl_X10_fate 10 rfl) mo_X10_think mv_X10_think ml_X10_232 ⟨Nat.le_of_ble_eq_true rfl, Nat.le_of_ble_eq_true rfl⟩ rfl rfl (Nat.le_of_ble_eq_true rfl) lk_KL_0 rfl) (cn_X10_think l G hG ad 60) rfl (fun r2 => ?_)
    refine s_aload_n (pc := 22) (dc dl_X10_fate 11 rfl) rfl rfl ?_
    refine s_getR (pc := 23) fl_X10_28 lk_KL_0 kk_KL_0_3 (dc dl_X10_fate 12 rfl) ?_
    refine s_getR (pc := 26) fl_X10_215 lk_KL_99 kk_KL_99_18 (dc dl_X10_fate 13 rfl) ?_
    refine s_iload_n (pc := 29) (dc dl_X10_fate 14 rfl) rfl rfl ?_
    refine s_iald (pc := 30) lk_KL_111 (dc dl_X10_fate 15 rfl) (fun v3 => ?_)
    exact s_ireturn (pc := 31) rfl (dc dl_X10_fate 16 rfl)
def gX10_crossing (x1 : Int32) : MM Int32 :=
  (if x1 = 0 then
  bd (lf rh37 2 gX8_empty) fun r5 =>
  pr r5
  else
  bd (lf rh0 0 (gX10_isWithin x1 ((-4)) 4)) fun r1 =>
  jn (fun (a3 : Int32) =>
  pr a3) (fun j2 =>
  (if r1 = 0 then
  j2 ((-1))
  else
  bd (lf rh37 2 (gX8_tell x1)) fun r4 =>
  j2 r4)))
set_option maxHeartbeats 4000000 in
theorem cn_X10_crossing (l : Launch) (G : Gl) (hG : gOk G) (ad : Nat → Nat) (x1 : Int32) : Cn l G mX10_crossing 1 lay_KL ad [.ref (ad 0), .int x1] (gX10_crossing x1) := by
  refine cn_of (lv := [some (.ref (ad 0)), some (.int x1)]) (by decide +kernel) rfl (Nat.le_of_ble_eq_true rfl) rfl ?_
  unfold gX10_crossing
  refine s_iload_n (pc := 0) (dc dl_X10_crossing 0 rfl) rfl rfl ?_
  refine s_if_ne (pc := 1) (tgt := 15) (dc dl_X10_crossing 1 rfl) rfl ?_ ?_
  · refine s_aload_n (pc := 4) (dc dl_X10_crossing 2 rfl) rfl rfl ?_
    refine s_getR (pc := 5) fl_X10_10 lk_KL_0 kk_KL_0_0 (dc dl_X10_crossing 3 rfl) ?_
    refine s_getR (pc := 8) fl_X10_248 lk_KL_1 kk_KL_1_6 (dc dl_X10_crossing 4 rfl) ?_
    refine s_calll (pc := 11) (ρ := rh37) (rest := []) hG (ss_KL_Told_rh37) (calls_V (mi := mX10_crossing) (o := 39) (As := []) (rest := []) hG (dc dl_X10_crossing 5 rfl) mo_X8_empty mv_X8_empty ml_X10_252 ⟨Nat.le_of_ble_eq_true rfl, Nat.le_of_ble_eq_true rfl⟩ rfl rfl (Nat.le_of_ble_eq_true rfl) lk_KL_39 rfl) (cn_X8_empty l G hG (fun i => ad (rh37 i))) rfl rfl (fun r5 => ?_)
    exact s_ireturn (pc := 14) rfl (dc dl_X10_crossing 6 rfl)
  · refine s_iload_n (pc := 15) (dc dl_X10_crossing 7 rfl) rfl rfl ?_
    refine s_bipush (pc := 16) (v := (-4)) (dc dl_X10_crossing 8 rfl) bi_m4 ?_
    refine s_iconst (pc := 18) (v := 4) (dc dl_X10_crossing 9 rfl) ic_4 ?_
    refine s_calll (pc := 19) (ρ := rh0) (rest := []) hG (ss_KL_E_rh0) (calls_S (mi := mX10_crossing) (As := [.int x1, .int ((-4)), .int 4]) (rest := []) hG (dc dl_X10_crossing 10 rfl) mo_X10_isWithin ms_X10_isWithin ml_X10_74 ⟨Nat.le_of_ble_eq_true rfl, Nat.le_of_ble_eq_true rfl⟩ rfl rfl (Nat.le_of_ble_eq_true rfl)) (cn_X10_isWithin l G hG (fun i => ad (rh0 i)) x1 ((-4)) 4) rfl rfl (fun r1 => ?_)
    refine s_jn (pj := 40) (fun a3 : Int32 => [none, none]) (fun a3 : Int32 => [.int a3]) (fun a3 => ?_) (fun j2 hj2 => ?_)
    · exact s_ireturn (pc := 40) rfl (dc dl_X10_crossing 19 rfl)
    · refine s_if_eq (pc := 22) (tgt := 39) (dc dl_X10_crossing 11 rfl) rfl ?_ ?_
      · refine s_iconst (pc := 39) (v := (-1)) (dc dl_X10_crossing 18 rfl) ic_m1 ?_
        exact s_wk (hj2 ((-1))) rfl
      · refine s_aload_n (pc := 25) (dc dl_X10_crossing 12 rfl) rfl rfl ?_
        refine s_getR (pc := 26) fl_X10_10 lk_KL_0 kk_KL_0_0 (dc dl_X10_crossing 13 rfl) ?_
        refine s_getR (pc := 29) fl_X10_248 lk_KL_1 kk_KL_1_6 (dc dl_X10_crossing 14 rfl) ?_
        refine s_iload_n (pc := 32) (dc dl_X10_crossing 15 rfl) rfl rfl ?_
        refine s_calll (pc := 33) (ρ := rh37) (rest := []) hG (ss_KL_Told_rh37) (calls_V (mi := mX10_crossing) (o := 39) (As := [.int x1]) (rest := []) hG (dc dl_X10_crossing 16 rfl) mo_X8_tell mv_X8_tell ml_X10_258 ⟨Nat.le_of_ble_eq_true rfl, Nat.le_of_ble_eq_true rfl⟩ rfl rfl (Nat.le_of_ble_eq_true rfl) lk_KL_39 rfl) (cn_X8_tell l G hG (fun i => ad (rh37 i)) x1) rfl rfl (fun r4 => ?_)
        refine s_goto (pc := 36) (tgt := 40) (dc dl_X10_crossing 17 rfl) rfl ?_
        exact s_wk (hj2 r4) rfl
def gX10_braid (x1 : Int32) : MM Int32 :=
  (if x1 = ((-1)) then
  bd (lf rh38 6 gX6_crossingsLeft) fun r5 =>
  pr r5
  else
  bd (lf rh0 0 (gX10_isWithin x1 0 4)) fun r1 =>
  jn (fun (a3 : Int32) =>
  pr a3) (fun j2 =>
  (if r1 = 0 then
  j2 ((-1))
  else
  bd (lf rh37 2 (gX6_strandEnd x1)) fun r4 =>
  j2 r4)))
set_option maxHeartbeats 4000000 in
theorem cn_X10_braid (l : Launch) (G : Gl) (hG : gOk G) (ad : Nat → Nat) (x1 : Int32) : Cn l G mX10_braid 2 lay_KL ad [.ref (ad 0), .int x1] (gX10_braid x1) := by
  refine cn_of (lv := [some (.ref (ad 0)), some (.int x1)]) (by decide +kernel) rfl (Nat.le_of_ble_eq_true rfl) rfl ?_
  unfold gX10_braid
  refine s_iload_n (pc := 0) (dc dl_X10_braid 0 rfl) rfl rfl ?_
  refine s_iconst (pc := 1) (v := (-1)) (dc dl_X10_braid 1 rfl) ic_m1 ?_
  refine s_icmp_ne (pc := 2) (tgt := 20) (dc dl_X10_braid 2 rfl) rfl ?_ ?_
  · refine s_aload_n (pc := 5) (dc dl_X10_braid 3 rfl) rfl rfl ?_
    refine s_getR (pc := 6) fl_X10_64 lk_KL_0 kk_KL_0_9 (dc dl_X10_braid 4 rfl) ?_
    refine s_aload_n (pc := 9) (dc dl_X10_braid 5 rfl) rfl rfl ?_
    refine s_getR (pc := 10) fl_X10_10 lk_KL_0 kk_KL_0_0 (dc dl_X10_braid 6 rfl) ?_
    refine s_getR (pc := 13) fl_X10_248 lk_KL_1 kk_KL_1_6 (dc dl_X10_braid 7 rfl) ?_
    refine s_calll (pc := 16) (ρ := rh38) (rest := []) hG (ss_KL_PuzT_rh38) (calls_V (mi := mX10_braid) (o := 129) (As := [.ref (ad 39)]) (rest := []) hG (dc dl_X10_braid 8 rfl) mo_X6_crossingsLeft mv_X6_crossingsLeft ml_X10_261 ⟨Nat.le_of_ble_eq_true rfl, Nat.le_of_ble_eq_true rfl⟩ rfl rfl (Nat.le_of_ble_eq_true rfl) lk_KL_129 rfl) (cn_X6_crossingsLeft l G hG (fun i => ad (rh38 i))) rfl rfl (fun r5 => ?_)
    exact s_ireturn (pc := 19) rfl (dc dl_X10_braid 9 rfl)
  · refine s_iload_n (pc := 20) (dc dl_X10_braid 10 rfl) rfl rfl ?_
    refine s_iconst (pc := 21) (v := 0) (dc dl_X10_braid 11 rfl) ic_0 ?_
    refine s_iconst (pc := 22) (v := 4) (dc dl_X10_braid 12 rfl) ic_4 ?_
    refine s_calll (pc := 23) (ρ := rh0) (rest := []) hG (ss_KL_E_rh0) (calls_S (mi := mX10_braid) (As := [.int x1, .int 0, .int 4]) (rest := []) hG (dc dl_X10_braid 13 rfl) mo_X10_isWithin ms_X10_isWithin ml_X10_74 ⟨Nat.le_of_ble_eq_true rfl, Nat.le_of_ble_eq_true rfl⟩ rfl rfl (Nat.le_of_ble_eq_true rfl)) (cn_X10_isWithin l G hG (fun i => ad (rh0 i)) x1 0 4) rfl rfl (fun r1 => ?_)
    refine s_jn (pj := 44) (fun a3 : Int32 => [none, none]) (fun a3 : Int32 => [.int a3]) (fun a3 => ?_) (fun j2 hj2 => ?_)
    · exact s_ireturn (pc := 44) rfl (dc dl_X10_braid 22 rfl)
    · refine s_if_eq (pc := 26) (tgt := 43) (dc dl_X10_braid 14 rfl) rfl ?_ ?_
      · refine s_iconst (pc := 43) (v := (-1)) (dc dl_X10_braid 21 rfl) ic_m1 ?_
        exact s_wk (hj2 ((-1))) rfl
      · refine s_aload_n (pc := 29) (dc dl_X10_braid 15 rfl) rfl rfl ?_
        refine s_getR (pc := 30) fl_X10_10 lk_KL_0 kk_KL_0_0 (dc dl_X10_braid 16 rfl) ?_
        refine s_getR (pc := 33) fl_X10_248 lk_KL_1 kk_KL_1_6 (dc dl_X10_braid 17 rfl) ?_
        refine s_iload_n (pc := 36) (dc dl_X10_braid 18 rfl) rfl rfl ?_
        refine s_calll (pc := 37) (ρ := rh37) (rest := []) hG (ss_KL_Told_rh37) (calls_S (mi := mX10_braid) (As := [.ref (ad 39), .int x1]) (rest := []) hG (dc dl_X10_braid 19 rfl) mo_X6_strandEnd ms_X6_strandEnd ml_X10_265 ⟨Nat.le_of_ble_eq_true rfl, Nat.le_of_ble_eq_true rfl⟩ rfl rfl (Nat.le_of_ble_eq_true rfl)) (cn_X6_strandEnd l G hG (fun i => ad (rh37 i)) x1) rfl rfl (fun r4 => ?_)
        refine s_goto (pc := 40) (tgt := 44) (dc dl_X10_braid 20 rfl) rfl ?_
        exact s_wk (hj2 r4) rfl
def gX10_turnings (x1 x2 : Int32) : MM Int32 :=
  bd (lf rh0 0 (gX10_isWithin x2 0 1)) fun r1 =>
  jn (fun (a3 : Unit) =>
  pr ((-1))) (fun j2 =>
  (if r1 = 0 then
  j2 ()
  else
  bd (lf rh39 4 (gX6_layRow x1)) fun r4 =>
  (if r4 = 0 then
  j2 ()
  else
  jn (fun (a6 : Int32) =>
  pr a6) (fun j5 =>
  (if x2 = 0 then
  bd (lf rh39 4 gX6_fewestTurnings) fun r8 =>
  j5 r8
  else
  bd (lf rh39 4 gX6_strangeCouples) fun r7 =>
  j5 r7)))))
set_option maxHeartbeats 4000000 in
theorem cn_X10_turnings (l : Launch) (G : Gl) (hG : gOk G) (ad : Nat → Nat) (x1 x2 : Int32) : Cn l G mX10_turnings 16 lay_KL ad [.ref (ad 0), .int x1, .int x2] (gX10_turnings x1 x2) := by
  refine cn_of (lv := [some (.ref (ad 0)), some (.int x1), some (.int x2)]) (by decide +kernel) rfl (Nat.le_of_ble_eq_true rfl) rfl ?_
  unfold gX10_turnings
  refine s_iload_n (pc := 0) (dc dl_X10_turnings 0 rfl) rfl rfl ?_
  refine s_iconst (pc := 1) (v := 0) (dc dl_X10_turnings 1 rfl) ic_0 ?_
  refine s_iconst (pc := 2) (v := 1) (dc dl_X10_turnings 2 rfl) ic_1 ?_
  refine s_calll (pc := 3) (ρ := rh0) (rest := []) hG (ss_KL_E_rh0) (calls_S (mi := mX10_turnings) (As := [.int x2, .int 0, .int 1]) (rest := []) hG (dc dl_X10_turnings 3 rfl) mo_X10_isWithin ms_X10_isWithin ml_X10_74 ⟨Nat.le_of_ble_eq_true rfl, Nat.le_of_ble_eq_true rfl⟩ rfl rfl (Nat.le_of_ble_eq_true rfl)) (cn_X10_isWithin l G hG (fun i => ad (rh0 i)) x2 0 1) rfl rfl (fun r1 => ?_)
  refine s_jn (pj := 20) (fun a3 : Unit => [none, none, none]) (fun a3 : Unit => []) (fun a3 => ?_) (fun j2 hj2 => ?_)
  · refine s_iconst (pc := 20) (v := (-1)) (dc dl_X10_turnings 10 rfl) ic_m1 ?_
    exact s_ireturn (pc := 21) rfl (dc dl_X10_turnings 11 rfl)
  · refine s_if_eq (pc := 6) (tgt := 20) (dc dl_X10_turnings 4 rfl) rfl ?_ ?_
    · exact s_wk (hj2 ()) rfl
    · refine s_aload_n (pc := 9) (dc dl_X10_turnings 5 rfl) rfl rfl ?_
      refine s_getR (pc := 10) fl_X10_64 lk_KL_0 kk_KL_0_9 (dc dl_X10_turnings 6 rfl) ?_
      refine s_iload_n (pc := 13) (dc dl_X10_turnings 7 rfl) rfl rfl ?_
      refine s_calll (pc := 14) (ρ := rh39) (rest := []) hG (ss_KL_Puzzles_rh39) (calls_V (mi := mX10_turnings) (o := 129) (As := [.int x1]) (rest := []) hG (dc dl_X10_turnings 8 rfl) mo_X6_layRow mv_X6_layRow ml_X10_269 ⟨Nat.le_of_ble_eq_true rfl, Nat.le_of_ble_eq_true rfl⟩ rfl rfl (Nat.le_of_ble_eq_true rfl) lk_KL_129 rfl) (cn_X6_layRow l G hG (fun i => ad (rh39 i)) x1) rfl rfl (fun r4 => ?_)
      refine s_if_ne (pc := 17) (tgt := 22) (dc dl_X10_turnings 9 rfl) rfl ?_ ?_
      · exact s_wk (hj2 ()) rfl
      · refine s_iload_n (pc := 22) (dc dl_X10_turnings 12 rfl) rfl rfl ?_
        refine s_jn (pj := 43) (fun a6 : Int32 => [none, none, none]) (fun a6 : Int32 => [.int a6]) (fun a6 => ?_) (fun j5 hj5 => ?_)
        · exact s_ireturn (pc := 43) rfl (dc dl_X10_turnings 21 rfl)
        · refine s_if_ne (pc := 23) (tgt := 36) (dc dl_X10_turnings 13 rfl) rfl ?_ ?_
          · refine s_aload_n (pc := 26) (dc dl_X10_turnings 14 rfl) rfl rfl ?_
            refine s_getR (pc := 27) fl_X10_64 lk_KL_0 kk_KL_0_9 (dc dl_X10_turnings 15 rfl) ?_
            refine s_calll (pc := 30) (ρ := rh39) (rest := []) hG (ss_KL_Puzzles_rh39) (calls_V (mi := mX10_turnings) (o := 129) (As := []) (rest := []) hG (dc dl_X10_turnings 16 rfl) mo_X6_fewestTurnings mv_X6_fewestTurnings ml_X10_272 ⟨Nat.le_of_ble_eq_true rfl, Nat.le_of_ble_eq_true rfl⟩ rfl rfl (Nat.le_of_ble_eq_true rfl) lk_KL_129 rfl) (cn_X6_fewestTurnings l G hG (fun i => ad (rh39 i))) rfl rfl (fun r8 => ?_)
            refine s_goto (pc := 33) (tgt := 43) (dc dl_X10_turnings 17 rfl) rfl ?_
            exact s_wk (hj5 r8) rfl
          · refine s_aload_n (pc := 36) (dc dl_X10_turnings 18 rfl) rfl rfl ?_
            refine s_getR (pc := 37) fl_X10_64 lk_KL_0 kk_KL_0_9 (dc dl_X10_turnings 19 rfl) ?_
            refine s_calll (pc := 40) (ρ := rh39) (rest := []) hG (ss_KL_Puzzles_rh39) (calls_V (mi := mX10_turnings) (o := 129) (As := []) (rest := []) hG (dc dl_X10_turnings 20 rfl) mo_X6_strangeCouples mv_X6_strangeCouples ml_X10_275 ⟨Nat.le_of_ble_eq_true rfl, Nat.le_of_ble_eq_true rfl⟩ rfl rfl (Nat.le_of_ble_eq_true rfl) lk_KL_129 rfl) (cn_X6_strangeCouples l G hG (fun i => ad (rh39 i))) rfl rfl (fun r7 => ?_)
            exact s_wk (hj5 r7) rfl
def gX10_strip (x1 x2 x3 : Int32) : MM Int32 :=
  bd (lf rh0 0 (gX10_isWithin x1 0 447)) fun r1 =>
  jn (fun (a3 : Unit) =>
  pr ((-1))) (fun j2 =>
  (if r1 = 0 then
  j2 ()
  else
  nz 64 (
  bd (lf rh0 0 (gX10_isWithin x2 0 ((1 <<< ((x1 / 64) &&& 31)) - 1))) fun r4 =>
  (if r4 = 0 then
  j2 ()
  else
  swt x3 0 [nz 64 (
  nz 64 (
  bd (lf rh0 0 (gX6_cellAt (x1 / 64) (irm x1 64) x2)) fun r5 =>
  pr r5)),
  nz 64 (
  nz 64 (
  bd (lf rh0 0 (gX6_folded (x1 / 64) (irm x1 64) x2)) fun r6 =>
  nz 2 (
  pr (r6 / 2)))),
  nz 64 (
  nz 64 (
  bd (lf rh0 0 (gX6_folded (x1 / 64) (irm x1 64) x2)) fun r7 =>
  nz 2 (
  pr (irm r7 2))))]
  (pr ((-1)))))))
set_option maxHeartbeats 4000000 in
theorem cn_X10_strip (l : Launch) (G : Gl) (hG : gOk G) (ad : Nat → Nat) (x1 x2 x3 : Int32) : Cn l G mX10_strip 2 lay_KL ad [.ref (ad 0), .int x1, .int x2, .int x3] (gX10_strip x1 x2 x3) := by
  refine cn_of (lv := [some (.ref (ad 0)), some (.int x1), some (.int x2), some (.int x3)]) (by decide +kernel) rfl (Nat.le_of_ble_eq_true rfl) rfl ?_
  unfold gX10_strip
  refine s_iload_n (pc := 0) (dc dl_X10_strip 0 rfl) rfl rfl ?_
  refine s_iconst (pc := 1) (v := 0) (dc dl_X10_strip 1 rfl) ic_0 ?_
  refine s_sipush (pc := 2) (v := 447) (dc dl_X10_strip 2 rfl) si_447 ?_
  refine s_calll (pc := 5) (ρ := rh0) (rest := []) hG (ss_KL_E_rh0) (calls_S (mi := mX10_strip) (As := [.int x1, .int 0, .int 447]) (rest := []) hG (dc dl_X10_strip 3 rfl) mo_X10_isWithin ms_X10_isWithin ml_X10_74 ⟨Nat.le_of_ble_eq_true rfl, Nat.le_of_ble_eq_true rfl⟩ rfl rfl (Nat.le_of_ble_eq_true rfl)) (cn_X10_isWithin l G hG (fun i => ad (rh0 i)) x1 0 447) rfl rfl (fun r1 => ?_)
  refine s_jn (pj := 27) (fun a3 : Unit => [none, none, none, none]) (fun a3 : Unit => []) (fun a3 => ?_) (fun j2 hj2 => ?_)
  · refine s_iconst (pc := 27) (v := (-1)) (dc dl_X10_strip 16 rfl) ic_m1 ?_
    exact s_ireturn (pc := 28) rfl (dc dl_X10_strip 17 rfl)
  · refine s_if_eq (pc := 8) (tgt := 27) (dc dl_X10_strip 4 rfl) rfl ?_ ?_
    · exact s_wk (hj2 ()) rfl
    · refine s_iload_n (pc := 11) (dc dl_X10_strip 5 rfl) rfl rfl ?_
      refine s_iconst (pc := 12) (v := 0) (dc dl_X10_strip 6 rfl) ic_0 ?_
      refine s_iconst (pc := 13) (v := 1) (dc dl_X10_strip 7 rfl) ic_1 ?_
      refine s_iload_n (pc := 14) (dc dl_X10_strip 8 rfl) rfl rfl ?_
      refine s_bipush (pc := 15) (v := 64) (dc dl_X10_strip 9 rfl) bi_64 ?_
      refine s_idiv (pc := 17) (dc dl_X10_strip 10 rfl) ?_
      refine s_ishl (pc := 18) (dc dl_X10_strip 11 rfl) ?_
      refine s_iconst (pc := 19) (v := 1) (dc dl_X10_strip 12 rfl) ic_1 ?_
      refine s_isub (pc := 20) (dc dl_X10_strip 13 rfl) ?_
      refine s_calll (pc := 21) (ρ := rh0) (rest := []) hG (ss_KL_E_rh0) (calls_S (mi := mX10_strip) (As := [.int x2, .int 0, .int ((1 <<< ((x1 / 64) &&& 31)) - 1)]) (rest := []) hG (dc dl_X10_strip 14 rfl) mo_X10_isWithin ms_X10_isWithin ml_X10_74 ⟨Nat.le_of_ble_eq_true rfl, Nat.le_of_ble_eq_true rfl⟩ rfl rfl (Nat.le_of_ble_eq_true rfl)) (cn_X10_isWithin l G hG (fun i => ad (rh0 i)) x2 0 ((1 <<< ((x1 / 64) &&& 31)) - 1)) rfl rfl (fun r4 => ?_)
      refine s_if_ne (pc := 24) (tgt := 29) (dc dl_X10_strip 15 rfl) rfl ?_ ?_
      · exact s_wk (hj2 ()) rfl
      · refine s_iload_n (pc := 29) (dc dl_X10_strip 18 rfl) rfl rfl ?_
        refine s_table (pc := 30) (offs := [26, 39, 54]) (tgt := 99) (dc dl_X10_strip 19 rfl) (by decide) (by decide) ?_ ⟨⟨56, by decide, ?_⟩, ⟨69, by decide, ?_⟩, ⟨84, by decide, ?_⟩, trivial⟩
        · refine s_iconst (pc := 99) (v := (-1)) (dc dl_X10_strip 51 rfl) ic_m1 ?_
          exact s_ireturn (pc := 100) rfl (dc dl_X10_strip 52 rfl)
        · refine s_iload_n (pc := 56) (dc dl_X10_strip 20 rfl) rfl rfl ?_
          refine s_bipush (pc := 57) (v := 64) (dc dl_X10_strip 21 rfl) bi_64 ?_
          refine s_idiv (pc := 59) (dc dl_X10_strip 22 rfl) ?_
          refine s_iload_n (pc := 60) (dc dl_X10_strip 23 rfl) rfl rfl ?_
          refine s_bipush (pc := 61) (v := 64) (dc dl_X10_strip 24 rfl) bi_64 ?_
          refine s_irem (pc := 63) (dc dl_X10_strip 25 rfl) ?_
          refine s_iload_n (pc := 64) (dc dl_X10_strip 26 rfl) rfl rfl ?_
          refine s_calll (pc := 65) (ρ := rh0) (rest := []) hG (ss_KL_E_rh0) (calls_S (mi := mX10_strip) (As := [.int (x1 / 64), .int (irm x1 64), .int x2]) (rest := []) hG (dc dl_X10_strip 27 rfl) mo_X6_cellAt ms_X6_cellAt ml_X10_278 ⟨Nat.le_of_ble_eq_true rfl, Nat.le_of_ble_eq_true rfl⟩ rfl rfl (Nat.le_of_ble_eq_true rfl)) (cn_X6_cellAt l G hG (fun i => ad (rh0 i)) (x1 / 64) (irm x1 64) x2) rfl rfl (fun r5 => ?_)
          exact s_ireturn (pc := 68) rfl (dc dl_X10_strip 28 rfl)
        · refine s_iload_n (pc := 69) (dc dl_X10_strip 29 rfl) rfl rfl ?_
          refine s_bipush (pc := 70) (v := 64) (dc dl_X10_strip 30 rfl) bi_64 ?_
          refine s_idiv (pc := 72) (dc dl_X10_strip 31 rfl) ?_
          refine s_iload_n (pc := 73) (dc dl_X10_strip 32 rfl) rfl rfl ?_
          refine s_bipush (pc := 74) (v := 64) (dc dl_X10_strip 33 rfl) bi_64 ?_
          refine s_irem (pc := 76) (dc dl_X10_strip 34 rfl) ?_
          refine s_iload_n (pc := 77) (dc dl_X10_strip 35 rfl) rfl rfl ?_
          refine s_calll (pc := 78) (ρ := rh0) (rest := []) hG (ss_KL_E_rh0) (calls_S (mi := mX10_strip) (As := [.int (x1 / 64), .int (irm x1 64), .int x2]) (rest := []) hG (dc dl_X10_strip 36 rfl) mo_X6_folded ms_X6_folded ml_X10_282 ⟨Nat.le_of_ble_eq_true rfl, Nat.le_of_ble_eq_true rfl⟩ rfl rfl (Nat.le_of_ble_eq_true rfl)) (cn_X6_folded l G hG (fun i => ad (rh0 i)) (x1 / 64) (irm x1 64) x2) rfl rfl (fun r6 => ?_)
          refine s_iconst (pc := 81) (v := 2) (dc dl_X10_strip 37 rfl) ic_2 ?_
          refine s_idiv (pc := 82) (dc dl_X10_strip 38 rfl) ?_
          exact s_ireturn (pc := 83) rfl (dc dl_X10_strip 39 rfl)
        · refine s_iload_n (pc := 84) (dc dl_X10_strip 40 rfl) rfl rfl ?_
          refine s_bipush (pc := 85) (v := 64) (dc dl_X10_strip 41 rfl) bi_64 ?_
          refine s_idiv (pc := 87) (dc dl_X10_strip 42 rfl) ?_
          refine s_iload_n (pc := 88) (dc dl_X10_strip 43 rfl) rfl rfl ?_
          refine s_bipush (pc := 89) (v := 64) (dc dl_X10_strip 44 rfl) bi_64 ?_
          refine s_irem (pc := 91) (dc dl_X10_strip 45 rfl) ?_
          refine s_iload_n (pc := 92) (dc dl_X10_strip 46 rfl) rfl rfl ?_
          refine s_calll (pc := 93) (ρ := rh0) (rest := []) hG (ss_KL_E_rh0) (calls_S (mi := mX10_strip) (As := [.int (x1 / 64), .int (irm x1 64), .int x2]) (rest := []) hG (dc dl_X10_strip 47 rfl) mo_X6_folded ms_X6_folded ml_X10_282 ⟨Nat.le_of_ble_eq_true rfl, Nat.le_of_ble_eq_true rfl⟩ rfl rfl (Nat.le_of_ble_eq_true rfl)) (cn_X6_folded l G hG (fun i => ad (rh0 i)) (x1 / 64) (irm x1 64) x2) rfl rfl (fun r7 => ?_)
          refine s_iconst (pc := 96) (v := 2) (dc dl_X10_strip 48 rfl) ic_2 ?_
          refine s_irem (pc := 97) (dc dl_X10_strip 49 rfl) ?_
          exact s_ireturn (pc := 98) rfl (dc dl_X10_strip 50 rfl)
def gX10_answer (x1 : Int32) : MM Int32 :=
  (if x1 = ((-1)) then
  bd (lf rh40 2 gX8_empty) fun r5 =>
  pr r5
  else
  bd (lf rh0 0 (gX10_isWithin x1 0 1)) fun r1 =>
  jn (fun (a3 : Int32) =>
  pr a3) (fun j2 =>
  (if r1 = 0 then
  j2 ((-1))
  else
  bd (lf rh40 2 (gX8_tell x1)) fun r4 =>
  j2 r4)))
set_option maxHeartbeats 4000000 in
theorem cn_X10_answer (l : Launch) (G : Gl) (hG : gOk G) (ad : Nat → Nat) (x1 : Int32) : Cn l G mX10_answer 1 lay_KL ad [.ref (ad 0), .int x1] (gX10_answer x1) := by
  refine cn_of (lv := [some (.ref (ad 0)), some (.int x1)]) (by decide +kernel) rfl (Nat.le_of_ble_eq_true rfl) rfl ?_
  unfold gX10_answer
  refine s_iload_n (pc := 0) (dc dl_X10_answer 0 rfl) rfl rfl ?_
  refine s_iconst (pc := 1) (v := (-1)) (dc dl_X10_answer 1 rfl) ic_m1 ?_
  refine s_icmp_ne (pc := 2) (tgt := 16) (dc dl_X10_answer 2 rfl) rfl ?_ ?_
  · refine s_aload_n (pc := 5) (dc dl_X10_answer 3 rfl) rfl rfl ?_
    refine s_getR (pc := 6) fl_X10_10 lk_KL_0 kk_KL_0_0 (dc dl_X10_answer 4 rfl) ?_
    refine s_getR (pc := 9) fl_X10_285 lk_KL_1 kk_KL_1_7 (dc dl_X10_answer 5 rfl) ?_
    refine s_calll (pc := 12) (ρ := rh40) (rest := []) hG (ss_KL_Told_rh40) (calls_V (mi := mX10_answer) (o := 41) (As := []) (rest := []) hG (dc dl_X10_answer 6 rfl) mo_X8_empty mv_X8_empty ml_X10_252 ⟨Nat.le_of_ble_eq_true rfl, Nat.le_of_ble_eq_true rfl⟩ rfl rfl (Nat.le_of_ble_eq_true rfl) lk_KL_41 rfl) (cn_X8_empty l G hG (fun i => ad (rh40 i))) rfl rfl (fun r5 => ?_)
    exact s_ireturn (pc := 15) rfl (dc dl_X10_answer 7 rfl)
  · refine s_iload_n (pc := 16) (dc dl_X10_answer 8 rfl) rfl rfl ?_
    refine s_iconst (pc := 17) (v := 0) (dc dl_X10_answer 9 rfl) ic_0 ?_
    refine s_iconst (pc := 18) (v := 1) (dc dl_X10_answer 10 rfl) ic_1 ?_
    refine s_calll (pc := 19) (ρ := rh0) (rest := []) hG (ss_KL_E_rh0) (calls_S (mi := mX10_answer) (As := [.int x1, .int 0, .int 1]) (rest := []) hG (dc dl_X10_answer 11 rfl) mo_X10_isWithin ms_X10_isWithin ml_X10_74 ⟨Nat.le_of_ble_eq_true rfl, Nat.le_of_ble_eq_true rfl⟩ rfl rfl (Nat.le_of_ble_eq_true rfl)) (cn_X10_isWithin l G hG (fun i => ad (rh0 i)) x1 0 1) rfl rfl (fun r1 => ?_)
    refine s_jn (pj := 40) (fun a3 : Int32 => [none, none]) (fun a3 : Int32 => [.int a3]) (fun a3 => ?_) (fun j2 hj2 => ?_)
    · exact s_ireturn (pc := 40) rfl (dc dl_X10_answer 20 rfl)
    · refine s_if_eq (pc := 22) (tgt := 39) (dc dl_X10_answer 12 rfl) rfl ?_ ?_
      · refine s_iconst (pc := 39) (v := (-1)) (dc dl_X10_answer 19 rfl) ic_m1 ?_
        exact s_wk (hj2 ((-1))) rfl
      · refine s_aload_n (pc := 25) (dc dl_X10_answer 13 rfl) rfl rfl ?_
        refine s_getR (pc := 26) fl_X10_10 lk_KL_0 kk_KL_0_0 (dc dl_X10_answer 14 rfl) ?_
        refine s_getR (pc := 29) fl_X10_285 lk_KL_1 kk_KL_1_7 (dc dl_X10_answer 15 rfl) ?_
        refine s_iload_n (pc := 32) (dc dl_X10_answer 16 rfl) rfl rfl ?_
        refine s_calll (pc := 33) (ρ := rh40) (rest := []) hG (ss_KL_Told_rh40) (calls_V (mi := mX10_answer) (o := 41) (As := [.int x1]) (rest := []) hG (dc dl_X10_answer 17 rfl) mo_X8_tell mv_X8_tell ml_X10_258 ⟨Nat.le_of_ble_eq_true rfl, Nat.le_of_ble_eq_true rfl⟩ rfl rfl (Nat.le_of_ble_eq_true rfl) lk_KL_41 rfl) (cn_X8_tell l G hG (fun i => ad (rh40 i)) x1) rfl rfl (fun r4 => ?_)
        refine s_goto (pc := 36) (tgt := 40) (dc dl_X10_answer 18 rfl) rfl ?_
        exact s_wk (hj2 r4) rfl
def gX10_boxes (x1 : Int32) : MM Int32 :=
  swl x1 [(0, bd (ld 41 0) fun v1 =>
  bd (lf rh40 2 (gX6_boxAfter v1)) fun r2 =>
  pr r2),
  (1, bd (lf rh40 2 gX6_nextAsked) fun r3 =>
  pr r3)]
  (pr ((-1)))
set_option maxHeartbeats 4000000 in
theorem cn_X10_boxes (l : Launch) (G : Gl) (hG : gOk G) (ad : Nat → Nat) (x1 : Int32) : Cn l G mX10_boxes 3 lay_KL ad [.ref (ad 0), .int x1] (gX10_boxes x1) := by
  refine cn_of (lv := [some (.ref (ad 0)), some (.int x1)]) (by decide +kernel) rfl (Nat.le_of_ble_eq_true rfl) rfl ?_
  unfold gX10_boxes
  refine s_iload_n (pc := 0) (dc dl_X10_boxes 0 rfl) rfl rfl ?_
  refine s_lookup (pc := 1) (ps := [(0, 27), (1, 48)]) (tgt := 60) (dc dl_X10_boxes 1 rfl) (by decide) (by decide) ?_ ⟨⟨rfl, 28, by decide, ?_⟩, ⟨rfl, 49, by decide, ?_⟩, trivial⟩
  · refine s_iconst (pc := 60) (v := (-1)) (dc dl_X10_boxes 16 rfl) ic_m1 ?_
    exact s_ireturn (pc := 61) rfl (dc dl_X10_boxes 17 rfl)
  · refine s_aload_n (pc := 28) (dc dl_X10_boxes 2 rfl) rfl rfl ?_
    refine s_getR (pc := 29) fl_X10_10 lk_KL_0 kk_KL_0_0 (dc dl_X10_boxes 3 rfl) ?_
    refine s_getR (pc := 32) fl_X10_285 lk_KL_1 kk_KL_1_7 (dc dl_X10_boxes 4 rfl) ?_
    refine s_aload_n (pc := 35) (dc dl_X10_boxes 5 rfl) rfl rfl ?_
    refine s_getR (pc := 36) fl_X10_10 lk_KL_0 kk_KL_0_0 (dc dl_X10_boxes 6 rfl) ?_
    refine s_getR (pc := 39) fl_X10_285 lk_KL_1 kk_KL_1_7 (dc dl_X10_boxes 7 rfl) ?_
    refine s_getI (pc := 42) fl_X10_288 lk_KL_41 kk_KL_41_0 (dc dl_X10_boxes 8 rfl) (fun v1 => ?_)
    refine s_calll (pc := 45) (ρ := rh40) (rest := []) hG (ss_KL_Told_rh40) (calls_S (mi := mX10_boxes) (As := [.ref (ad 41), .int v1]) (rest := []) hG (dc dl_X10_boxes 9 rfl) mo_X6_boxAfter ms_X6_boxAfter ml_X10_291 ⟨Nat.le_of_ble_eq_true rfl, Nat.le_of_ble_eq_true rfl⟩ rfl rfl (Nat.le_of_ble_eq_true rfl)) (cn_X6_boxAfter l G hG (fun i => ad (rh40 i)) v1) rfl rfl (fun r2 => ?_)
    exact s_ireturn (pc := 48) rfl (dc dl_X10_boxes 10 rfl)
  · refine s_aload_n (pc := 49) (dc dl_X10_boxes 11 rfl) rfl rfl ?_
    refine s_getR (pc := 50) fl_X10_10 lk_KL_0 kk_KL_0_0 (dc dl_X10_boxes 12 rfl) ?_
    refine s_getR (pc := 53) fl_X10_285 lk_KL_1 kk_KL_1_7 (dc dl_X10_boxes 13 rfl) ?_
    refine s_calll (pc := 56) (ρ := rh40) (rest := []) hG (ss_KL_Told_rh40) (calls_S (mi := mX10_boxes) (As := [.ref (ad 41)]) (rest := []) hG (dc dl_X10_boxes 14 rfl) mo_X6_nextAsked ms_X6_nextAsked ml_X10_294 ⟨Nat.le_of_ble_eq_true rfl, Nat.le_of_ble_eq_true rfl⟩ rfl rfl (Nat.le_of_ble_eq_true rfl)) (cn_X6_nextAsked l G hG (fun i => ad (rh40 i))) rfl rfl (fun r3 => ?_)
    exact s_ireturn (pc := 59) rfl (dc dl_X10_boxes 15 rfl)
def gX10_piles (x1 x2 : Int32) : MM Int32 :=
  bd (lf rh0 0 (gX10_isWithin x1 0 26)) fun r1 =>
  jn (fun (a3 : Int32) =>
  pr a3) (fun j2 =>
  (if r1 = 0 then
  j2 ((-1))
  else
  bd (lf rh0 0 (gX6_dealtTo x1 x2)) fun r4 =>
  j2 r4))
set_option maxHeartbeats 4000000 in
theorem cn_X10_piles (l : Launch) (G : Gl) (hG : gOk G) (ad : Nat → Nat) (x1 x2 : Int32) : Cn l G mX10_piles 2 lay_KL ad [.ref (ad 0), .int x1, .int x2] (gX10_piles x1 x2) := by
  refine cn_of (lv := [some (.ref (ad 0)), some (.int x1), some (.int x2)]) (by decide +kernel) rfl (Nat.le_of_ble_eq_true rfl) rfl ?_
  unfold gX10_piles
  refine s_iload_n (pc := 0) (dc dl_X10_piles 0 rfl) rfl rfl ?_
  refine s_iconst (pc := 1) (v := 0) (dc dl_X10_piles 1 rfl) ic_0 ?_
  refine s_bipush (pc := 2) (v := 26) (dc dl_X10_piles 2 rfl) bi_26 ?_
  refine s_calll (pc := 4) (ρ := rh0) (rest := []) hG (ss_KL_E_rh0) (calls_S (mi := mX10_piles) (As := [.int x1, .int 0, .int 26]) (rest := []) hG (dc dl_X10_piles 3 rfl) mo_X10_isWithin ms_X10_isWithin ml_X10_74 ⟨Nat.le_of_ble_eq_true rfl, Nat.le_of_ble_eq_true rfl⟩ rfl rfl (Nat.le_of_ble_eq_true rfl)) (cn_X10_isWithin l G hG (fun i => ad (rh0 i)) x1 0 26) rfl rfl (fun r1 => ?_)
  refine s_jn (pj := 19) (fun a3 : Int32 => [none, none, none]) (fun a3 : Int32 => [.int a3]) (fun a3 => ?_) (fun j2 hj2 => ?_)
  · exact s_ireturn (pc := 19) rfl (dc dl_X10_piles 10 rfl)
  · refine s_if_eq (pc := 7) (tgt := 18) (dc dl_X10_piles 4 rfl) rfl ?_ ?_
    · refine s_iconst (pc := 18) (v := (-1)) (dc dl_X10_piles 9 rfl) ic_m1 ?_
      exact s_wk (hj2 ((-1))) rfl
    · refine s_iload_n (pc := 10) (dc dl_X10_piles 5 rfl) rfl rfl ?_
      refine s_iload_n (pc := 11) (dc dl_X10_piles 6 rfl) rfl rfl ?_
      refine s_calll (pc := 12) (ρ := rh0) (rest := []) hG (ss_KL_E_rh0) (calls_S (mi := mX10_piles) (As := [.int x1, .int x2]) (rest := []) hG (dc dl_X10_piles 7 rfl) mo_X6_dealtTo ms_X6_dealtTo ml_X10_297 ⟨Nat.le_of_ble_eq_true rfl, Nat.le_of_ble_eq_true rfl⟩ rfl rfl (Nat.le_of_ble_eq_true rfl)) (cn_X6_dealtTo l G hG (fun i => ad (rh0 i)) x1 x2) rfl rfl (fun r4 => ?_)
      refine s_goto (pc := 15) (tgt := 19) (dc dl_X10_piles 8 rfl) rfl ?_
      exact s_wk (hj2 r4) rfl
def gX10_dealt (x1 : Int32) : MM Int32 :=
  bd (lf rh0 0 (gX10_isWithin x1 0 26)) fun r1 =>
  (if r1 = 0 then
  pr ((-1))
  else
  nz 3 (
  nz 3 (
  nz 3 (
  nz 9 (
  pr (((1000 + (100 * (irm x1 3))) + (10 * (irm (x1 / 3) 3))) + (x1 / 9)))))))
set_option maxHeartbeats 4000000 in
theorem cn_X10_dealt (l : Launch) (G : Gl) (hG : gOk G) (ad : Nat → Nat) (x1 : Int32) : Cn l G mX10_dealt 1 lay_KL ad [.ref (ad 0), .int x1] (gX10_dealt x1) := by
  refine cn_of (lv := [some (.ref (ad 0)), some (.int x1)]) (by decide +kernel) rfl (Nat.le_of_ble_eq_true rfl) rfl ?_
  unfold gX10_dealt
  refine s_iload_n (pc := 0) (dc dl_X10_dealt 0 rfl) rfl rfl ?_
  refine s_iconst (pc := 1) (v := 0) (dc dl_X10_dealt 1 rfl) ic_0 ?_
  refine s_bipush (pc := 2) (v := 26) (dc dl_X10_dealt 2 rfl) bi_26 ?_
  refine s_calll (pc := 4) (ρ := rh0) (rest := []) hG (ss_KL_E_rh0) (calls_S (mi := mX10_dealt) (As := [.int x1, .int 0, .int 26]) (rest := []) hG (dc dl_X10_dealt 3 rfl) mo_X10_isWithin ms_X10_isWithin ml_X10_74 ⟨Nat.le_of_ble_eq_true rfl, Nat.le_of_ble_eq_true rfl⟩ rfl rfl (Nat.le_of_ble_eq_true rfl)) (cn_X10_isWithin l G hG (fun i => ad (rh0 i)) x1 0 26) rfl rfl (fun r1 => ?_)
  refine s_if_ne (pc := 7) (tgt := 12) (dc dl_X10_dealt 4 rfl) rfl ?_ ?_
  · refine s_iconst (pc := 10) (v := (-1)) (dc dl_X10_dealt 5 rfl) ic_m1 ?_
    exact s_ireturn (pc := 11) rfl (dc dl_X10_dealt 6 rfl)
  · refine s_sipush (pc := 12) (v := 1000) (dc dl_X10_dealt 7 rfl) si_1000 ?_
    refine s_bipush (pc := 15) (v := 100) (dc dl_X10_dealt 8 rfl) bi_100 ?_
    refine s_iload_n (pc := 17) (dc dl_X10_dealt 9 rfl) rfl rfl ?_
    refine s_iconst (pc := 18) (v := 3) (dc dl_X10_dealt 10 rfl) ic_3 ?_
    refine s_irem (pc := 19) (dc dl_X10_dealt 11 rfl) ?_
    refine s_imul (pc := 20) (dc dl_X10_dealt 12 rfl) ?_
    refine s_iadd (pc := 21) (dc dl_X10_dealt 13 rfl) ?_
    refine s_bipush (pc := 22) (v := 10) (dc dl_X10_dealt 14 rfl) bi_10 ?_
    refine s_iload_n (pc := 24) (dc dl_X10_dealt 15 rfl) rfl rfl ?_
    refine s_iconst (pc := 25) (v := 3) (dc dl_X10_dealt 16 rfl) ic_3 ?_
    refine s_idiv (pc := 26) (dc dl_X10_dealt 17 rfl) ?_
    refine s_iconst (pc := 27) (v := 3) (dc dl_X10_dealt 18 rfl) ic_3 ?_
    refine s_irem (pc := 28) (dc dl_X10_dealt 19 rfl) ?_
    refine s_imul (pc := 29) (dc dl_X10_dealt 20 rfl) ?_
    refine s_iadd (pc := 30) (dc dl_X10_dealt 21 rfl) ?_
    refine s_iload_n (pc := 31) (dc dl_X10_dealt 22 rfl) rfl rfl ?_
    refine s_bipush (pc := 32) (v := 9) (dc dl_X10_dealt 23 rfl) bi_9 ?_
    refine s_idiv (pc := 34) (dc dl_X10_dealt 24 rfl) ?_
    refine s_iadd (pc := 35) (dc dl_X10_dealt 25 rfl) ?_
    exact s_ireturn (pc := 36) rfl (dc dl_X10_dealt 26 rfl)
def gX10_key (x1 : Int32) : MM Int32 :=
  (if x1 = ((-1)) then
  bd (lf rh41 2 gX8_empty) fun r5 =>
  pr r5
  else
  bd (lf rh0 0 (gX10_isWithin x1 0 99)) fun r1 =>
  jn (fun (a3 : Int32) =>
  pr a3) (fun j2 =>
  (if r1 = 0 then
  j2 ((-1))
  else
  bd (lf rh41 2 (gX8_tell x1)) fun r4 =>
  j2 r4)))
set_option maxHeartbeats 4000000 in
theorem cn_X10_key (l : Launch) (G : Gl) (hG : gOk G) (ad : Nat → Nat) (x1 : Int32) : Cn l G mX10_key 1 lay_KL ad [.ref (ad 0), .int x1] (gX10_key x1) := by
  refine cn_of (lv := [some (.ref (ad 0)), some (.int x1)]) (by decide +kernel) rfl (Nat.le_of_ble_eq_true rfl) rfl ?_
  unfold gX10_key
  refine s_iload_n (pc := 0) (dc dl_X10_key 0 rfl) rfl rfl ?_
  refine s_iconst (pc := 1) (v := (-1)) (dc dl_X10_key 1 rfl) ic_m1 ?_
  refine s_icmp_ne (pc := 2) (tgt := 16) (dc dl_X10_key 2 rfl) rfl ?_ ?_
  · refine s_aload_n (pc := 5) (dc dl_X10_key 3 rfl) rfl rfl ?_
    refine s_getR (pc := 6) fl_X10_10 lk_KL_0 kk_KL_0_0 (dc dl_X10_key 4 rfl) ?_
    refine s_getR (pc := 9) fl_X10_300 lk_KL_1 kk_KL_1_8 (dc dl_X10_key 5 rfl) ?_
    refine s_calll (pc := 12) (ρ := rh41) (rest := []) hG (ss_KL_Told_rh41) (calls_V (mi := mX10_key) (o := 43) (As := []) (rest := []) hG (dc dl_X10_key 6 rfl) mo_X8_empty mv_X8_empty ml_X10_252 ⟨Nat.le_of_ble_eq_true rfl, Nat.le_of_ble_eq_true rfl⟩ rfl rfl (Nat.le_of_ble_eq_true rfl) lk_KL_43 rfl) (cn_X8_empty l G hG (fun i => ad (rh41 i))) rfl rfl (fun r5 => ?_)
    exact s_ireturn (pc := 15) rfl (dc dl_X10_key 7 rfl)
  · refine s_iload_n (pc := 16) (dc dl_X10_key 8 rfl) rfl rfl ?_
    refine s_iconst (pc := 17) (v := 0) (dc dl_X10_key 9 rfl) ic_0 ?_
    refine s_bipush (pc := 18) (v := 99) (dc dl_X10_key 10 rfl) bi_99 ?_
    refine s_calll (pc := 20) (ρ := rh0) (rest := []) hG (ss_KL_E_rh0) (calls_S (mi := mX10_key) (As := [.int x1, .int 0, .int 99]) (rest := []) hG (dc dl_X10_key 11 rfl) mo_X10_isWithin ms_X10_isWithin ml_X10_74 ⟨Nat.le_of_ble_eq_true rfl, Nat.le_of_ble_eq_true rfl⟩ rfl rfl (Nat.le_of_ble_eq_true rfl)) (cn_X10_isWithin l G hG (fun i => ad (rh0 i)) x1 0 99) rfl rfl (fun r1 => ?_)
    refine s_jn (pj := 41) (fun a3 : Int32 => [none, none]) (fun a3 : Int32 => [.int a3]) (fun a3 => ?_) (fun j2 hj2 => ?_)
    · exact s_ireturn (pc := 41) rfl (dc dl_X10_key 20 rfl)
    · refine s_if_eq (pc := 23) (tgt := 40) (dc dl_X10_key 12 rfl) rfl ?_ ?_
      · refine s_iconst (pc := 40) (v := (-1)) (dc dl_X10_key 19 rfl) ic_m1 ?_
        exact s_wk (hj2 ((-1))) rfl
      · refine s_aload_n (pc := 26) (dc dl_X10_key 13 rfl) rfl rfl ?_
        refine s_getR (pc := 27) fl_X10_10 lk_KL_0 kk_KL_0_0 (dc dl_X10_key 14 rfl) ?_
        refine s_getR (pc := 30) fl_X10_300 lk_KL_1 kk_KL_1_8 (dc dl_X10_key 15 rfl) ?_
        refine s_iload_n (pc := 33) (dc dl_X10_key 16 rfl) rfl rfl ?_
        refine s_calll (pc := 34) (ρ := rh41) (rest := []) hG (ss_KL_Told_rh41) (calls_V (mi := mX10_key) (o := 43) (As := [.int x1]) (rest := []) hG (dc dl_X10_key 17 rfl) mo_X8_tell mv_X8_tell ml_X10_258 ⟨Nat.le_of_ble_eq_true rfl, Nat.le_of_ble_eq_true rfl⟩ rfl rfl (Nat.le_of_ble_eq_true rfl) lk_KL_43 rfl) (cn_X8_tell l G hG (fun i => ad (rh41 i)) x1) rfl rfl (fun r4 => ?_)
        refine s_goto (pc := 37) (tgt := 41) (dc dl_X10_key 18 rfl) rfl ?_
        exact s_wk (hj2 r4) rfl
def gX10_table (x1 x2 x3 : Int32) : MM Int32 :=
  bd (lf rh0 0 (gX10_isWithin x1 2 16)) fun r1 =>
  jn (fun (a3 : Unit) =>
  pr ((-1))) (fun j2 =>
  (if r1 = 0 then
  j2 ()
  else
  bd (lf rh0 0 (gX10_isWithin x2 0 99)) fun r4 =>
  (if r4 = 0 then
  j2 ()
  else
  bd (lf rh0 0 (gX10_isWithin x3 0 1)) fun r5 =>
  (if r5 = 0 then
  j2 ()
  else
  bd (lf rh42 6 (gX6_layTable x1)) fun r6 =>
  bd (lf rh39 4 (gX6_looksFor x1 x2)) fun r7 =>
  (if x3 = 1 then
  pr r7
  else
  bd (lf rh39 4 (gX6_lastLookFound x1 x2 r7)) fun r8 =>
  pr r8)))))
set_option maxHeartbeats 4000000 in
theorem cn_X10_table (l : Launch) (G : Gl) (hG : gOk G) (ad : Nat → Nat) (x1 x2 x3 : Int32) : Cn l G mX10_table 3 lay_KL ad [.ref (ad 0), .int x1, .int x2, .int x3] (gX10_table x1 x2 x3) := by
  refine cn_of (lv := [some (.ref (ad 0)), some (.int x1), some (.int x2), some (.int x3), none]) (by decide +kernel) rfl (Nat.le_of_ble_eq_true rfl) rfl ?_
  unfold gX10_table
  refine s_iload_n (pc := 0) (dc dl_X10_table 0 rfl) rfl rfl ?_
  refine s_iconst (pc := 1) (v := 2) (dc dl_X10_table 1 rfl) ic_2 ?_
  refine s_bipush (pc := 2) (v := 16) (dc dl_X10_table 2 rfl) bi_16 ?_
  refine s_calll (pc := 4) (ρ := rh0) (rest := []) hG (ss_KL_E_rh0) (calls_S (mi := mX10_table) (As := [.int x1, .int 2, .int 16]) (rest := []) hG (dc dl_X10_table 3 rfl) mo_X10_isWithin ms_X10_isWithin ml_X10_74 ⟨Nat.le_of_ble_eq_true rfl, Nat.le_of_ble_eq_true rfl⟩ rfl rfl (Nat.le_of_ble_eq_true rfl)) (cn_X10_isWithin l G hG (fun i => ad (rh0 i)) x1 2 16) rfl rfl (fun r1 => ?_)
  refine s_jn (pj := 29) (fun a3 : Unit => [none, none, none, none, none]) (fun a3 : Unit => []) (fun a3 => ?_) (fun j2 hj2 => ?_)
  · refine s_iconst (pc := 29) (v := (-1)) (dc dl_X10_table 15 rfl) ic_m1 ?_
    exact s_ireturn (pc := 30) rfl (dc dl_X10_table 16 rfl)
  · refine s_if_eq (pc := 7) (tgt := 29) (dc dl_X10_table 4 rfl) rfl ?_ ?_
    · exact s_wk (hj2 ()) rfl
    · refine s_iload_n (pc := 10) (dc dl_X10_table 5 rfl) rfl rfl ?_
      refine s_iconst (pc := 11) (v := 0) (dc dl_X10_table 6 rfl) ic_0 ?_
      refine s_bipush (pc := 12) (v := 99) (dc dl_X10_table 7 rfl) bi_99 ?_
      refine s_calll (pc := 14) (ρ := rh0) (rest := []) hG (ss_KL_E_rh0) (calls_S (mi := mX10_table) (As := [.int x2, .int 0, .int 99]) (rest := []) hG (dc dl_X10_table 8 rfl) mo_X10_isWithin ms_X10_isWithin ml_X10_74 ⟨Nat.le_of_ble_eq_true rfl, Nat.le_of_ble_eq_true rfl⟩ rfl rfl (Nat.le_of_ble_eq_true rfl)) (cn_X10_isWithin l G hG (fun i => ad (rh0 i)) x2 0 99) rfl rfl (fun r4 => ?_)
      refine s_if_eq (pc := 17) (tgt := 29) (dc dl_X10_table 9 rfl) rfl ?_ ?_
      · exact s_wk (hj2 ()) rfl
      · refine s_iload_n (pc := 20) (dc dl_X10_table 10 rfl) rfl rfl ?_
        refine s_iconst (pc := 21) (v := 0) (dc dl_X10_table 11 rfl) ic_0 ?_
        refine s_iconst (pc := 22) (v := 1) (dc dl_X10_table 12 rfl) ic_1 ?_
        refine s_calll (pc := 23) (ρ := rh0) (rest := []) hG (ss_KL_E_rh0) (calls_S (mi := mX10_table) (As := [.int x3, .int 0, .int 1]) (rest := []) hG (dc dl_X10_table 13 rfl) mo_X10_isWithin ms_X10_isWithin ml_X10_74 ⟨Nat.le_of_ble_eq_true rfl, Nat.le_of_ble_eq_true rfl⟩ rfl rfl (Nat.le_of_ble_eq_true rfl)) (cn_X10_isWithin l G hG (fun i => ad (rh0 i)) x3 0 1) rfl rfl (fun r5 => ?_)
        refine s_if_ne (pc := 26) (tgt := 31) (dc dl_X10_table 14 rfl) rfl ?_ ?_
        · exact s_wk (hj2 ()) rfl
        · refine s_aload_n (pc := 31) (dc dl_X10_table 17 rfl) rfl rfl ?_
          refine s_getR (pc := 32) fl_X10_64 lk_KL_0 kk_KL_0_9 (dc dl_X10_table 18 rfl) ?_
          refine s_aload_n (pc := 35) (dc dl_X10_table 19 rfl) rfl rfl ?_
          refine s_getR (pc := 36) fl_X10_10 lk_KL_0 kk_KL_0_0 (dc dl_X10_table 20 rfl) ?_
          refine s_getR (pc := 39) fl_X10_300 lk_KL_1 kk_KL_1_8 (dc dl_X10_table 21 rfl) ?_
          refine s_iload_n (pc := 42) (dc dl_X10_table 22 rfl) rfl rfl ?_
          refine s_calllv (pc := 43) (ρ := rh42) (rest := []) hG (ss_KL_PuzT_rh42) (calls_V (mi := mX10_table) (o := 129) (As := [.ref (ad 43), .int x1]) (rest := []) hG (dc dl_X10_table 23 rfl) mo_X6_layTable mv_X6_layTable ml_X10_303 ⟨Nat.le_of_ble_eq_true rfl, Nat.le_of_ble_eq_true rfl⟩ rfl rfl (Nat.le_of_ble_eq_true rfl) lk_KL_129 rfl) (cn_X6_layTable l G hG (fun i => ad (rh42 i)) x1) rfl rfl (fun r6 => ?_)
          refine s_aload_n (pc := 46) (dc dl_X10_table 24 rfl) rfl rfl ?_
          refine s_getR (pc := 47) fl_X10_64 lk_KL_0 kk_KL_0_9 (dc dl_X10_table 25 rfl) ?_
          refine s_iload_n (pc := 50) (dc dl_X10_table 26 rfl) rfl rfl ?_
          refine s_iload_n (pc := 51) (dc dl_X10_table 27 rfl) rfl rfl ?_
          refine s_calll (pc := 52) (ρ := rh39) (rest := []) hG (ss_KL_Puzzles_rh39) (calls_V (mi := mX10_table) (o := 129) (As := [.int x1, .int x2]) (rest := []) hG (dc dl_X10_table 28 rfl) mo_X6_looksFor mv_X6_looksFor ml_X10_307 ⟨Nat.le_of_ble_eq_true rfl, Nat.le_of_ble_eq_true rfl⟩ rfl rfl (Nat.le_of_ble_eq_true rfl) lk_KL_129 rfl) (cn_X6_looksFor l G hG (fun i => ad (rh39 i)) x1 x2) rfl rfl (fun r7 => ?_)
          refine s_istore (pc := 55) (lv' := [some (.ref (ad 0)), some (.int x1), some (.int x2), some (.int x3), some (.int r7)]) (dc dl_X10_table 29 rfl) (Nat.le_of_ble_eq_true rfl) rfl ?_
          refine s_iload_n (pc := 57) (dc dl_X10_table 30 rfl) rfl rfl ?_
          refine s_iconst (pc := 58) (v := 1) (dc dl_X10_table 31 rfl) ic_1 ?_
          refine s_icmp_ne (pc := 59) (tgt := 65) (dc dl_X10_table 32 rfl) rfl ?_ ?_
          · refine s_iload (pc := 62) (dc dl_X10_table 33 rfl) rfl ?_
            exact s_ireturn (pc := 64) rfl (dc dl_X10_table 34 rfl)
          · refine s_aload_n (pc := 65) (dc dl_X10_table 35 rfl) rfl rfl ?_
            refine s_getR (pc := 66) fl_X10_64 lk_KL_0 kk_KL_0_9 (dc dl_X10_table 36 rfl) ?_
            refine s_iload_n (pc := 69) (dc dl_X10_table 37 rfl) rfl rfl ?_
            refine s_iload_n (pc := 70) (dc dl_X10_table 38 rfl) rfl rfl ?_
            refine s_iload (pc := 71) (dc dl_X10_table 39 rfl) rfl ?_
            refine s_calll (pc := 73) (ρ := rh39) (rest := []) hG (ss_KL_Puzzles_rh39) (calls_V (mi := mX10_table) (o := 129) (As := [.int x1, .int x2, .int r7]) (rest := []) hG (dc dl_X10_table 40 rfl) mo_X6_lastLookFound mv_X6_lastLookFound ml_X10_310 ⟨Nat.le_of_ble_eq_true rfl, Nat.le_of_ble_eq_true rfl⟩ rfl rfl (Nat.le_of_ble_eq_true rfl) lk_KL_129 rfl) (cn_X6_lastLookFound l G hG (fun i => ad (rh39 i)) x1 x2 r7) rfl rfl (fun r8 => ?_)
            exact s_ireturn (pc := 76) rfl (dc dl_X10_table 41 rfl)
def gX10_ask (x1 : Int32) : MM Int32 :=
  (if x1 = ((-1)) then
  bd (lf rh43 2 gX8_empty) fun r5 =>
  pr r5
  else
  bd (lf rh0 0 (gX10_isWithin x1 0 9)) fun r1 =>
  jn (fun (a3 : Int32) =>
  pr a3) (fun j2 =>
  (if r1 = 0 then
  j2 ((-1))
  else
  bd (lf rh43 2 (gX8_tell x1)) fun r4 =>
  j2 r4)))
set_option maxHeartbeats 4000000 in
theorem cn_X10_ask (l : Launch) (G : Gl) (hG : gOk G) (ad : Nat → Nat) (x1 : Int32) : Cn l G mX10_ask 1 lay_KL ad [.ref (ad 0), .int x1] (gX10_ask x1) := by
  refine cn_of (lv := [some (.ref (ad 0)), some (.int x1)]) (by decide +kernel) rfl (Nat.le_of_ble_eq_true rfl) rfl ?_
  unfold gX10_ask
  refine s_iload_n (pc := 0) (dc dl_X10_ask 0 rfl) rfl rfl ?_
  refine s_iconst (pc := 1) (v := (-1)) (dc dl_X10_ask 1 rfl) ic_m1 ?_
  refine s_icmp_ne (pc := 2) (tgt := 16) (dc dl_X10_ask 2 rfl) rfl ?_ ?_
  · refine s_aload_n (pc := 5) (dc dl_X10_ask 3 rfl) rfl rfl ?_
    refine s_getR (pc := 6) fl_X10_10 lk_KL_0 kk_KL_0_0 (dc dl_X10_ask 4 rfl) ?_
    refine s_getR (pc := 9) fl_X10_313 lk_KL_1 kk_KL_1_9 (dc dl_X10_ask 5 rfl) ?_
    refine s_calll (pc := 12) (ρ := rh43) (rest := []) hG (ss_KL_Told_rh43) (calls_V (mi := mX10_ask) (o := 45) (As := []) (rest := []) hG (dc dl_X10_ask 6 rfl) mo_X8_empty mv_X8_empty ml_X10_252 ⟨Nat.le_of_ble_eq_true rfl, Nat.le_of_ble_eq_true rfl⟩ rfl rfl (Nat.le_of_ble_eq_true rfl) lk_KL_45 rfl) (cn_X8_empty l G hG (fun i => ad (rh43 i))) rfl rfl (fun r5 => ?_)
    exact s_ireturn (pc := 15) rfl (dc dl_X10_ask 7 rfl)
  · refine s_iload_n (pc := 16) (dc dl_X10_ask 8 rfl) rfl rfl ?_
    refine s_iconst (pc := 17) (v := 0) (dc dl_X10_ask 9 rfl) ic_0 ?_
    refine s_bipush (pc := 18) (v := 9) (dc dl_X10_ask 10 rfl) bi_9 ?_
    refine s_calll (pc := 20) (ρ := rh0) (rest := []) hG (ss_KL_E_rh0) (calls_S (mi := mX10_ask) (As := [.int x1, .int 0, .int 9]) (rest := []) hG (dc dl_X10_ask 11 rfl) mo_X10_isWithin ms_X10_isWithin ml_X10_74 ⟨Nat.le_of_ble_eq_true rfl, Nat.le_of_ble_eq_true rfl⟩ rfl rfl (Nat.le_of_ble_eq_true rfl)) (cn_X10_isWithin l G hG (fun i => ad (rh0 i)) x1 0 9) rfl rfl (fun r1 => ?_)
    refine s_jn (pj := 41) (fun a3 : Int32 => [none, none]) (fun a3 : Int32 => [.int a3]) (fun a3 => ?_) (fun j2 hj2 => ?_)
    · exact s_ireturn (pc := 41) rfl (dc dl_X10_ask 20 rfl)
    · refine s_if_eq (pc := 23) (tgt := 40) (dc dl_X10_ask 12 rfl) rfl ?_ ?_
      · refine s_iconst (pc := 40) (v := (-1)) (dc dl_X10_ask 19 rfl) ic_m1 ?_
        exact s_wk (hj2 ((-1))) rfl
      · refine s_aload_n (pc := 26) (dc dl_X10_ask 13 rfl) rfl rfl ?_
        refine s_getR (pc := 27) fl_X10_10 lk_KL_0 kk_KL_0_0 (dc dl_X10_ask 14 rfl) ?_
        refine s_getR (pc := 30) fl_X10_313 lk_KL_1 kk_KL_1_9 (dc dl_X10_ask 15 rfl) ?_
        refine s_iload_n (pc := 33) (dc dl_X10_ask 16 rfl) rfl rfl ?_
        refine s_calll (pc := 34) (ρ := rh43) (rest := []) hG (ss_KL_Told_rh43) (calls_V (mi := mX10_ask) (o := 45) (As := [.int x1]) (rest := []) hG (dc dl_X10_ask 17 rfl) mo_X8_tell mv_X8_tell ml_X10_258 ⟨Nat.le_of_ble_eq_true rfl, Nat.le_of_ble_eq_true rfl⟩ rfl rfl (Nat.le_of_ble_eq_true rfl) lk_KL_45 rfl) (cn_X8_tell l G hG (fun i => ad (rh43 i)) x1) rfl rfl (fun r4 => ?_)
        refine s_goto (pc := 37) (tgt := 41) (dc dl_X10_ask 18 rfl) rfl ?_
        exact s_wk (hj2 r4) rfl
def gX10_pages (x1 x2 : Int32) : MM Int32 :=
  bd (lf rh0 0 (gX10_isWithin x1 1 5)) fun r1 =>
  jn (fun (a3 : Unit) =>
  pr ((-1))) (fun j2 =>
  (if r1 = 0 then
  j2 ()
  else
  bd (lf rh0 0 (gX10_isWithin x2 0 1)) fun r4 =>
  (if r4 = 0 then
  j2 ()
  else
  jn (fun (a6 : Int32) =>
  bd (lf rh43 2 (gX6_misses x1 a6)) fun r7 =>
  pr r7) (fun j5 =>
  (if x2 = 1 then
  j5 1
  else
  j5 0)))))
set_option maxHeartbeats 4000000 in
theorem cn_X10_pages (l : Launch) (G : Gl) (hG : gOk G) (ad : Nat → Nat) (x1 x2 : Int32) : Cn l G mX10_pages 4 lay_KL ad [.ref (ad 0), .int x1, .int x2] (gX10_pages x1 x2) := by
  refine cn_of (lv := [some (.ref (ad 0)), some (.int x1), some (.int x2)]) (by decide +kernel) rfl (Nat.le_of_ble_eq_true rfl) rfl ?_
  unfold gX10_pages
  refine s_iload_n (pc := 0) (dc dl_X10_pages 0 rfl) rfl rfl ?_
  refine s_iconst (pc := 1) (v := 1) (dc dl_X10_pages 1 rfl) ic_1 ?_
  refine s_iconst (pc := 2) (v := 5) (dc dl_X10_pages 2 rfl) ic_5 ?_
  refine s_calll (pc := 3) (ρ := rh0) (rest := []) hG (ss_KL_E_rh0) (calls_S (mi := mX10_pages) (As := [.int x1, .int 1, .int 5]) (rest := []) hG (dc dl_X10_pages 3 rfl) mo_X10_isWithin ms_X10_isWithin ml_X10_74 ⟨Nat.le_of_ble_eq_true rfl, Nat.le_of_ble_eq_true rfl⟩ rfl rfl (Nat.le_of_ble_eq_true rfl)) (cn_X10_isWithin l G hG (fun i => ad (rh0 i)) x1 1 5) rfl rfl (fun r1 => ?_)
  refine s_jn (pj := 18) (fun a3 : Unit => [none, none, none]) (fun a3 : Unit => []) (fun a3 => ?_) (fun j2 hj2 => ?_)
  · refine s_iconst (pc := 18) (v := (-1)) (dc dl_X10_pages 10 rfl) ic_m1 ?_
    exact s_ireturn (pc := 19) rfl (dc dl_X10_pages 11 rfl)
  · refine s_if_eq (pc := 6) (tgt := 18) (dc dl_X10_pages 4 rfl) rfl ?_ ?_
    · exact s_wk (hj2 ()) rfl
    · refine s_iload_n (pc := 9) (dc dl_X10_pages 5 rfl) rfl rfl ?_
      refine s_iconst (pc := 10) (v := 0) (dc dl_X10_pages 6 rfl) ic_0 ?_
      refine s_iconst (pc := 11) (v := 1) (dc dl_X10_pages 7 rfl) ic_1 ?_
      refine s_calll (pc := 12) (ρ := rh0) (rest := []) hG (ss_KL_E_rh0) (calls_S (mi := mX10_pages) (As := [.int x2, .int 0, .int 1]) (rest := []) hG (dc dl_X10_pages 8 rfl) mo_X10_isWithin ms_X10_isWithin ml_X10_74 ⟨Nat.le_of_ble_eq_true rfl, Nat.le_of_ble_eq_true rfl⟩ rfl rfl (Nat.le_of_ble_eq_true rfl)) (cn_X10_isWithin l G hG (fun i => ad (rh0 i)) x2 0 1) rfl rfl (fun r4 => ?_)
      refine s_if_ne (pc := 15) (tgt := 20) (dc dl_X10_pages 9 rfl) rfl ?_ ?_
      · exact s_wk (hj2 ()) rfl
      · refine s_aload_n (pc := 20) (dc dl_X10_pages 12 rfl) rfl rfl ?_
        refine s_getR (pc := 21) fl_X10_10 lk_KL_0 kk_KL_0_0 (dc dl_X10_pages 13 rfl) ?_
        refine s_getR (pc := 24) fl_X10_313 lk_KL_1 kk_KL_1_9 (dc dl_X10_pages 14 rfl) ?_
        refine s_iload_n (pc := 27) (dc dl_X10_pages 15 rfl) rfl rfl ?_
        refine s_iload_n (pc := 28) (dc dl_X10_pages 16 rfl) rfl rfl ?_
        refine s_iconst (pc := 29) (v := 1) (dc dl_X10_pages 17 rfl) ic_1 ?_
        refine s_jn (pj := 38) (fun a6 : Int32 => [none, none, none]) (fun a6 : Int32 => [.int a6, .int x1, .ref (ad 45)]) (fun a6 => ?_) (fun j5 hj5 => ?_)
        · refine s_calll (pc := 38) (ρ := rh43) (rest := []) hG (ss_KL_Told_rh43) (calls_S (mi := mX10_pages) (As := [.ref (ad 45), .int x1, .int a6]) (rest := []) hG (dc dl_X10_pages 22 rfl) mo_X6_misses ms_X6_misses ml_X10_316 ⟨Nat.le_of_ble_eq_true rfl, Nat.le_of_ble_eq_true rfl⟩ rfl rfl (Nat.le_of_ble_eq_true rfl)) (cn_X6_misses l G hG (fun i => ad (rh43 i)) x1 a6) rfl rfl (fun r7 => ?_)
          exact s_ireturn (pc := 41) rfl (dc dl_X10_pages 23 rfl)
        · refine s_icmp_ne (pc := 30) (tgt := 37) (dc dl_X10_pages 18 rfl) rfl ?_ ?_
          · refine s_iconst (pc := 33) (v := 1) (dc dl_X10_pages 19 rfl) ic_1 ?_
            refine s_goto (pc := 34) (tgt := 38) (dc dl_X10_pages 20 rfl) rfl ?_
            exact s_wk (hj5 1) rfl
          · refine s_iconst (pc := 37) (v := 0) (dc dl_X10_pages 21 rfl) ic_0 ?_
            exact s_wk (hj5 0) rfl
def gX10_truth (x1 x2 : Int32) : MM Int32 :=
  bd (lf rh0 0 (gX10_isWithin x1 0 65535)) fun r1 =>
  jn (fun (a3 : Unit) =>
  pr ((-1))) (fun j2 =>
  (if r1 = 0 then
  j2 ()
  else
  bd (lf rh0 0 (gX10_isWithin x2 0 1)) fun r4 =>
  (if r4 = 0 then
  j2 ()
  else
  jn (fun (a6 : Int32) =>
  pr a6) (fun j5 =>
  (if x2 = 0 then
  bd (lf rh0 0 (gX6_sidesWith x1 65535)) fun r9 =>
  j5 r9
  else
  bd (lf rh0 0 (gX6_casesOfOneSide x1)) fun r7 =>
  bd (lf rh0 0 (gX6_sidesWith x1 r7)) fun r8 =>
  j5 r8)))))
set_option maxHeartbeats 4000000 in
theorem cn_X10_truth (l : Launch) (G : Gl) (hG : gOk G) (ad : Nat → Nat) (x1 x2 : Int32) : Cn l G mX10_truth 3 lay_KL ad [.ref (ad 0), .int x1, .int x2] (gX10_truth x1 x2) := by
  refine cn_of (lv := [some (.ref (ad 0)), some (.int x1), some (.int x2)]) (by decide +kernel) rfl (Nat.le_of_ble_eq_true rfl) rfl ?_
  unfold gX10_truth
  refine s_iload_n (pc := 0) (dc dl_X10_truth 0 rfl) rfl rfl ?_
  refine s_iconst (pc := 1) (v := 0) (dc dl_X10_truth 1 rfl) ic_0 ?_
  refine s_ldcw (pc := 2) (v := 65535) ct_X10_320 (dc dl_X10_truth 2 rfl) ?_
  refine s_calll (pc := 5) (ρ := rh0) (rest := []) hG (ss_KL_E_rh0) (calls_S (mi := mX10_truth) (As := [.int x1, .int 0, .int 65535]) (rest := []) hG (dc dl_X10_truth 3 rfl) mo_X10_isWithin ms_X10_isWithin ml_X10_74 ⟨Nat.le_of_ble_eq_true rfl, Nat.le_of_ble_eq_true rfl⟩ rfl rfl (Nat.le_of_ble_eq_true rfl)) (cn_X10_isWithin l G hG (fun i => ad (rh0 i)) x1 0 65535) rfl rfl (fun r1 => ?_)
  refine s_jn (pj := 20) (fun a3 : Unit => [none, none, none]) (fun a3 : Unit => []) (fun a3 => ?_) (fun j2 hj2 => ?_)
  · refine s_iconst (pc := 20) (v := (-1)) (dc dl_X10_truth 10 rfl) ic_m1 ?_
    exact s_ireturn (pc := 21) rfl (dc dl_X10_truth 11 rfl)
  · refine s_if_eq (pc := 8) (tgt := 20) (dc dl_X10_truth 4 rfl) rfl ?_ ?_
    · exact s_wk (hj2 ()) rfl
    · refine s_iload_n (pc := 11) (dc dl_X10_truth 5 rfl) rfl rfl ?_
      refine s_iconst (pc := 12) (v := 0) (dc dl_X10_truth 6 rfl) ic_0 ?_
      refine s_iconst (pc := 13) (v := 1) (dc dl_X10_truth 7 rfl) ic_1 ?_
      refine s_calll (pc := 14) (ρ := rh0) (rest := []) hG (ss_KL_E_rh0) (calls_S (mi := mX10_truth) (As := [.int x2, .int 0, .int 1]) (rest := []) hG (dc dl_X10_truth 8 rfl) mo_X10_isWithin ms_X10_isWithin ml_X10_74 ⟨Nat.le_of_ble_eq_true rfl, Nat.le_of_ble_eq_true rfl⟩ rfl rfl (Nat.le_of_ble_eq_true rfl)) (cn_X10_isWithin l G hG (fun i => ad (rh0 i)) x2 0 1) rfl rfl (fun r4 => ?_)
      refine s_if_ne (pc := 17) (tgt := 22) (dc dl_X10_truth 9 rfl) rfl ?_ ?_
      · exact s_wk (hj2 ()) rfl
      · refine s_iload_n (pc := 22) (dc dl_X10_truth 12 rfl) rfl rfl ?_
        refine s_jn (pj := 44) (fun a6 : Int32 => [none, none, none]) (fun a6 : Int32 => [.int a6]) (fun a6 => ?_) (fun j5 hj5 => ?_)
        · exact s_ireturn (pc := 44) rfl (dc dl_X10_truth 22 rfl)
        · refine s_if_ne (pc := 23) (tgt := 36) (dc dl_X10_truth 13 rfl) rfl ?_ ?_
          · refine s_iload_n (pc := 26) (dc dl_X10_truth 14 rfl) rfl rfl ?_
            refine s_ldcw (pc := 27) (v := 65535) ct_X10_320 (dc dl_X10_truth 15 rfl) ?_
            refine s_calll (pc := 30) (ρ := rh0) (rest := []) hG (ss_KL_E_rh0) (calls_S (mi := mX10_truth) (As := [.int x1, .int 65535]) (rest := []) hG (dc dl_X10_truth 16 rfl) mo_X6_sidesWith ms_X6_sidesWith ml_X10_321 ⟨Nat.le_of_ble_eq_true rfl, Nat.le_of_ble_eq_true rfl⟩ rfl rfl (Nat.le_of_ble_eq_true rfl)) (cn_X6_sidesWith l G hG (fun i => ad (rh0 i)) x1 65535) rfl rfl (fun r9 => ?_)
            refine s_goto (pc := 33) (tgt := 44) (dc dl_X10_truth 17 rfl) rfl ?_
            exact s_wk (hj5 r9) rfl
          · refine s_iload_n (pc := 36) (dc dl_X10_truth 18 rfl) rfl rfl ?_
            refine s_iload_n (pc := 37) (dc dl_X10_truth 19 rfl) rfl rfl ?_
            refine s_calll (pc := 38) (ρ := rh0) (rest := [.int x1]) hG (ss_KL_E_rh0) (calls_S (mi := mX10_truth) (As := [.int x1]) (rest := [.int x1]) hG (dc dl_X10_truth 20 rfl) mo_X6_casesOfOneSide ms_X6_casesOfOneSide ml_X10_324 ⟨Nat.le_of_ble_eq_true rfl, Nat.le_of_ble_eq_true rfl⟩ rfl rfl (Nat.le_of_ble_eq_true rfl)) (cn_X6_casesOfOneSide l G hG (fun i => ad (rh0 i)) x1) rfl rfl (fun r7 => ?_)
            refine s_calll (pc := 41) (ρ := rh0) (rest := []) hG (ss_KL_E_rh0) (calls_S (mi := mX10_truth) (As := [.int x1, .int r7]) (rest := []) hG (dc dl_X10_truth 21 rfl) mo_X6_sidesWith ms_X6_sidesWith ml_X10_321 ⟨Nat.le_of_ble_eq_true rfl, Nat.le_of_ble_eq_true rfl⟩ rfl rfl (Nat.le_of_ble_eq_true rfl)) (cn_X6_sidesWith l G hG (fun i => ad (rh0 i)) x1 r7) rfl rfl (fun r8 => ?_)
            exact s_wk (hj5 r8) rfl
def gX10_rounds (x1 x2 x3 : Int32) : MM Int32 :=
  bd (lf rh0 0 (gX10_isWithin x1 2 13)) fun r1 =>
  jn (fun (a3 : Unit) =>
  pr ((-1))) (fun j2 =>
  (if r1 = 0 then
  j2 ()
  else
  bd (lf rh0 0 (gX10_isWithin x3 0 (x1 - 1))) fun r4 =>
  (if r4 = 0 then
  j2 ()
  else
  nz 2 (
  lt ((x1 + (irm x1 2)) - 1) fun y5 =>
  bd (lf rh0 0 (gX10_isWithin x2 0 (y5 - 1))) fun r6 =>
  (if r6 = 0 then
  pr ((-1))
  else
  bd (lf rh0 0 (gX6_meetsInRound y5 x2 x3)) fun r7 =>
  jn (fun (a9 : Int32) =>
  pr a9) (fun j8 =>
  (if x1 ≤ r7 then
  j8 ((-1))
  else
  j8 r7)))))))
set_option maxHeartbeats 4000000 in
theorem cn_X10_rounds (l : Launch) (G : Gl) (hG : gOk G) (ad : Nat → Nat) (x1 x2 x3 : Int32) : Cn l G mX10_rounds 2 lay_KL ad [.ref (ad 0), .int x1, .int x2, .int x3] (gX10_rounds x1 x2 x3) := by
  refine cn_of (lv := [some (.ref (ad 0)), some (.int x1), some (.int x2), some (.int x3), none, none]) (by decide +kernel) rfl (Nat.le_of_ble_eq_true rfl) rfl ?_
  unfold gX10_rounds
  refine s_iload_n (pc := 0) (dc dl_X10_rounds 0 rfl) rfl rfl ?_
  refine s_iconst (pc := 1) (v := 2) (dc dl_X10_rounds 1 rfl) ic_2 ?_
  refine s_bipush (pc := 2) (v := 13) (dc dl_X10_rounds 2 rfl) bi_13 ?_
  refine s_calll (pc := 4) (ρ := rh0) (rest := []) hG (ss_KL_E_rh0) (calls_S (mi := mX10_rounds) (As := [.int x1, .int 2, .int 13]) (rest := []) hG (dc dl_X10_rounds 3 rfl) mo_X10_isWithin ms_X10_isWithin ml_X10_74 ⟨Nat.le_of_ble_eq_true rfl, Nat.le_of_ble_eq_true rfl⟩ rfl rfl (Nat.le_of_ble_eq_true rfl)) (cn_X10_isWithin l G hG (fun i => ad (rh0 i)) x1 2 13) rfl rfl (fun r1 => ?_)
  refine s_jn (pj := 21) (fun a3 : Unit => [none, none, none, none, none, none]) (fun a3 : Unit => []) (fun a3 => ?_) (fun j2 hj2 => ?_)
  · refine s_iconst (pc := 21) (v := (-1)) (dc dl_X10_rounds 12 rfl) ic_m1 ?_
    exact s_ireturn (pc := 22) rfl (dc dl_X10_rounds 13 rfl)
  · refine s_if_eq (pc := 7) (tgt := 21) (dc dl_X10_rounds 4 rfl) rfl ?_ ?_
    · exact s_wk (hj2 ()) rfl
    · refine s_iload_n (pc := 10) (dc dl_X10_rounds 5 rfl) rfl rfl ?_
      refine s_iconst (pc := 11) (v := 0) (dc dl_X10_rounds 6 rfl) ic_0 ?_
      refine s_iload_n (pc := 12) (dc dl_X10_rounds 7 rfl) rfl rfl ?_
      refine s_iconst (pc := 13) (v := 1) (dc dl_X10_rounds 8 rfl) ic_1 ?_
      refine s_isub (pc := 14) (dc dl_X10_rounds 9 rfl) ?_
      refine s_calll (pc := 15) (ρ := rh0) (rest := []) hG (ss_KL_E_rh0) (calls_S (mi := mX10_rounds) (As := [.int x3, .int 0, .int (x1 - 1)]) (rest := []) hG (dc dl_X10_rounds 10 rfl) mo_X10_isWithin ms_X10_isWithin ml_X10_74 ⟨Nat.le_of_ble_eq_true rfl, Nat.le_of_ble_eq_true rfl⟩ rfl rfl (Nat.le_of_ble_eq_true rfl)) (cn_X10_isWithin l G hG (fun i => ad (rh0 i)) x3 0 (x1 - 1)) rfl rfl (fun r4 => ?_)
      refine s_if_ne (pc := 18) (tgt := 23) (dc dl_X10_rounds 11 rfl) rfl ?_ ?_
      · exact s_wk (hj2 ()) rfl
      · refine s_iload_n (pc := 23) (dc dl_X10_rounds 14 rfl) rfl rfl ?_
        refine s_iload_n (pc := 24) (dc dl_X10_rounds 15 rfl) rfl rfl ?_
        refine s_iconst (pc := 25) (v := 2) (dc dl_X10_rounds 16 rfl) ic_2 ?_
        refine s_irem (pc := 26) (dc dl_X10_rounds 17 rfl) ?_
        refine s_iadd (pc := 27) (dc dl_X10_rounds 18 rfl) ?_
        refine s_iconst (pc := 28) (v := 1) (dc dl_X10_rounds 19 rfl) ic_1 ?_
        refine s_isub (pc := 29) (dc dl_X10_rounds 20 rfl) ?_
        refine s_istoreL (pc := 30) (lf' := fun y5 => [some (.ref (ad 0)), some (.int x1), some (.int x2), some (.int x3), some (.int y5), none]) (dc dl_X10_rounds 21 rfl) (Nat.le_of_ble_eq_true rfl) (fun _ => rfl) (fun y5 => ?_)
        refine s_iload_n (pc := 32) (dc dl_X10_rounds 22 rfl) rfl rfl ?_
        refine s_iconst (pc := 33) (v := 0) (dc dl_X10_rounds 23 rfl) ic_0 ?_
        refine s_iload (pc := 34) (dc dl_X10_rounds 24 rfl) rfl ?_
        refine s_iconst (pc := 36) (v := 1) (dc dl_X10_rounds 25 rfl) ic_1 ?_
        refine s_isub (pc := 37) (dc dl_X10_rounds 26 rfl) ?_
        refine s_calll (pc := 38) (ρ := rh0) (rest := []) hG (ss_KL_E_rh0) (calls_S (mi := mX10_rounds) (As := [.int x2, .int 0, .int (y5 - 1)]) (rest := []) hG (dc dl_X10_rounds 27 rfl) mo_X10_isWithin ms_X10_isWithin ml_X10_74 ⟨Nat.le_of_ble_eq_true rfl, Nat.le_of_ble_eq_true rfl⟩ rfl rfl (Nat.le_of_ble_eq_true rfl)) (cn_X10_isWithin l G hG (fun i => ad (rh0 i)) x2 0 (y5 - 1)) rfl rfl (fun r6 => ?_)
        refine s_if_ne (pc := 41) (tgt := 46) (dc dl_X10_rounds 28 rfl) rfl ?_ ?_
        · refine s_iconst (pc := 44) (v := (-1)) (dc dl_X10_rounds 29 rfl) ic_m1 ?_
          exact s_ireturn (pc := 45) rfl (dc dl_X10_rounds 30 rfl)
        · refine s_iload (pc := 46) (dc dl_X10_rounds 31 rfl) rfl ?_
          refine s_iload_n (pc := 48) (dc dl_X10_rounds 32 rfl) rfl rfl ?_
          refine s_iload_n (pc := 49) (dc dl_X10_rounds 33 rfl) rfl rfl ?_
          refine s_calll (pc := 50) (ρ := rh0) (rest := []) hG (ss_KL_E_rh0) (calls_S (mi := mX10_rounds) (As := [.int y5, .int x2, .int x3]) (rest := []) hG (dc dl_X10_rounds 34 rfl) mo_X6_meetsInRound ms_X6_meetsInRound ml_X10_327 ⟨Nat.le_of_ble_eq_true rfl, Nat.le_of_ble_eq_true rfl⟩ rfl rfl (Nat.le_of_ble_eq_true rfl)) (cn_X6_meetsInRound l G hG (fun i => ad (rh0 i)) y5 x2 x3) rfl rfl (fun r7 => ?_)
          refine s_istore (pc := 53) (lv' := [some (.ref (ad 0)), some (.int x1), some (.int x2), some (.int x3), some (.int y5), some (.int r7)]) (dc dl_X10_rounds 35 rfl) (Nat.le_of_ble_eq_true rfl) rfl ?_
          refine s_iload (pc := 55) (dc dl_X10_rounds 36 rfl) rfl ?_
          refine s_iload_n (pc := 57) (dc dl_X10_rounds 37 rfl) rfl rfl ?_
          refine s_jn (pj := 67) (fun a9 : Int32 => [none, none, none, none, none, none]) (fun a9 : Int32 => [.int a9]) (fun a9 => ?_) (fun j8 hj8 => ?_)
          · exact s_ireturn (pc := 67) rfl (dc dl_X10_rounds 42 rfl)
          · refine s_icmp_ge (pc := 58) (tgt := 66) (dc dl_X10_rounds 38 rfl) rfl ?_ ?_
            · refine s_iconst (pc := 66) (v := (-1)) (dc dl_X10_rounds 41 rfl) ic_m1 ?_
              exact s_wk (hj8 ((-1))) rfl
            · refine s_iload (pc := 61) (dc dl_X10_rounds 39 rfl) rfl ?_
              refine s_goto (pc := 63) (tgt := 67) (dc dl_X10_rounds 40 rfl) rfl ?_
              exact s_wk (hj8 r7) rfl
def gX10_meets (x1 x2 x3 : Int32) : MM Int32 :=
  bd (lf rh0 0 (gX10_isWithin x1 2 13)) fun r1 =>
  jn (fun (a3 : Unit) =>
  pr ((-1))) (fun j2 =>
  (if r1 = 0 then
  j2 ()
  else
  bd (lf rh0 0 (gX10_isWithin x2 0 (x1 - 1))) fun r4 =>
  (if r4 = 0 then
  j2 ()
  else
  bd (lf rh0 0 (gX10_isWithin x3 0 (x1 - 1))) fun r5 =>
  (if r5 = 0 then
  j2 ()
  else
  (if x2 = x3 then
  j2 ()
  else
  nz 2 (
  lt ((x1 + (irm x1 2)) - 1) fun y6 =>
  loopC 100000 (fun (self7 : Int32 → MM Int32) (s8 : Int32) =>
  (if y6 ≤ s8 then
  pr ((-1))
  else
  bd (lf rh0 0 (gX6_meetsInRound y6 s8 x2)) fun r9 =>
  (if r9 = x3 then
  pr s8
  else
  lt (s8 + 1) fun y10 =>
  self7 y10))) 0))))))
set_option maxHeartbeats 4000000 in
theorem cn_X10_meets (l : Launch) (G : Gl) (hG : gOk G) (ad : Nat → Nat) (x1 x2 x3 : Int32) : Cn l G mX10_meets 2 lay_KL ad [.ref (ad 0), .int x1, .int x2, .int x3] (gX10_meets x1 x2 x3) := by
  refine cn_of (lv := [some (.ref (ad 0)), some (.int x1), some (.int x2), some (.int x3), none, none]) (by decide +kernel) rfl (Nat.le_of_ble_eq_true rfl) rfl ?_
  unfold gX10_meets
  refine s_iload_n (pc := 0) (dc dl_X10_meets 0 rfl) rfl rfl ?_
  refine s_iconst (pc := 1) (v := 2) (dc dl_X10_meets 1 rfl) ic_2 ?_
  refine s_bipush (pc := 2) (v := 13) (dc dl_X10_meets 2 rfl) bi_13 ?_
  refine s_calll (pc := 4) (ρ := rh0) (rest := []) hG (ss_KL_E_rh0) (calls_S (mi := mX10_meets) (As := [.int x1, .int 2, .int 13]) (rest := []) hG (dc dl_X10_meets 3 rfl) mo_X10_isWithin ms_X10_isWithin ml_X10_74 ⟨Nat.le_of_ble_eq_true rfl, Nat.le_of_ble_eq_true rfl⟩ rfl rfl (Nat.le_of_ble_eq_true rfl)) (cn_X10_isWithin l G hG (fun i => ad (rh0 i)) x1 2 13) rfl rfl (fun r1 => ?_)
  refine s_jn (pj := 37) (fun a3 : Unit => [none, none, none, none, none, none]) (fun a3 : Unit => []) (fun a3 => ?_) (fun j2 hj2 => ?_)
  · refine s_iconst (pc := 37) (v := (-1)) (dc dl_X10_meets 22 rfl) ic_m1 ?_
    exact s_ireturn (pc := 38) rfl (dc dl_X10_meets 23 rfl)
  · refine s_if_eq (pc := 7) (tgt := 37) (dc dl_X10_meets 4 rfl) rfl ?_ ?_
    · exact s_wk (hj2 ()) rfl
    · refine s_iload_n (pc := 10) (dc dl_X10_meets 5 rfl) rfl rfl ?_
      refine s_iconst (pc := 11) (v := 0) (dc dl_X10_meets 6 rfl) ic_0 ?_
      refine s_iload_n (pc := 12) (dc dl_X10_meets 7 rfl) rfl rfl ?_
      refine s_iconst (pc := 13) (v := 1) (dc dl_X10_meets 8 rfl) ic_1 ?_
      refine s_isub (pc := 14) (dc dl_X10_meets 9 rfl) ?_
      refine s_calll (pc := 15) (ρ := rh0) (rest := []) hG (ss_KL_E_rh0) (calls_S (mi := mX10_meets) (As := [.int x2, .int 0, .int (x1 - 1)]) (rest := []) hG (dc dl_X10_meets 10 rfl) mo_X10_isWithin ms_X10_isWithin ml_X10_74 ⟨Nat.le_of_ble_eq_true rfl, Nat.le_of_ble_eq_true rfl⟩ rfl rfl (Nat.le_of_ble_eq_true rfl)) (cn_X10_isWithin l G hG (fun i => ad (rh0 i)) x2 0 (x1 - 1)) rfl rfl (fun r4 => ?_)
      refine s_if_eq (pc := 18) (tgt := 37) (dc dl_X10_meets 11 rfl) rfl ?_ ?_
      · exact s_wk (hj2 ()) rfl
      · refine s_iload_n (pc := 21) (dc dl_X10_meets 12 rfl) rfl rfl ?_
        refine s_iconst (pc := 22) (v := 0) (dc dl_X10_meets 13 rfl) ic_0 ?_
        refine s_iload_n (pc := 23) (dc dl_X10_meets 14 rfl) rfl rfl ?_
        refine s_iconst (pc := 24) (v := 1) (dc dl_X10_meets 15 rfl) ic_1 ?_
        refine s_isub (pc := 25) (dc dl_X10_meets 16 rfl) ?_
        refine s_calll (pc := 26) (ρ := rh0) (rest := []) hG (ss_KL_E_rh0) (calls_S (mi := mX10_meets) (As := [.int x3, .int 0, .int (x1 - 1)]) (rest := []) hG (dc dl_X10_meets 17 rfl) mo_X10_isWithin ms_X10_isWithin ml_X10_74 ⟨Nat.le_of_ble_eq_true rfl, Nat.le_of_ble_eq_true rfl⟩ rfl rfl (Nat.le_of_ble_eq_true rfl)) (cn_X10_isWithin l G hG (fun i => ad (rh0 i)) x3 0 (x1 - 1)) rfl rfl (fun r5 => ?_)
        refine s_if_eq (pc := 29) (tgt := 37) (dc dl_X10_meets 18 rfl) rfl ?_ ?_
        · exact s_wk (hj2 ()) rfl
        · refine s_iload_n (pc := 32) (dc dl_X10_meets 19 rfl) rfl rfl ?_
          refine s_iload_n (pc := 33) (dc dl_X10_meets 20 rfl) rfl rfl ?_
          refine s_icmp_ne (pc := 34) (tgt := 39) (dc dl_X10_meets 21 rfl) rfl ?_ ?_
          · exact s_wk (hj2 ()) rfl
          · refine s_iload_n (pc := 39) (dc dl_X10_meets 24 rfl) rfl rfl ?_
            refine s_iload_n (pc := 40) (dc dl_X10_meets 25 rfl) rfl rfl ?_
            refine s_iconst (pc := 41) (v := 2) (dc dl_X10_meets 26 rfl) ic_2 ?_
            refine s_irem (pc := 42) (dc dl_X10_meets 27 rfl) ?_
            refine s_iadd (pc := 43) (dc dl_X10_meets 28 rfl) ?_
            refine s_iconst (pc := 44) (v := 1) (dc dl_X10_meets 29 rfl) ic_1 ?_
            refine s_isub (pc := 45) (dc dl_X10_meets 30 rfl) ?_
            refine s_istoreL (pc := 46) (lf' := fun y6 => [some (.ref (ad 0)), some (.int x1), some (.int x2), some (.int x3), some (.int y6), none]) (dc dl_X10_meets 31 rfl) (Nat.le_of_ble_eq_true rfl) (fun _ => rfl) (fun y6 => ?_)
            refine s_iconst (pc := 48) (v := 0) (dc dl_X10_meets 32 rfl) ic_0 ?_
            refine s_istore (pc := 49) (lv' := [some (.ref (ad 0)), some (.int x1), some (.int x2), some (.int x3), some (.int y6), some (.int 0)]) (dc dl_X10_meets 33 rfl) (Nat.le_of_ble_eq_true rfl) rfl ?_
            refine s_weak (lv' := [none, none, some (.int x2), some (.int x3), some (.int y6), some (.int 0)]) rfl ?_
            refine s_loop (pc := 51) (fun s8 : Int32 => [none, none, some (.int x2), some (.int x3), some (.int y6), some (.int s8)]) [] (fun self7 hself7 s8 => ?_) _ 0
            refine s_iload (pc := 51) (dc dl_X10_meets 34 rfl) rfl ?_
            refine s_iload (pc := 53) (dc dl_X10_meets 35 rfl) rfl ?_
            refine s_icmp_ge (pc := 55) (tgt := 79) (dc dl_X10_meets 36 rfl) rfl ?_ ?_
            · refine s_iconst (pc := 79) (v := (-1)) (dc dl_X10_meets 47 rfl) ic_m1 ?_
              exact s_ireturn (pc := 80) rfl (dc dl_X10_meets 48 rfl)
            · refine s_iload (pc := 58) (dc dl_X10_meets 37 rfl) rfl ?_
              refine s_iload (pc := 60) (dc dl_X10_meets 38 rfl) rfl ?_
              refine s_iload_n (pc := 62) (dc dl_X10_meets 39 rfl) rfl rfl ?_
              refine s_calll (pc := 63) (ρ := rh0) (rest := []) hG (ss_KL_E_rh0) (calls_S (mi := mX10_meets) (As := [.int y6, .int s8, .int x2]) (rest := []) hG (dc dl_X10_meets 40 rfl) mo_X6_meetsInRound ms_X6_meetsInRound ml_X10_327 ⟨Nat.le_of_ble_eq_true rfl, Nat.le_of_ble_eq_true rfl⟩ rfl rfl (Nat.le_of_ble_eq_true rfl)) (cn_X6_meetsInRound l G hG (fun i => ad (rh0 i)) y6 s8 x2) rfl rfl (fun r9 => ?_)
              refine s_iload_n (pc := 66) (dc dl_X10_meets 41 rfl) rfl rfl ?_
              refine s_icmp_ne (pc := 67) (tgt := 73) (dc dl_X10_meets 42 rfl) rfl ?_ ?_
              · refine s_iload (pc := 70) (dc dl_X10_meets 43 rfl) rfl ?_
                exact s_ireturn (pc := 72) rfl (dc dl_X10_meets 44 rfl)
              · refine s_iincL (pc := 73) (lf' := fun y10 => [none, none, some (.int x2), some (.int x3), some (.int y6), some (.int y10)]) (dc dl_X10_meets 45 rfl) rfl rfl (Nat.le_of_ble_eq_true rfl) (fun _ => rfl) (fun y10 => ?_)
                refine s_goto (pc := 76) (tgt := 51) (dc dl_X10_meets 46 rfl) rfl ?_
                exact s_wk (hself7 y10) rfl
def gX10_rows (x1 x2 : Int32) : MM Int32 :=
  bd (lf rh0 0 (gX10_isWithin x1 0 10)) fun r1 =>
  jn (fun (a3 : Unit) =>
  pr ((-1))) (fun j2 =>
  (if r1 = 0 then
  j2 ()
  else
  bd (lf rh0 0 (gX10_isWithin x2 0 10)) fun r4 =>
  (if r4 = 0 then
  j2 ()
  else
  bd (lf rh0 0 (gX6_waysInRows x1 x2)) fun r5 =>
  pr r5)))
set_option maxHeartbeats 4000000 in
theorem cn_X10_rows (l : Launch) (G : Gl) (hG : gOk G) (ad : Nat → Nat) (x1 x2 : Int32) : Cn l G mX10_rows 1 lay_KL ad [.ref (ad 0), .int x1, .int x2] (gX10_rows x1 x2) := by
  refine cn_of (lv := [some (.ref (ad 0)), some (.int x1), some (.int x2)]) (by decide +kernel) rfl (Nat.le_of_ble_eq_true rfl) rfl ?_
  unfold gX10_rows
  refine s_iload_n (pc := 0) (dc dl_X10_rows 0 rfl) rfl rfl ?_
  refine s_iconst (pc := 1) (v := 0) (dc dl_X10_rows 1 rfl) ic_0 ?_
  refine s_bipush (pc := 2) (v := 10) (dc dl_X10_rows 2 rfl) bi_10 ?_
  refine s_calll (pc := 4) (ρ := rh0) (rest := []) hG (ss_KL_E_rh0) (calls_S (mi := mX10_rows) (As := [.int x1, .int 0, .int 10]) (rest := []) hG (dc dl_X10_rows 3 rfl) mo_X10_isWithin ms_X10_isWithin ml_X10_74 ⟨Nat.le_of_ble_eq_true rfl, Nat.le_of_ble_eq_true rfl⟩ rfl rfl (Nat.le_of_ble_eq_true rfl)) (cn_X10_isWithin l G hG (fun i => ad (rh0 i)) x1 0 10) rfl rfl (fun r1 => ?_)
  refine s_jn (pj := 20) (fun a3 : Unit => [none, none, none]) (fun a3 : Unit => []) (fun a3 => ?_) (fun j2 hj2 => ?_)
  · refine s_iconst (pc := 20) (v := (-1)) (dc dl_X10_rows 10 rfl) ic_m1 ?_
    exact s_ireturn (pc := 21) rfl (dc dl_X10_rows 11 rfl)
  · refine s_if_eq (pc := 7) (tgt := 20) (dc dl_X10_rows 4 rfl) rfl ?_ ?_
    · exact s_wk (hj2 ()) rfl
    · refine s_iload_n (pc := 10) (dc dl_X10_rows 5 rfl) rfl rfl ?_
      refine s_iconst (pc := 11) (v := 0) (dc dl_X10_rows 6 rfl) ic_0 ?_
      refine s_bipush (pc := 12) (v := 10) (dc dl_X10_rows 7 rfl) bi_10 ?_
      refine s_calll (pc := 14) (ρ := rh0) (rest := []) hG (ss_KL_E_rh0) (calls_S (mi := mX10_rows) (As := [.int x2, .int 0, .int 10]) (rest := []) hG (dc dl_X10_rows 8 rfl) mo_X10_isWithin ms_X10_isWithin ml_X10_74 ⟨Nat.le_of_ble_eq_true rfl, Nat.le_of_ble_eq_true rfl⟩ rfl rfl (Nat.le_of_ble_eq_true rfl)) (cn_X10_isWithin l G hG (fun i => ad (rh0 i)) x2 0 10) rfl rfl (fun r4 => ?_)
      refine s_if_ne (pc := 17) (tgt := 22) (dc dl_X10_rows 9 rfl) rfl ?_ ?_
      · exact s_wk (hj2 ()) rfl
      · refine s_iload_n (pc := 22) (dc dl_X10_rows 12 rfl) rfl rfl ?_
        refine s_iload_n (pc := 23) (dc dl_X10_rows 13 rfl) rfl rfl ?_
        refine s_calll (pc := 24) (ρ := rh0) (rest := []) hG (ss_KL_E_rh0) (calls_S (mi := mX10_rows) (As := [.int x1, .int x2]) (rest := []) hG (dc dl_X10_rows 14 rfl) mo_X6_waysInRows ms_X6_waysInRows ml_X10_330 ⟨Nat.le_of_ble_eq_true rfl, Nat.le_of_ble_eq_true rfl⟩ rfl rfl (Nat.le_of_ble_eq_true rfl)) (cn_X6_waysInRows l G hG (fun i => ad (rh0 i)) x1 x2) rfl rfl (fun r5 => ?_)
        exact s_ireturn (pc := 27) rfl (dc dl_X10_rows 15 rfl)
def gX10_digit (x1 : Int32) : MM Int32 :=
  (if x1 = ((-1)) then
  bd (lf rh44 2 gX8_empty) fun r5 =>
  pr r5
  else
  bd (lf rh0 0 (gX10_isWithin x1 0 9)) fun r1 =>
  jn (fun (a3 : Int32) =>
  pr a3) (fun j2 =>
  (if r1 = 0 then
  j2 ((-1))
  else
  bd (lf rh44 2 (gX8_tell x1)) fun r4 =>
  j2 r4)))
set_option maxHeartbeats 4000000 in
theorem cn_X10_digit (l : Launch) (G : Gl) (hG : gOk G) (ad : Nat → Nat) (x1 : Int32) : Cn l G mX10_digit 1 lay_KL ad [.ref (ad 0), .int x1] (gX10_digit x1) := by
  refine cn_of (lv := [some (.ref (ad 0)), some (.int x1)]) (by decide +kernel) rfl (Nat.le_of_ble_eq_true rfl) rfl ?_
  unfold gX10_digit
  refine s_iload_n (pc := 0) (dc dl_X10_digit 0 rfl) rfl rfl ?_
  refine s_iconst (pc := 1) (v := (-1)) (dc dl_X10_digit 1 rfl) ic_m1 ?_
  refine s_icmp_ne (pc := 2) (tgt := 16) (dc dl_X10_digit 2 rfl) rfl ?_ ?_
  · refine s_aload_n (pc := 5) (dc dl_X10_digit 3 rfl) rfl rfl ?_
    refine s_getR (pc := 6) fl_X10_10 lk_KL_0 kk_KL_0_0 (dc dl_X10_digit 4 rfl) ?_
    refine s_getR (pc := 9) fl_X10_333 lk_KL_1 kk_KL_1_10 (dc dl_X10_digit 5 rfl) ?_
    refine s_calll (pc := 12) (ρ := rh44) (rest := []) hG (ss_KL_Told_rh44) (calls_V (mi := mX10_digit) (o := 47) (As := []) (rest := []) hG (dc dl_X10_digit 6 rfl) mo_X8_empty mv_X8_empty ml_X10_252 ⟨Nat.le_of_ble_eq_true rfl, Nat.le_of_ble_eq_true rfl⟩ rfl rfl (Nat.le_of_ble_eq_true rfl) lk_KL_47 rfl) (cn_X8_empty l G hG (fun i => ad (rh44 i))) rfl rfl (fun r5 => ?_)
    exact s_ireturn (pc := 15) rfl (dc dl_X10_digit 7 rfl)
  · refine s_iload_n (pc := 16) (dc dl_X10_digit 8 rfl) rfl rfl ?_
    refine s_iconst (pc := 17) (v := 0) (dc dl_X10_digit 9 rfl) ic_0 ?_
    refine s_bipush (pc := 18) (v := 9) (dc dl_X10_digit 10 rfl) bi_9 ?_
    refine s_calll (pc := 20) (ρ := rh0) (rest := []) hG (ss_KL_E_rh0) (calls_S (mi := mX10_digit) (As := [.int x1, .int 0, .int 9]) (rest := []) hG (dc dl_X10_digit 11 rfl) mo_X10_isWithin ms_X10_isWithin ml_X10_74 ⟨Nat.le_of_ble_eq_true rfl, Nat.le_of_ble_eq_true rfl⟩ rfl rfl (Nat.le_of_ble_eq_true rfl)) (cn_X10_isWithin l G hG (fun i => ad (rh0 i)) x1 0 9) rfl rfl (fun r1 => ?_)
    refine s_jn (pj := 41) (fun a3 : Int32 => [none, none]) (fun a3 : Int32 => [.int a3]) (fun a3 => ?_) (fun j2 hj2 => ?_)
    · exact s_ireturn (pc := 41) rfl (dc dl_X10_digit 20 rfl)
    · refine s_if_eq (pc := 23) (tgt := 40) (dc dl_X10_digit 12 rfl) rfl ?_ ?_
      · refine s_iconst (pc := 40) (v := (-1)) (dc dl_X10_digit 19 rfl) ic_m1 ?_
        exact s_wk (hj2 ((-1))) rfl
      · refine s_aload_n (pc := 26) (dc dl_X10_digit 13 rfl) rfl rfl ?_
        refine s_getR (pc := 27) fl_X10_10 lk_KL_0 kk_KL_0_0 (dc dl_X10_digit 14 rfl) ?_
        refine s_getR (pc := 30) fl_X10_333 lk_KL_1 kk_KL_1_10 (dc dl_X10_digit 15 rfl) ?_
        refine s_iload_n (pc := 33) (dc dl_X10_digit 16 rfl) rfl rfl ?_
        refine s_calll (pc := 34) (ρ := rh44) (rest := []) hG (ss_KL_Told_rh44) (calls_V (mi := mX10_digit) (o := 47) (As := [.int x1]) (rest := []) hG (dc dl_X10_digit 17 rfl) mo_X8_tell mv_X8_tell ml_X10_258 ⟨Nat.le_of_ble_eq_true rfl, Nat.le_of_ble_eq_true rfl⟩ rfl rfl (Nat.le_of_ble_eq_true rfl) lk_KL_47 rfl) (cn_X8_tell l G hG (fun i => ad (rh44 i)) x1) rfl rfl (fun r4 => ?_)
        refine s_goto (pc := 37) (tgt := 41) (dc dl_X10_digit 18 rfl) rfl ?_
        exact s_wk (hj2 r4) rfl
def gX10_spelt (x1 x2 : Int32) : MM Int32 :=
  bd (lf rh44 2 (gX6_spellings 0)) fun r1 =>
  (if x1 = ((-1)) then
  pr r1
  else
  bd (ld 47 0) fun v2 =>
  bd (lf rh0 0 (gX10_isWithin x1 0 (v2 - 1))) fun r3 =>
  jn (fun (a5 : Unit) =>
  pr ((-1))) (fun j4 =>
  (if r3 = 0 then
  j4 ()
  else
  bd (lf rh0 0 (gX10_isWithin x2 0 (r1 - 1))) fun r6 =>
  (if r6 = 0 then
  j4 ()
  else
  bd (lf rh44 2 (gX6_letterAt x1 x2)) fun r7 =>
  pr r7))))
set_option maxHeartbeats 4000000 in
theorem cn_X10_spelt (l : Launch) (G : Gl) (hG : gOk G) (ad : Nat → Nat) (x1 x2 : Int32) : Cn l G mX10_spelt 3 lay_KL ad [.ref (ad 0), .int x1, .int x2] (gX10_spelt x1 x2) := by
  refine cn_of (lv := [some (.ref (ad 0)), some (.int x1), some (.int x2), none]) (by decide +kernel) rfl (Nat.le_of_ble_eq_true rfl) rfl ?_
  unfold gX10_spelt
  refine s_aload_n (pc := 0) (dc dl_X10_spelt 0 rfl) rfl rfl ?_
  refine s_getR (pc := 1) fl_X10_10 lk_KL_0 kk_KL_0_0 (dc dl_X10_spelt 1 rfl) ?_
  refine s_getR (pc := 4) fl_X10_333 lk_KL_1 kk_KL_1_10 (dc dl_X10_spelt 2 rfl) ?_
  refine s_iconst (pc := 7) (v := 0) (dc dl_X10_spelt 3 rfl) ic_0 ?_
  refine s_calll (pc := 8) (ρ := rh44) (rest := []) hG (ss_KL_Told_rh44) (calls_S (mi := mX10_spelt) (As := [.ref (ad 47), .int 0]) (rest := []) hG (dc dl_X10_spelt 4 rfl) mo_X6_spellings ms_X6_spellings ml_X10_336 ⟨Nat.le_of_ble_eq_true rfl, Nat.le_of_ble_eq_true rfl⟩ rfl rfl (Nat.le_of_ble_eq_true rfl)) (cn_X6_spellings l G hG (fun i => ad (rh44 i)) 0) rfl rfl (fun r1 => ?_)
  refine s_istore_n (pc := 11) (lv' := [some (.ref (ad 0)), some (.int x1), some (.int x2), some (.int r1)]) (dc dl_X10_spelt 5 rfl) rfl (Nat.le_of_ble_eq_true rfl) rfl ?_
  refine s_iload_n (pc := 12) (dc dl_X10_spelt 6 rfl) rfl rfl ?_
  refine s_iconst (pc := 13) (v := (-1)) (dc dl_X10_spelt 7 rfl) ic_m1 ?_
  refine s_icmp_ne (pc := 14) (tgt := 19) (dc dl_X10_spelt 8 rfl) rfl ?_ ?_
  · refine s_iload_n (pc := 17) (dc dl_X10_spelt 9 rfl) rfl rfl ?_
    exact s_ireturn (pc := 18) rfl (dc dl_X10_spelt 10 rfl)
  · refine s_iload_n (pc := 19) (dc dl_X10_spelt 11 rfl) rfl rfl ?_
    refine s_iconst (pc := 20) (v := 0) (dc dl_X10_spelt 12 rfl) ic_0 ?_
    refine s_aload_n (pc := 21) (dc dl_X10_spelt 13 rfl) rfl rfl ?_
    refine s_getR (pc := 22) fl_X10_10 lk_KL_0 kk_KL_0_0 (dc dl_X10_spelt 14 rfl) ?_
    refine s_getR (pc := 25) fl_X10_333 lk_KL_1 kk_KL_1_10 (dc dl_X10_spelt 15 rfl) ?_
    refine s_getI (pc := 28) fl_X10_288 lk_KL_47 kk_KL_47_0 (dc dl_X10_spelt 16 rfl) (fun v2 => ?_)
    refine s_iconst (pc := 31) (v := 1) (dc dl_X10_spelt 17 rfl) ic_1 ?_
    refine s_isub (pc := 32) (dc dl_X10_spelt 18 rfl) ?_
    refine s_calll (pc := 33) (ρ := rh0) (rest := []) hG (ss_KL_E_rh0) (calls_S (mi := mX10_spelt) (As := [.int x1, .int 0, .int (v2 - 1)]) (rest := []) hG (dc dl_X10_spelt 19 rfl) mo_X10_isWithin ms_X10_isWithin ml_X10_74 ⟨Nat.le_of_ble_eq_true rfl, Nat.le_of_ble_eq_true rfl⟩ rfl rfl (Nat.le_of_ble_eq_true rfl)) (cn_X10_isWithin l G hG (fun i => ad (rh0 i)) x1 0 (v2 - 1)) rfl rfl (fun r3 => ?_)
    refine s_jn (pj := 50) (fun a5 : Unit => [none, none, none, none]) (fun a5 : Unit => []) (fun a5 => ?_) (fun j4 hj4 => ?_)
    · refine s_iconst (pc := 50) (v := (-1)) (dc dl_X10_spelt 28 rfl) ic_m1 ?_
      exact s_ireturn (pc := 51) rfl (dc dl_X10_spelt 29 rfl)
    · refine s_if_eq (pc := 36) (tgt := 50) (dc dl_X10_spelt 20 rfl) rfl ?_ ?_
      · exact s_wk (hj4 ()) rfl
      · refine s_iload_n (pc := 39) (dc dl_X10_spelt 21 rfl) rfl rfl ?_
        refine s_iconst (pc := 40) (v := 0) (dc dl_X10_spelt 22 rfl) ic_0 ?_
        refine s_iload_n (pc := 41) (dc dl_X10_spelt 23 rfl) rfl rfl ?_
        refine s_iconst (pc := 42) (v := 1) (dc dl_X10_spelt 24 rfl) ic_1 ?_
        refine s_isub (pc := 43) (dc dl_X10_spelt 25 rfl) ?_
        refine s_calll (pc := 44) (ρ := rh0) (rest := []) hG (ss_KL_E_rh0) (calls_S (mi := mX10_spelt) (As := [.int x2, .int 0, .int (r1 - 1)]) (rest := []) hG (dc dl_X10_spelt 26 rfl) mo_X10_isWithin ms_X10_isWithin ml_X10_74 ⟨Nat.le_of_ble_eq_true rfl, Nat.le_of_ble_eq_true rfl⟩ rfl rfl (Nat.le_of_ble_eq_true rfl)) (cn_X10_isWithin l G hG (fun i => ad (rh0 i)) x2 0 (r1 - 1)) rfl rfl (fun r6 => ?_)
        refine s_if_ne (pc := 47) (tgt := 52) (dc dl_X10_spelt 27 rfl) rfl ?_ ?_
        · exact s_wk (hj4 ()) rfl
        · refine s_aload_n (pc := 52) (dc dl_X10_spelt 30 rfl) rfl rfl ?_
          refine s_getR (pc := 53) fl_X10_10 lk_KL_0 kk_KL_0_0 (dc dl_X10_spelt 31 rfl) ?_
          refine s_getR (pc := 56) fl_X10_333 lk_KL_1 kk_KL_1_10 (dc dl_X10_spelt 32 rfl) ?_
          refine s_iload_n (pc := 59) (dc dl_X10_spelt 33 rfl) rfl rfl ?_
          refine s_iload_n (pc := 60) (dc dl_X10_spelt 34 rfl) rfl rfl ?_
          refine s_calll (pc := 61) (ρ := rh44) (rest := []) hG (ss_KL_Told_rh44) (calls_S (mi := mX10_spelt) (As := [.ref (ad 47), .int x1, .int x2]) (rest := []) hG (dc dl_X10_spelt 35 rfl) mo_X6_letterAt ms_X6_letterAt ml_X10_339 ⟨Nat.le_of_ble_eq_true rfl, Nat.le_of_ble_eq_true rfl⟩ rfl rfl (Nat.le_of_ble_eq_true rfl)) (cn_X6_letterAt l G hG (fun i => ad (rh44 i)) x1 x2) rfl rfl (fun r7 => ?_)
          exact s_ireturn (pc := 64) rfl (dc dl_X10_spelt 36 rfl)
def gX10_game (x1 x2 : Int32) : MM Int32 :=
  bd (lf rh0 0 (gX10_isWithin x1 3 16)) fun r1 =>
  jn (fun (a3 : Unit) =>
  pr ((-1))) (fun j2 =>
  (if r1 = 0 then
  j2 ()
  else
  bd (lf rh0 0 (gX10_isWithin x2 0 ((1 <<< (x1 &&& 31)) - 1))) fun r4 =>
  (if r4 = 0 then
  j2 ()
  else
  bd (lf rh0 0 (gX6_winningPlace x1 x2)) fun r5 =>
  pr r5)))
set_option maxHeartbeats 4000000 in
theorem cn_X10_game (l : Launch) (G : Gl) (hG : gOk G) (ad : Nat → Nat) (x1 x2 : Int32) : Cn l G mX10_game 3 lay_KL ad [.ref (ad 0), .int x1, .int x2] (gX10_game x1 x2) := by
  refine cn_of (lv := [some (.ref (ad 0)), some (.int x1), some (.int x2)]) (by decide +kernel) rfl (Nat.le_of_ble_eq_true rfl) rfl ?_
  unfold gX10_game
  refine s_iload_n (pc := 0) (dc dl_X10_game 0 rfl) rfl rfl ?_
  refine s_iconst (pc := 1) (v := 3) (dc dl_X10_game 1 rfl) ic_3 ?_
  refine s_bipush (pc := 2) (v := 16) (dc dl_X10_game 2 rfl) bi_16 ?_
  refine s_calll (pc := 4) (ρ := rh0) (rest := []) hG (ss_KL_E_rh0) (calls_S (mi := mX10_game) (As := [.int x1, .int 3, .int 16]) (rest := []) hG (dc dl_X10_game 3 rfl) mo_X10_isWithin ms_X10_isWithin ml_X10_74 ⟨Nat.le_of_ble_eq_true rfl, Nat.le_of_ble_eq_true rfl⟩ rfl rfl (Nat.le_of_ble_eq_true rfl)) (cn_X10_isWithin l G hG (fun i => ad (rh0 i)) x1 3 16) rfl rfl (fun r1 => ?_)
  refine s_jn (pj := 23) (fun a3 : Unit => [none, none, none]) (fun a3 : Unit => []) (fun a3 => ?_) (fun j2 hj2 => ?_)
  · refine s_iconst (pc := 23) (v := (-1)) (dc dl_X10_game 14 rfl) ic_m1 ?_
    exact s_ireturn (pc := 24) rfl (dc dl_X10_game 15 rfl)
  · refine s_if_eq (pc := 7) (tgt := 23) (dc dl_X10_game 4 rfl) rfl ?_ ?_
    · exact s_wk (hj2 ()) rfl
    · refine s_iload_n (pc := 10) (dc dl_X10_game 5 rfl) rfl rfl ?_
      refine s_iconst (pc := 11) (v := 0) (dc dl_X10_game 6 rfl) ic_0 ?_
      refine s_iconst (pc := 12) (v := 1) (dc dl_X10_game 7 rfl) ic_1 ?_
      refine s_iload_n (pc := 13) (dc dl_X10_game 8 rfl) rfl rfl ?_
      refine s_ishl (pc := 14) (dc dl_X10_game 9 rfl) ?_
      refine s_iconst (pc := 15) (v := 1) (dc dl_X10_game 10 rfl) ic_1 ?_
      refine s_isub (pc := 16) (dc dl_X10_game 11 rfl) ?_
      refine s_calll (pc := 17) (ρ := rh0) (rest := []) hG (ss_KL_E_rh0) (calls_S (mi := mX10_game) (As := [.int x2, .int 0, .int ((1 <<< (x1 &&& 31)) - 1)]) (rest := []) hG (dc dl_X10_game 12 rfl) mo_X10_isWithin ms_X10_isWithin ml_X10_74 ⟨Nat.le_of_ble_eq_true rfl, Nat.le_of_ble_eq_true rfl⟩ rfl rfl (Nat.le_of_ble_eq_true rfl)) (cn_X10_isWithin l G hG (fun i => ad (rh0 i)) x2 0 ((1 <<< (x1 &&& 31)) - 1)) rfl rfl (fun r4 => ?_)
      refine s_if_ne (pc := 20) (tgt := 25) (dc dl_X10_game 13 rfl) rfl ?_ ?_
      · exact s_wk (hj2 ()) rfl
      · refine s_iload_n (pc := 25) (dc dl_X10_game 16 rfl) rfl rfl ?_
        refine s_iload_n (pc := 26) (dc dl_X10_game 17 rfl) rfl rfl ?_
        refine s_calll (pc := 27) (ρ := rh0) (rest := []) hG (ss_KL_E_rh0) (calls_S (mi := mX10_game) (As := [.int x1, .int x2]) (rest := []) hG (dc dl_X10_game 18 rfl) mo_X6_winningPlace ms_X6_winningPlace ml_X10_343 ⟨Nat.le_of_ble_eq_true rfl, Nat.le_of_ble_eq_true rfl⟩ rfl rfl (Nat.le_of_ble_eq_true rfl)) (cn_X6_winningPlace l G hG (fun i => ad (rh0 i)) x1 x2) rfl rfl (fun r5 => ?_)
        exact s_ireturn (pc := 30) rfl (dc dl_X10_game 19 rfl)
def gX10_undo : MM Int32 :=
  bd (ld 0 5) fun v1 =>
  bd (lf rh0 0 (gX10_isWithin v1 1 6)) fun r2 =>
  (if r2 = 0 then
  rz 0
  else
  bd (ld 0 5) fun v3 =>
  bd (sv 0 5 (v3 - 1)) fun _ =>
  bd (ld 0 5) fun v4 =>
  bd (la 112 v4) fun v5 =>
  inL v5.toNatClampNeg [133, 146, 159, 172, 185, 198] (
  bd (lf (rv2 v5.toNatClampNeg) 26 gX9_copy) fun r7 =>
  rz 1))
set_option maxHeartbeats 4000000 in
theorem cn_X10_undo (l : Launch) (G : Gl) (hG : gOk G) (ad : Nat → Nat) : Cn l G mX10_undo 2 lay_KL ad [.ref (ad 0)] (gX10_undo) := by
  refine cn_of (lv := [some (.ref (ad 0)), none]) (by decide +kernel) rfl (Nat.le_of_ble_eq_true rfl) rfl ?_
  unfold gX10_undo
  refine s_aload_n (pc := 0) (dc dl_X10_undo 0 rfl) rfl rfl ?_
  refine s_getI (pc := 1) fl_X10_36 lk_KL_0 kk_KL_0_5 (dc dl_X10_undo 1 rfl) (fun v1 => ?_)
  refine s_iconst (pc := 4) (v := 1) (dc dl_X10_undo 2 rfl) ic_1 ?_
  refine s_bipush (pc := 5) (v := 6) (dc dl_X10_undo 3 rfl) bi_6 ?_
  refine s_calll (pc := 7) (ρ := rh0) (rest := []) hG (ss_KL_E_rh0) (calls_S (mi := mX10_undo) (As := [.int v1, .int 1, .int 6]) (rest := []) hG (dc dl_X10_undo 4 rfl) mo_X10_isWithin ms_X10_isWithin ml_X10_74 ⟨Nat.le_of_ble_eq_true rfl, Nat.le_of_ble_eq_true rfl⟩ rfl rfl (Nat.le_of_ble_eq_true rfl)) (cn_X10_isWithin l G hG (fun i => ad (rh0 i)) v1 1 6) rfl rfl (fun r2 => ?_)
  refine s_if_ne (pc := 10) (tgt := 15) (dc dl_X10_undo 5 rfl) rfl ?_ ?_
  · refine s_iconst (pc := 13) (v := 0) (dc dl_X10_undo 6 rfl) ic_0 ?_
    exact s_zreturn (pc := 14) rfl (dc dl_X10_undo 7 rfl)
  · refine s_aload_n (pc := 15) (dc dl_X10_undo 8 rfl) rfl rfl ?_
    refine s_dup (pc := 16) (dc dl_X10_undo 9 rfl) rfl ?_
    refine s_getI (pc := 17) fl_X10_36 lk_KL_0 kk_KL_0_5 (dc dl_X10_undo 10 rfl) (fun v3 => ?_)
    refine s_iconst (pc := 20) (v := 1) (dc dl_X10_undo 11 rfl) ic_1 ?_
    refine s_isub (pc := 21) (dc dl_X10_undo 12 rfl) ?_
    refine s_putI (pc := 22) fw_X10_36 lk_KL_0 kk_KL_0_5 (dc dl_X10_undo 13 rfl) ?_
    refine s_aload_n (pc := 25) (dc dl_X10_undo 14 rfl) rfl rfl ?_
    refine s_getR (pc := 26) fl_X10_32 lk_KL_0 kk_KL_0_4 (dc dl_X10_undo 15 rfl) ?_
    refine s_aload_n (pc := 29) (dc dl_X10_undo 16 rfl) rfl rfl ?_
    refine s_getI (pc := 30) fl_X10_36 lk_KL_0 kk_KL_0_5 (dc dl_X10_undo 17 rfl) (fun v4 => ?_)
    refine s_aald (pc := 33) lk_KL_112 (dc dl_X10_undo 18 rfl) (fun v5 => ?_)
    refine s_astore_n (pc := 34) (lv' := [some (.ref (ad 0)), some (.ref (ad v5.toNatClampNeg))]) (dc dl_X10_undo 19 rfl) rfl (Nat.le_of_ble_eq_true rfl) rfl ?_
    refine s_aload_n (pc := 35) (dc dl_X10_undo 20 rfl) rfl rfl ?_
    refine s_ifnull (pc := 36) (dc dl_X10_undo 21 rfl) ?_
    refine s_aload_n (pc := 39) (dc dl_X10_undo 22 rfl) rfl rfl ?_
    refine s_getR (pc := 40) fl_X10_10 lk_KL_0 kk_KL_0_0 (dc dl_X10_undo 23 rfl) ?_
    refine s_getR (pc := 43) fl_X10_68 lk_KL_1 kk_KL_1_0 (dc dl_X10_undo 24 rfl) ?_
    refine s_aload_n (pc := 46) (dc dl_X10_undo 25 rfl) rfl rfl ?_
    refine s_inL (fun hx6 => ?_)
    refine s_calllv (pc := 47) (ρ := (rv2 v5.toNatClampNeg)) (rest := []) hG (ssrv2 _ hx6) (calls_V (mi := mX10_undo) (o := 2) (As := [.ref (ad v5.toNatClampNeg)]) (rest := []) hG (dc dl_X10_undo 26 rfl) mo_X9_copy mv_X9_copy ml_X10_346 ⟨Nat.le_of_ble_eq_true rfl, Nat.le_of_ble_eq_true rfl⟩ rfl rfl (Nat.le_of_ble_eq_true rfl) lk_KL_2 rfl) (cn_X9_copy l G hG (fun i => ad ((rv2 v5.toNatClampNeg) i))) rfl rfl (fun r7 => ?_)
    refine s_iconst (pc := 50) (v := 1) (dc dl_X10_undo 27 rfl) ic_1 ?_
    exact s_zreturn (pc := 51) rfl (dc dl_X10_undo 28 rfl)
def gX10_image (x1 : Int32) : MM Int32 :=
  (if x1 = 0 then
  bd (ld 0 2) fun v1 =>
  (if v1 = 0 then
  rz 0
  else
  bd (lf rh45 98 gX1_copy) fun r2 =>
  bd (sv 0 5 0) fun _ =>
  rz 1)
  else
  bd (lf rh46 98 gX1_copy) fun r3 =>
  bd (svz 0 2 1) fun _ =>
  rz 1)
set_option maxHeartbeats 4000000 in
theorem cn_X10_image (l : Launch) (G : Gl) (hG : gOk G) (ad : Nat → Nat) (x1 : Int32) : Cn l G mX10_image 3 lay_KL ad [.ref (ad 0), .int x1] (gX10_image x1) := by
  refine cn_of (lv := [some (.ref (ad 0)), some (.int x1)]) (by decide +kernel) rfl (Nat.le_of_ble_eq_true rfl) rfl ?_
  unfold gX10_image
  refine s_iload_n (pc := 0) (dc dl_X10_image 0 rfl) rfl rfl ?_
  refine s_if_eq (pc := 1) (tgt := 22) (dc dl_X10_image 1 rfl) rfl ?_ ?_
  · refine s_aload_n (pc := 22) (dc dl_X10_image 12 rfl) rfl rfl ?_
    refine s_getI (pc := 23) fl_X10_19 lk_KL_0 kk_KL_0_2 (dc dl_X10_image 13 rfl) (fun v1 => ?_)
    refine s_if_ne (pc := 26) (tgt := 31) (dc dl_X10_image 14 rfl) rfl ?_ ?_
    · refine s_iconst (pc := 29) (v := 0) (dc dl_X10_image 15 rfl) ic_0 ?_
      exact s_zreturn (pc := 30) rfl (dc dl_X10_image 16 rfl)
    · refine s_aload_n (pc := 31) (dc dl_X10_image 17 rfl) rfl rfl ?_
      refine s_getR (pc := 32) fl_X10_10 lk_KL_0 kk_KL_0_0 (dc dl_X10_image 18 rfl) ?_
      refine s_aload_n (pc := 35) (dc dl_X10_image 19 rfl) rfl rfl ?_
      refine s_getR (pc := 36) fl_X10_16 lk_KL_0 kk_KL_0_1 (dc dl_X10_image 20 rfl) ?_
      refine s_calllv (pc := 39) (ρ := rh45) (rest := []) hG (ss_KL_House2_rh45) (calls_V (mi := mX10_image) (o := 1) (As := [.ref (ad 50)]) (rest := []) hG (dc dl_X10_image 21 rfl) mo_X1_copy mv_X1_copy ml_X10_349 ⟨Nat.le_of_ble_eq_true rfl, Nat.le_of_ble_eq_true rfl⟩ rfl rfl (Nat.le_of_ble_eq_true rfl) lk_KL_1 rfl) (cn_X1_copy l G hG (fun i => ad (rh45 i))) rfl rfl (fun r2 => ?_)
      refine s_aload_n (pc := 42) (dc dl_X10_image 22 rfl) rfl rfl ?_
      refine s_iconst (pc := 43) (v := 0) (dc dl_X10_image 23 rfl) ic_0 ?_
      refine s_putI (pc := 44) fw_X10_36 lk_KL_0 kk_KL_0_5 (dc dl_X10_image 24 rfl) ?_
      refine s_iconst (pc := 47) (v := 1) (dc dl_X10_image 25 rfl) ic_1 ?_
      exact s_zreturn (pc := 48) rfl (dc dl_X10_image 26 rfl)
  · refine s_aload_n (pc := 4) (dc dl_X10_image 2 rfl) rfl rfl ?_
    refine s_getR (pc := 5) fl_X10_16 lk_KL_0 kk_KL_0_1 (dc dl_X10_image 3 rfl) ?_
    refine s_aload_n (pc := 8) (dc dl_X10_image 4 rfl) rfl rfl ?_
    refine s_getR (pc := 9) fl_X10_10 lk_KL_0 kk_KL_0_0 (dc dl_X10_image 5 rfl) ?_
    refine s_calllv (pc := 12) (ρ := rh46) (rest := []) hG (ss_KL_House2_rh46) (calls_V (mi := mX10_image) (o := 50) (As := [.ref (ad 1)]) (rest := []) hG (dc dl_X10_image 6 rfl) mo_X1_copy mv_X1_copy ml_X10_349 ⟨Nat.le_of_ble_eq_true rfl, Nat.le_of_ble_eq_true rfl⟩ rfl rfl (Nat.le_of_ble_eq_true rfl) lk_KL_50 rfl) (cn_X1_copy l G hG (fun i => ad (rh46 i))) rfl rfl (fun r3 => ?_)
    refine s_aload_n (pc := 15) (dc dl_X10_image 7 rfl) rfl rfl ?_
    refine s_iconst (pc := 16) (v := 1) (dc dl_X10_image 8 rfl) ic_1 ?_
    refine s_putZ (pc := 17) fw_X10_19 lk_KL_0 kk_KL_0_2 (dc dl_X10_image 9 rfl) ?_
    refine s_iconst (pc := 20) (v := 1) (dc dl_X10_image 10 rfl) ic_1 ?_
    exact s_zreturn (pc := 21) rfl (dc dl_X10_image 11 rfl)
def gX10_look (x1 : Int32) : MM Int32 :=
  swt x1 0 [bd (ld 2 4) fun v1 =>
  pr v1,
  bd (ld 2 5) fun v2 =>
  pr v2,
  bd (ld 2 6) fun v3 =>
  pr v3,
  bd (lf rh23 13 (gX9_thingsThatAre 0)) fun r4 =>
  pr r4,
  bd (lf rh23 13 (gX9_thingsThatAre 1)) fun r5 =>
  pr r5,
  bd (ld 2 5) fun v6 =>
  bd (lf rh47 1 (gX10_sum v6)) fun r7 =>
  pr r7,
  bd (ld 2 2) fun v8 =>
  pr v8,
  bd (ld 2 3) fun v9 =>
  pr v9,
  bd (ld 2 1) fun v10 =>
  pr v10,
  bd (ld 17 0) fun v11 =>
  pr v11,
  bd (ld 24 0) fun v12 =>
  pr v12,
  bd (ld 29 0) fun v13 =>
  pr v13,
  bd (ld 34 0) fun v14 =>
  pr v14,
  bd (ld 0 5) fun v15 =>
  pr v15]
  (pr ((-100000)))
set_option maxHeartbeats 4000000 in
theorem cn_X10_look (l : Launch) (G : Gl) (hG : gOk G) (ad : Nat → Nat) (x1 : Int32) : Cn l G mX10_look 1 lay_KL ad [.ref (ad 0), .int x1] (gX10_look x1) := by
  refine cn_of (lv := [some (.ref (ad 0)), some (.int x1), none]) (by decide +kernel) rfl (Nat.le_of_ble_eq_true rfl) rfl ?_
  unfold gX10_look
  refine s_aload_n (pc := 0) (dc dl_X10_look 0 rfl) rfl rfl ?_
  refine s_getR (pc := 1) fl_X10_10 lk_KL_0 kk_KL_0_0 (dc dl_X10_look 1 rfl) ?_
  refine s_getR (pc := 4) fl_X10_68 lk_KL_1 kk_KL_1_0 (dc dl_X10_look 2 rfl) ?_
  refine s_astore_n (pc := 7) (lv' := [some (.ref (ad 0)), some (.int x1), some (.ref (ad 2))]) (dc dl_X10_look 3 rfl) rfl (Nat.le_of_ble_eq_true rfl) rfl ?_
  refine s_iload_n (pc := 8) (dc dl_X10_look 4 rfl) rfl rfl ?_
  refine s_table (pc := 9) (offs := [71, 76, 81, 86, 92, 98, 110, 115, 120, 125, 136, 147, 158, 169]) (tgt := 183) (dc dl_X10_look 5 rfl) (by decide) (by decide) ?_ ⟨⟨80, by decide, ?_⟩, ⟨85, by decide, ?_⟩, ⟨90, by decide, ?_⟩, ⟨95, by decide, ?_⟩, ⟨101, by decide, ?_⟩, ⟨107, by decide, ?_⟩, ⟨119, by decide, ?_⟩, ⟨124, by decide, ?_⟩, ⟨129, by decide, ?_⟩, ⟨134, by decide, ?_⟩, ⟨145, by decide, ?_⟩, ⟨156, by decide, ?_⟩, ⟨167, by decide, ?_⟩, ⟨178, by decide, ?_⟩, trivial⟩
  · refine s_ldcw (pc := 183) (v := (-100000)) ct_X10_362 (dc dl_X10_look 61 rfl) ?_
    exact s_ireturn (pc := 186) rfl (dc dl_X10_look 62 rfl)
  · refine s_aload_n (pc := 80) (dc dl_X10_look 6 rfl) rfl rfl ?_
    refine s_getI (pc := 81) fl_X10_235 lk_KL_2 kk_KL_2_4 (dc dl_X10_look 7 rfl) (fun v1 => ?_)
    exact s_ireturn (pc := 84) rfl (dc dl_X10_look 8 rfl)
  · refine s_aload_n (pc := 85) (dc dl_X10_look 9 rfl) rfl rfl ?_
    refine s_getI (pc := 86) fl_X10_242 lk_KL_2 kk_KL_2_5 (dc dl_X10_look 10 rfl) (fun v2 => ?_)
    exact s_ireturn (pc := 89) rfl (dc dl_X10_look 11 rfl)
  · refine s_aload_n (pc := 90) (dc dl_X10_look 12 rfl) rfl rfl ?_
    refine s_getI (pc := 91) fl_X10_245 lk_KL_2 kk_KL_2_6 (dc dl_X10_look 13 rfl) (fun v3 => ?_)
    exact s_ireturn (pc := 94) rfl (dc dl_X10_look 14 rfl)
  · refine s_aload_n (pc := 95) (dc dl_X10_look 15 rfl) rfl rfl ?_
    refine s_iconst (pc := 96) (v := 0) (dc dl_X10_look 16 rfl) ic_0 ?_
    refine s_calll (pc := 97) (ρ := rh23) (rest := []) hG (ss_KL_World_rh23) (calls_V (mi := mX10_look) (o := 2) (As := [.int 0]) (rest := []) hG (dc dl_X10_look 17 rfl) mo_X9_thingsThatAre mv_X9_thingsThatAre ml_X10_352 ⟨Nat.le_of_ble_eq_true rfl, Nat.le_of_ble_eq_true rfl⟩ rfl rfl (Nat.le_of_ble_eq_true rfl) lk_KL_2 rfl) (cn_X9_thingsThatAre l G hG (fun i => ad (rh23 i)) 0) rfl rfl (fun r4 => ?_)
    exact s_ireturn (pc := 100) rfl (dc dl_X10_look 18 rfl)
  · refine s_aload_n (pc := 101) (dc dl_X10_look 19 rfl) rfl rfl ?_
    refine s_iconst (pc := 102) (v := 1) (dc dl_X10_look 20 rfl) ic_1 ?_
    refine s_calll (pc := 103) (ρ := rh23) (rest := []) hG (ss_KL_World_rh23) (calls_V (mi := mX10_look) (o := 2) (As := [.int 1]) (rest := []) hG (dc dl_X10_look 21 rfl) mo_X9_thingsThatAre mv_X9_thingsThatAre ml_X10_352 ⟨Nat.le_of_ble_eq_true rfl, Nat.le_of_ble_eq_true rfl⟩ rfl rfl (Nat.le_of_ble_eq_true rfl) lk_KL_2 rfl) (cn_X9_thingsThatAre l G hG (fun i => ad (rh23 i)) 1) rfl rfl (fun r5 => ?_)
    exact s_ireturn (pc := 106) rfl (dc dl_X10_look 22 rfl)
  · refine s_aload_n (pc := 107) (dc dl_X10_look 23 rfl) rfl rfl ?_
    refine s_getR (pc := 108) fl_X10_194 lk_KL_2 kk_KL_2_12 (dc dl_X10_look 24 rfl) ?_
    refine s_aload_n (pc := 111) (dc dl_X10_look 25 rfl) rfl rfl ?_
    refine s_getI (pc := 112) fl_X10_242 lk_KL_2 kk_KL_2_5 (dc dl_X10_look 26 rfl) (fun v6 => ?_)
    refine s_calll (pc := 115) (ρ := rh47) (rest := []) hG (ss_KL_A_rh47) (calls_S (mi := mX10_look) (As := [.ref (ad 8), .int v6]) (rest := []) hG (dc dl_X10_look 27 rfl) mo_X10_sum ms_X10_sum ml_X10_238 ⟨Nat.le_of_ble_eq_true rfl, Nat.le_of_ble_eq_true rfl⟩ rfl rfl (Nat.le_of_ble_eq_true rfl)) (cn_X10_sum l G hG (fun i => ad (rh47 i)) v6) rfl rfl (fun r7 => ?_)
    exact s_ireturn (pc := 118) rfl (dc dl_X10_look 28 rfl)
  · refine s_aload_n (pc := 119) (dc dl_X10_look 29 rfl) rfl rfl ?_
    refine s_getI (pc := 120) fl_X10_105 lk_KL_2 kk_KL_2_2 (dc dl_X10_look 30 rfl) (fun v8 => ?_)
    exact s_ireturn (pc := 123) rfl (dc dl_X10_look 31 rfl)
  · refine s_aload_n (pc := 124) (dc dl_X10_look 32 rfl) rfl rfl ?_
    refine s_getI (pc := 125) fl_X10_222 lk_KL_2 kk_KL_2_3 (dc dl_X10_look 33 rfl) (fun v9 => ?_)
    exact s_ireturn (pc := 128) rfl (dc dl_X10_look 34 rfl)
  · refine s_aload_n (pc := 129) (dc dl_X10_look 35 rfl) rfl rfl ?_
    refine s_getI (pc := 130) fl_X10_71 lk_KL_2 kk_KL_2_1 (dc dl_X10_look 36 rfl) (fun v10 => ?_)
    exact s_ireturn (pc := 133) rfl (dc dl_X10_look 37 rfl)
  · refine s_aload_n (pc := 134) (dc dl_X10_look 38 rfl) rfl rfl ?_
    refine s_getR (pc := 135) fl_X10_10 lk_KL_0 kk_KL_0_0 (dc dl_X10_look 39 rfl) ?_
    refine s_getR (pc := 138) fl_X10_126 lk_KL_1 kk_KL_1_2 (dc dl_X10_look 40 rfl) ?_
    refine s_getI (pc := 141) fl_X10_137 lk_KL_17 kk_KL_17_0 (dc dl_X10_look 41 rfl) (fun v11 => ?_)
    exact s_ireturn (pc := 144) rfl (dc dl_X10_look 42 rfl)
  · refine s_aload_n (pc := 145) (dc dl_X10_look 43 rfl) rfl rfl ?_
    refine s_getR (pc := 146) fl_X10_10 lk_KL_0 kk_KL_0_0 (dc dl_X10_look 44 rfl) ?_
    refine s_getR (pc := 149) fl_X10_355 lk_KL_1 kk_KL_1_3 (dc dl_X10_look 45 rfl) ?_
    refine s_getI (pc := 152) fl_X10_358 lk_KL_24 kk_KL_24_0 (dc dl_X10_look 46 rfl) (fun v12 => ?_)
    exact s_ireturn (pc := 155) rfl (dc dl_X10_look 47 rfl)
  · refine s_aload_n (pc := 156) (dc dl_X10_look 48 rfl) rfl rfl ?_
    refine s_getR (pc := 157) fl_X10_10 lk_KL_0 kk_KL_0_0 (dc dl_X10_look 49 rfl) ?_
    refine s_getR (pc := 160) fl_X10_359 lk_KL_1 kk_KL_1_4 (dc dl_X10_look 50 rfl) ?_
    refine s_getI (pc := 163) fl_X10_358 lk_KL_29 kk_KL_29_0 (dc dl_X10_look 51 rfl) (fun v13 => ?_)
    exact s_ireturn (pc := 166) rfl (dc dl_X10_look 52 rfl)
  · refine s_aload_n (pc := 167) (dc dl_X10_look 53 rfl) rfl rfl ?_
    refine s_getR (pc := 168) fl_X10_10 lk_KL_0 kk_KL_0_0 (dc dl_X10_look 54 rfl) ?_
    refine s_getR (pc := 171) fl_X10_176 lk_KL_1 kk_KL_1_5 (dc dl_X10_look 55 rfl) ?_
    refine s_getI (pc := 174) fl_X10_358 lk_KL_34 kk_KL_34_0 (dc dl_X10_look 56 rfl) (fun v14 => ?_)
    exact s_ireturn (pc := 177) rfl (dc dl_X10_look 57 rfl)
  · refine s_aload_n (pc := 178) (dc dl_X10_look 58 rfl) rfl rfl ?_
    refine s_getI (pc := 179) fl_X10_36 lk_KL_0 kk_KL_0_5 (dc dl_X10_look 59 rfl) (fun v15 => ?_)
    exact s_ireturn (pc := 182) rfl (dc dl_X10_look 60 rfl)
