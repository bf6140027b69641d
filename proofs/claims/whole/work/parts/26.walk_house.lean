def gX1_copy : MM Int32 :=
  bd (lf rh1 26 gX9_copy) fun r1 =>
  bd (lf rh2 4 gX0_copy) fun r2 =>
  bd (lf rh3 14 gX2_copy) fun r3 =>
  bd (lf rh4 10 gX5_copy) fun r4 =>
  bd (lf rh5 10 gX5_copy) fun r5 =>
  bd (lf rh6 10 gX5_copy) fun r6 =>
  bd (lf rh7 4 gX8_copy) fun r7 =>
  bd (lf rh8 4 gX8_copy) fun r8 =>
  bd (lf rh9 4 gX8_copy) fun r9 =>
  bd (lf rh10 4 gX8_copy) fun r10 =>
  bd (lf rh11 4 gX8_copy) fun r11 =>
  pr 0
set_option maxHeartbeats 4000000 in
theorem cn_X1_copy (l : Launch) (G : Gl) (hG : gOk G) (ad : Nat → Nat) : Cn l G mX1_copy 2 lay_House2 ad [.ref (ad 0), .ref (ad 49)] (gX1_copy) := by
  refine cn_of (lv := [some (.ref (ad 0)), some (.ref (ad 49))]) (by decide +kernel) rfl (Nat.le_of_ble_eq_true rfl) rfl ?_
  unfold gX1_copy
  refine s_aload_n (pc := 0) (dc dl_X1_copy 0 rfl) rfl rfl ?_
  refine s_getR (pc := 1) fl_X1_14 lk_House2_0 kk_House2_0_0 (dc dl_X1_copy 1 rfl) ?_
  refine s_aload_n (pc := 4) (dc dl_X1_copy 2 rfl) rfl rfl ?_
  refine s_getR (pc := 5) fl_X1_14 lk_House2_49 kk_House2_49_0 (dc dl_X1_copy 3 rfl) ?_
  refine s_calllv (pc := 8) (ρ := rh1) (rest := []) hG (ss_House2_World2_rh1) (calls_V (mi := mX1_copy) (o := 1) (As := [.ref (ad 50)]) (rest := []) hG (dc dl_X1_copy 4 rfl) mo_X9_copy mv_X9_copy ml_X1_72 ⟨Nat.le_of_ble_eq_true rfl, Nat.le_of_ble_eq_true rfl⟩ rfl rfl (Nat.le_of_ble_eq_true rfl) lk_House2_1 rfl) (cn_X9_copy l G hG (fun i => ad (rh1 i))) rfl rfl (fun r1 => ?_)
  refine s_aload_n (pc := 11) (dc dl_X1_copy 5 rfl) rfl rfl ?_
  refine s_getR (pc := 12) fl_X1_23 lk_House2_0 kk_House2_0_1 (dc dl_X1_copy 6 rfl) ?_
  refine s_aload_n (pc := 15) (dc dl_X1_copy 7 rfl) rfl rfl ?_
  refine s_getR (pc := 16) fl_X1_23 lk_House2_49 kk_House2_49_1 (dc dl_X1_copy 8 rfl) ?_
  refine s_calllv (pc := 19) (ρ := rh2) (rest := []) hG (ss_House2_Book2_rh2) (calls_V (mi := mX1_copy) (o := 14) (As := [.ref (ad 63)]) (rest := []) hG (dc dl_X1_copy 9 rfl) mo_X0_copy mv_X0_copy ml_X1_76 ⟨Nat.le_of_ble_eq_true rfl, Nat.le_of_ble_eq_true rfl⟩ rfl rfl (Nat.le_of_ble_eq_true rfl) lk_House2_14 rfl) (cn_X0_copy l G hG (fun i => ad (rh2 i))) rfl rfl (fun r2 => ?_)
  refine s_aload_n (pc := 22) (dc dl_X1_copy 10 rfl) rfl rfl ?_
  refine s_getR (pc := 23) fl_X1_30 lk_House2_0 kk_House2_0_2 (dc dl_X1_copy 11 rfl) ?_
  refine s_aload_n (pc := 26) (dc dl_X1_copy 12 rfl) rfl rfl ?_
  refine s_getR (pc := 27) fl_X1_30 lk_House2_49 kk_House2_49_2 (dc dl_X1_copy 13 rfl) ?_
  refine s_calllv (pc := 30) (ρ := rh3) (rest := []) hG (ss_House2_Law2_rh3) (calls_V (mi := mX1_copy) (o := 16) (As := [.ref (ad 65)]) (rest := []) hG (dc dl_X1_copy 14 rfl) mo_X2_copy mv_X2_copy ml_X1_79 ⟨Nat.le_of_ble_eq_true rfl, Nat.le_of_ble_eq_true rfl⟩ rfl rfl (Nat.le_of_ble_eq_true rfl) lk_House2_16 rfl) (cn_X2_copy l G hG (fun i => ad (rh3 i))) rfl rfl (fun r3 => ?_)
  refine s_aload_n (pc := 33) (dc dl_X1_copy 15 rfl) rfl rfl ?_
  refine s_getR (pc := 34) fl_X1_37 lk_House2_0 kk_House2_0_3 (dc dl_X1_copy 16 rfl) ?_
  refine s_aload_n (pc := 37) (dc dl_X1_copy 17 rfl) rfl rfl ?_
  refine s_getR (pc := 38) fl_X1_37 lk_House2_49 kk_House2_49_3 (dc dl_X1_copy 18 rfl) ?_
  refine s_calllv (pc := 41) (ρ := rh4) (rest := []) hG (ss_House2_Lines2_rh4) (calls_V (mi := mX1_copy) (o := 23) (As := [.ref (ad 72)]) (rest := []) hG (dc dl_X1_copy 19 rfl) mo_X5_copy mv_X5_copy ml_X1_82 ⟨Nat.le_of_ble_eq_true rfl, Nat.le_of_ble_eq_true rfl⟩ rfl rfl (Nat.le_of_ble_eq_true rfl) lk_House2_23 rfl) (cn_X5_copy l G hG (fun i => ad (rh4 i))) rfl rfl (fun r4 => ?_)
  refine s_aload_n (pc := 44) (dc dl_X1_copy 20 rfl) rfl rfl ?_
  refine s_getR (pc := 45) fl_X1_41 lk_House2_0 kk_House2_0_4 (dc dl_X1_copy 21 rfl) ?_
  refine s_aload_n (pc := 48) (dc dl_X1_copy 22 rfl) rfl rfl ?_
  refine s_getR (pc := 49) fl_X1_41 lk_House2_49 kk_House2_49_4 (dc dl_X1_copy 23 rfl) ?_
  refine s_calllv (pc := 52) (ρ := rh5) (rest := []) hG (ss_House2_Lines2_rh5) (calls_V (mi := mX1_copy) (o := 28) (As := [.ref (ad 77)]) (rest := []) hG (dc dl_X1_copy 24 rfl) mo_X5_copy mv_X5_copy ml_X1_82 ⟨Nat.le_of_ble_eq_true rfl, Nat.le_of_ble_eq_true rfl⟩ rfl rfl (Nat.le_of_ble_eq_true rfl) lk_House2_28 rfl) (cn_X5_copy l G hG (fun i => ad (rh5 i))) rfl rfl (fun r5 => ?_)
  refine s_aload_n (pc := 55) (dc dl_X1_copy 25 rfl) rfl rfl ?_
  refine s_getR (pc := 56) fl_X1_44 lk_House2_0 kk_House2_0_5 (dc dl_X1_copy 26 rfl) ?_
  refine s_aload_n (pc := 59) (dc dl_X1_copy 27 rfl) rfl rfl ?_
  refine s_getR (pc := 60) fl_X1_44 lk_House2_49 kk_House2_49_5 (dc dl_X1_copy 28 rfl) ?_
  refine s_calllv (pc := 63) (ρ := rh6) (rest := []) hG (ss_House2_Lines2_rh6) (calls_V (mi := mX1_copy) (o := 33) (As := [.ref (ad 82)]) (rest := []) hG (dc dl_X1_copy 29 rfl) mo_X5_copy mv_X5_copy ml_X1_82 ⟨Nat.le_of_ble_eq_true rfl, Nat.le_of_ble_eq_true rfl⟩ rfl rfl (Nat.le_of_ble_eq_true rfl) lk_House2_33 rfl) (cn_X5_copy l G hG (fun i => ad (rh6 i))) rfl rfl (fun r6 => ?_)
  refine s_aload_n (pc := 66) (dc dl_X1_copy 30 rfl) rfl rfl ?_
  refine s_getR (pc := 67) fl_X1_52 lk_House2_0 kk_House2_0_6 (dc dl_X1_copy 31 rfl) ?_
  refine s_aload_n (pc := 70) (dc dl_X1_copy 32 rfl) rfl rfl ?_
  refine s_getR (pc := 71) fl_X1_52 lk_House2_49 kk_House2_49_6 (dc dl_X1_copy 33 rfl) ?_
  refine s_calllv (pc := 74) (ρ := rh7) (rest := []) hG (ss_House2_Told2_rh7) (calls_V (mi := mX1_copy) (o := 38) (As := [.ref (ad 87)]) (rest := []) hG (dc dl_X1_copy 34 rfl) mo_X8_copy mv_X8_copy ml_X1_85 ⟨Nat.le_of_ble_eq_true rfl, Nat.le_of_ble_eq_true rfl⟩ rfl rfl (Nat.le_of_ble_eq_true rfl) lk_House2_38 rfl) (cn_X8_copy l G hG (fun i => ad (rh7 i))) rfl rfl (fun r7 => ?_)
  refine s_aload_n (pc := 77) (dc dl_X1_copy 35 rfl) rfl rfl ?_
  refine s_getR (pc := 78) fl_X1_56 lk_House2_0 kk_House2_0_7 (dc dl_X1_copy 36 rfl) ?_
  refine s_aload_n (pc := 81) (dc dl_X1_copy 37 rfl) rfl rfl ?_
  refine s_getR (pc := 82) fl_X1_56 lk_House2_49 kk_House2_49_7 (dc dl_X1_copy 38 rfl) ?_
  refine s_calllv (pc := 85) (ρ := rh8) (rest := []) hG (ss_House2_Told2_rh8) (calls_V (mi := mX1_copy) (o := 40) (As := [.ref (ad 89)]) (rest := []) hG (dc dl_X1_copy 39 rfl) mo_X8_copy mv_X8_copy ml_X1_85 ⟨Nat.le_of_ble_eq_true rfl, Nat.le_of_ble_eq_true rfl⟩ rfl rfl (Nat.le_of_ble_eq_true rfl) lk_House2_40 rfl) (cn_X8_copy l G hG (fun i => ad (rh8 i))) rfl rfl (fun r8 => ?_)
  refine s_aload_n (pc := 88) (dc dl_X1_copy 40 rfl) rfl rfl ?_
  refine s_getR (pc := 89) fl_X1_59 lk_House2_0 kk_House2_0_8 (dc dl_X1_copy 41 rfl) ?_
  refine s_aload_n (pc := 92) (dc dl_X1_copy 42 rfl) rfl rfl ?_
  refine s_getR (pc := 93) fl_X1_59 lk_House2_49 kk_House2_49_8 (dc dl_X1_copy 43 rfl) ?_
  refine s_calllv (pc := 96) (ρ := rh9) (rest := []) hG (ss_House2_Told2_rh9) (calls_V (mi := mX1_copy) (o := 42) (As := [.ref (ad 91)]) (rest := []) hG (dc dl_X1_copy 44 rfl) mo_X8_copy mv_X8_copy ml_X1_85 ⟨Nat.le_of_ble_eq_true rfl, Nat.le_of_ble_eq_true rfl⟩ rfl rfl (Nat.le_of_ble_eq_true rfl) lk_House2_42 rfl) (cn_X8_copy l G hG (fun i => ad (rh9 i))) rfl rfl (fun r9 => ?_)
  refine s_aload_n (pc := 99) (dc dl_X1_copy 45 rfl) rfl rfl ?_
  refine s_getR (pc := 100) fl_X1_62 lk_House2_0 kk_House2_0_9 (dc dl_X1_copy 46 rfl) ?_
  refine s_aload_n (pc := 103) (dc dl_X1_copy 47 rfl) rfl rfl ?_
  refine s_getR (pc := 104) fl_X1_62 lk_House2_49 kk_House2_49_9 (dc dl_X1_copy 48 rfl) ?_
  refine s_calllv (pc := 107) (ρ := rh10) (rest := []) hG (ss_House2_Told2_rh10) (calls_V (mi := mX1_copy) (o := 44) (As := [.ref (ad 93)]) (rest := []) hG (dc dl_X1_copy 49 rfl) mo_X8_copy mv_X8_copy ml_X1_85 ⟨Nat.le_of_ble_eq_true rfl, Nat.le_of_ble_eq_true rfl⟩ rfl rfl (Nat.le_of_ble_eq_true rfl) lk_House2_44 rfl) (cn_X8_copy l G hG (fun i => ad (rh10 i))) rfl rfl (fun r10 => ?_)
  refine s_aload_n (pc := 110) (dc dl_X1_copy 50 rfl) rfl rfl ?_
  refine s_getR (pc := 111) fl_X1_65 lk_House2_0 kk_House2_0_10 (dc dl_X1_copy 51 rfl) ?_
  refine s_aload_n (pc := 114) (dc dl_X1_copy 52 rfl) rfl rfl ?_
  refine s_getR (pc := 115) fl_X1_65 lk_House2_49 kk_House2_49_10 (dc dl_X1_copy 53 rfl) ?_
  refine s_calllv (pc := 118) (ρ := rh11) (rest := []) hG (ss_House2_Told2_rh11) (calls_V (mi := mX1_copy) (o := 46) (As := [.ref (ad 95)]) (rest := []) hG (dc dl_X1_copy 54 rfl) mo_X8_copy mv_X8_copy ml_X1_85 ⟨Nat.le_of_ble_eq_true rfl, Nat.le_of_ble_eq_true rfl⟩ rfl rfl (Nat.le_of_ble_eq_true rfl) lk_House2_46 rfl) (cn_X8_copy l G hG (fun i => ad (rh11 i))) rfl rfl (fun r11 => ?_)
  exact s_return (pc := 121) rfl (dc dl_X1_copy 55 rfl)
def gX1_customary (x1 : Int32) : MM Int32 :=
  swl x1 [(0, bd (la 35 0) fun v3 =>
  nz 2 (
  pr (1 + (v3 / 2)))),
  (1, bd (la 35 1) fun v4 =>
  pr (900 - (100 * v4)))]
  (bd (la 35 4) fun v1 =>
  bd (la 35 0) fun v2 =>
  pr ((300 * v1) + (50 * v2)))
set_option maxHeartbeats 4000000 in
theorem cn_X1_customary (l : Launch) (G : Gl) (hG : gOk G) (ad : Nat → Nat) (x1 : Int32) : Cn l G mX1_customary 0 lay_HW ad [.ref (ad 0), .int x1] (gX1_customary x1) := by
  refine cn_of (lv := [some (.ref (ad 0)), some (.int x1)]) (by decide +kernel) rfl (Nat.le_of_ble_eq_true rfl) rfl ?_
  unfold gX1_customary
  refine s_iload_n (pc := 0) (dc dl_X1_customary 0 rfl) rfl rfl ?_
  refine s_lookup (pc := 1) (ps := [(0, 27), (1, 38)]) (tgt := 53) (dc dl_X1_customary 1 rfl) (by decide) (by decide) ?_ ⟨⟨rfl, 28, by decide, ?_⟩, ⟨rfl, 39, by decide, ?_⟩, trivial⟩
  · refine s_sipush (pc := 53) (v := 300) (dc dl_X1_customary 20 rfl) si_300 ?_
    refine s_aload_n (pc := 56) (dc dl_X1_customary 21 rfl) rfl rfl ?_
    refine s_getR (pc := 57) fl_X1_68 lk_HW_0 kk_HW_0_11 (dc dl_X1_customary 22 rfl) ?_
    refine s_iconst (pc := 60) (v := 4) (dc dl_X1_customary 23 rfl) ic_4 ?_
    refine s_iald (pc := 61) lk_HW_35 (dc dl_X1_customary 24 rfl) (fun v1 => ?_)
    refine s_imul (pc := 62) (dc dl_X1_customary 25 rfl) ?_
    refine s_bipush (pc := 63) (v := 50) (dc dl_X1_customary 26 rfl) bi_50 ?_
    refine s_aload_n (pc := 65) (dc dl_X1_customary 27 rfl) rfl rfl ?_
    refine s_getR (pc := 66) fl_X1_68 lk_HW_0 kk_HW_0_11 (dc dl_X1_customary 28 rfl) ?_
    refine s_iconst (pc := 69) (v := 0) (dc dl_X1_customary 29 rfl) ic_0 ?_
    refine s_iald (pc := 70) lk_HW_35 (dc dl_X1_customary 30 rfl) (fun v2 => ?_)
    refine s_imul (pc := 71) (dc dl_X1_customary 31 rfl) ?_
    refine s_iadd (pc := 72) (dc dl_X1_customary 32 rfl) ?_
    exact s_ireturn (pc := 73) rfl (dc dl_X1_customary 33 rfl)
  · refine s_iconst (pc := 28) (v := 1) (dc dl_X1_customary 2 rfl) ic_1 ?_
    refine s_aload_n (pc := 29) (dc dl_X1_customary 3 rfl) rfl rfl ?_
    refine s_getR (pc := 30) fl_X1_68 lk_HW_0 kk_HW_0_11 (dc dl_X1_customary 4 rfl) ?_
    refine s_iconst (pc := 33) (v := 0) (dc dl_X1_customary 5 rfl) ic_0 ?_
    refine s_iald (pc := 34) lk_HW_35 (dc dl_X1_customary 6 rfl) (fun v3 => ?_)
    refine s_iconst (pc := 35) (v := 2) (dc dl_X1_customary 7 rfl) ic_2 ?_
    refine s_idiv (pc := 36) (dc dl_X1_customary 8 rfl) ?_
    refine s_iadd (pc := 37) (dc dl_X1_customary 9 rfl) ?_
    exact s_ireturn (pc := 38) rfl (dc dl_X1_customary 10 rfl)
  · refine s_sipush (pc := 39) (v := 900) (dc dl_X1_customary 11 rfl) si_900 ?_
    refine s_bipush (pc := 42) (v := 100) (dc dl_X1_customary 12 rfl) bi_100 ?_
    refine s_aload_n (pc := 44) (dc dl_X1_customary 13 rfl) rfl rfl ?_
    refine s_getR (pc := 45) fl_X1_68 lk_HW_0 kk_HW_0_11 (dc dl_X1_customary 14 rfl) ?_
    refine s_iconst (pc := 48) (v := 1) (dc dl_X1_customary 15 rfl) ic_1 ?_
    refine s_iald (pc := 49) lk_HW_35 (dc dl_X1_customary 16 rfl) (fun v4 => ?_)
    refine s_imul (pc := 50) (dc dl_X1_customary 17 rfl) ?_
    refine s_isub (pc := 51) (dc dl_X1_customary 18 rfl) ?_
    exact s_ireturn (pc := 52) rfl (dc dl_X1_customary 19 rfl)
def gX1_held (x0 x1 x2 : Int32) : MM Int32 :=
  bd (gJ9_min_7cf53 x2 x0) fun r1 =>
  bd (gJ9_max_7cf53 x1 r1) fun r2 =>
  pr r2
set_option maxHeartbeats 4000000 in
theorem cn_X1_held (l : Launch) (G : Gl) (hG : gOk G) (ad : Nat → Nat) (x0 x1 x2 : Int32) : Cn l G mX1_held 1 lay_E ad [.int x0, .int x1, .int x2] (gX1_held x0 x1 x2) := by
  refine cn_of (lv := [some (.int x0), some (.int x1), some (.int x2)]) (by decide +kernel) rfl (Nat.le_of_ble_eq_true rfl) rfl ?_
  unfold gX1_held
  refine s_iload_n (pc := 0) (dc dl_X1_held 0 rfl) rfl rfl ?_
  refine s_iload_n (pc := 1) (dc dl_X1_held 1 rfl) rfl rfl ?_
  refine s_iload_n (pc := 2) (dc dl_X1_held 2 rfl) rfl rfl ?_
  refine s_call (pc := 3) (rest := [.int x1]) hG (calls_S (mi := mX1_held) (As := [.int x2, .int x0]) (rest := [.int x1]) hG (dc dl_X1_held 3 rfl) mo_J9_min_7cf53 ms_J9_min_7cf53 ml_X1_156 ⟨Nat.le_of_ble_eq_true rfl, Nat.le_of_ble_eq_true rfl⟩ rfl rfl (Nat.le_of_ble_eq_true rfl)) (cn_J9_min_7cf53 l G hG ad x2 x0) rfl (fun r1 => ?_)
  refine s_call (pc := 6) (rest := []) hG (calls_S (mi := mX1_held) (As := [.int x1, .int r1]) (rest := []) hG (dc dl_X1_held 4 rfl) mo_J9_max_7cf53 ms_J9_max_7cf53 ml_X1_162 ⟨Nat.le_of_ble_eq_true rfl, Nat.le_of_ble_eq_true rfl⟩ rfl rfl (Nat.le_of_ble_eq_true rfl)) (cn_J9_max_7cf53 l G hG ad x1 r1) rfl (fun r2 => ?_)
  exact s_ireturn (pc := 9) rfl (dc dl_X1_held 5 rfl)
def gX1_see (x2 x3 : Int32) : MM Int32 :=
  bd (la 40 x3) fun v1 =>
  bd (la 44 x2) fun v2 =>
  bd (lf rh12 13 (gX9_hasPerson v1)) fun r3 =>
  jn (fun (a5 : Unit) =>
  pr 0) (fun j4 =>
  (if r3 = 0 then
  j4 ()
  else
  bd (lf rh12 13 (gX9_hasPerson v2)) fun r6 =>
  (if r6 = 0 then
  j4 ()
  else
  bd (la 37 v1) fun v7 =>
  bd (sa 35 0 v7) fun _ =>
  bd (la 47 x2) fun v8 =>
  bd (sa 35 1 v8) fun _ =>
  bd (la 41 x3) fun v9 =>
  bd (sa 35 2 v9) fun _ =>
  bd (la 42 x3) fun v10 =>
  bd (sa 35 3 v10) fun _ =>
  jn (fun (a12 : Int32) =>
  bd (sa 35 4 a12) fun _ =>
  bd (la 38 v2) fun v13 =>
  bd (sa 35 5 v13) fun _ =>
  bd (la 39 v2) fun v14 =>
  bd (sa 35 6 v14) fun _ =>
  bd (lf rh12 13 (gX9_thingsThatAre 0)) fun r15 =>
  bd (lf rh0 0 (gJ6_bitCount_0f7a4 r15)) fun r16 =>
  bd (sa 35 7 r16) fun _ =>
  bd (ld 36 2) fun v17 =>
  bd (sa 35 8 v17) fun _ =>
  pr 0) (fun j11 =>
  (if v1 = v2 then
  j11 2
  else
  bd (lf rh13 5 (gX5_friendsOf v2)) fun r18 =>
  j11 ((ish r18 v1) &&& 1))))))
set_option maxHeartbeats 4000000 in
theorem cn_X1_see (l : Launch) (G : Gl) (hG : gOk G) (ad : Nat → Nat) (x2 x3 : Int32) : Cn l G mX1_see 1 lay_HW ad [.ref (ad 0), .ref (ad 36), .int x2, .int x3] (gX1_see x2 x3) := by
  refine cn_of (lv := [some (.ref (ad 0)), some (.ref (ad 36)), some (.int x2), some (.int x3), none, none]) (by decide +kernel) rfl (Nat.le_of_ble_eq_true rfl) rfl ?_
  unfold gX1_see
  refine s_aload_n (pc := 0) (dc dl_X1_see 0 rfl) rfl rfl ?_
  refine s_getR (pc := 1) fl_X1_114 lk_HW_36 kk_HW_36_10 (dc dl_X1_see 1 rfl) ?_
  refine s_iload_n (pc := 4) (dc dl_X1_see 2 rfl) rfl rfl ?_
  refine s_iald (pc := 5) lk_HW_40 (dc dl_X1_see 3 rfl) (fun v1 => ?_)
  refine s_istore (pc := 6) (lv' := [some (.ref (ad 0)), some (.ref (ad 36)), some (.int x2), some (.int x3), some (.int v1), none]) (dc dl_X1_see 4 rfl) (Nat.le_of_ble_eq_true rfl) rfl ?_
  refine s_aload_n (pc := 8) (dc dl_X1_see 5 rfl) rfl rfl ?_
  refine s_getR (pc := 9) fl_X1_117 lk_HW_36 kk_HW_36_14 (dc dl_X1_see 6 rfl) ?_
  refine s_iload_n (pc := 12) (dc dl_X1_see 7 rfl) rfl rfl ?_
  refine s_iald (pc := 13) lk_HW_44 (dc dl_X1_see 8 rfl) (fun v2 => ?_)
  refine s_istore (pc := 14) (lv' := [some (.ref (ad 0)), some (.ref (ad 36)), some (.int x2), some (.int x3), some (.int v1), some (.int v2)]) (dc dl_X1_see 9 rfl) (Nat.le_of_ble_eq_true rfl) rfl ?_
  refine s_aload_n (pc := 16) (dc dl_X1_see 10 rfl) rfl rfl ?_
  refine s_iload (pc := 17) (dc dl_X1_see 11 rfl) rfl ?_
  refine s_calll (pc := 19) (ρ := rh12) (rest := []) hG (ss_HW_World_rh12) (calls_V (mi := mX1_see) (o := 36) (As := [.int v1]) (rest := []) hG (dc dl_X1_see 12 rfl) mo_X9_hasPerson mv_X9_hasPerson ml_X1_120 ⟨Nat.le_of_ble_eq_true rfl, Nat.le_of_ble_eq_true rfl⟩ rfl rfl (Nat.le_of_ble_eq_true rfl) lk_HW_36 rfl) (cn_X9_hasPerson l G hG (fun i => ad (rh12 i)) v1) rfl rfl (fun r3 => ?_)
  refine s_jn (pj := 34) (fun a5 : Unit => [none, none, none, none, none, none]) (fun a5 : Unit => []) (fun a5 => ?_) (fun j4 hj4 => ?_)
  · exact s_return (pc := 34) rfl (dc dl_X1_see 18 rfl)
  · refine s_if_eq (pc := 22) (tgt := 34) (dc dl_X1_see 13 rfl) rfl ?_ ?_
    · exact s_wk (hj4 ()) rfl
    · refine s_aload_n (pc := 25) (dc dl_X1_see 14 rfl) rfl rfl ?_
      refine s_iload (pc := 26) (dc dl_X1_see 15 rfl) rfl ?_
      refine s_calll (pc := 28) (ρ := rh12) (rest := []) hG (ss_HW_World_rh12) (calls_V (mi := mX1_see) (o := 36) (As := [.int v2]) (rest := []) hG (dc dl_X1_see 16 rfl) mo_X9_hasPerson mv_X9_hasPerson ml_X1_120 ⟨Nat.le_of_ble_eq_true rfl, Nat.le_of_ble_eq_true rfl⟩ rfl rfl (Nat.le_of_ble_eq_true rfl) lk_HW_36 rfl) (cn_X9_hasPerson l G hG (fun i => ad (rh12 i)) v2) rfl rfl (fun r6 => ?_)
      refine s_if_ne (pc := 31) (tgt := 35) (dc dl_X1_see 17 rfl) rfl ?_ ?_
      · exact s_wk (hj4 ()) rfl
      · refine s_aload_n (pc := 35) (dc dl_X1_see 19 rfl) rfl rfl ?_
        refine s_getR (pc := 36) fl_X1_68 lk_HW_0 kk_HW_0_11 (dc dl_X1_see 20 rfl) ?_
        refine s_iconst (pc := 39) (v := 0) (dc dl_X1_see 21 rfl) ic_0 ?_
        refine s_aload_n (pc := 40) (dc dl_X1_see 22 rfl) rfl rfl ?_
        refine s_getR (pc := 41) fl_X1_123 lk_HW_36 kk_HW_36_7 (dc dl_X1_see 23 rfl) ?_
        refine s_iload (pc := 44) (dc dl_X1_see 24 rfl) rfl ?_
        refine s_iald (pc := 46) lk_HW_37 (dc dl_X1_see 25 rfl) (fun v7 => ?_)
        refine s_iast (pc := 47) lk_HW_35 (dc dl_X1_see 26 rfl) ?_
        refine s_aload_n (pc := 48) (dc dl_X1_see 27 rfl) rfl rfl ?_
        refine s_getR (pc := 49) fl_X1_68 lk_HW_0 kk_HW_0_11 (dc dl_X1_see 28 rfl) ?_
        refine s_iconst (pc := 52) (v := 1) (dc dl_X1_see 29 rfl) ic_1 ?_
        refine s_aload_n (pc := 53) (dc dl_X1_see 30 rfl) rfl rfl ?_
        refine s_getR (pc := 54) fl_X1_126 lk_HW_36 kk_HW_36_17 (dc dl_X1_see 31 rfl) ?_
        refine s_iload_n (pc := 57) (dc dl_X1_see 32 rfl) rfl rfl ?_
        refine s_iald (pc := 58) lk_HW_47 (dc dl_X1_see 33 rfl) (fun v8 => ?_)
        refine s_iast (pc := 59) lk_HW_35 (dc dl_X1_see 34 rfl) ?_
        refine s_aload_n (pc := 60) (dc dl_X1_see 35 rfl) rfl rfl ?_
        refine s_getR (pc := 61) fl_X1_68 lk_HW_0 kk_HW_0_11 (dc dl_X1_see 36 rfl) ?_
        refine s_iconst (pc := 64) (v := 2) (dc dl_X1_see 37 rfl) ic_2 ?_
        refine s_aload_n (pc := 65) (dc dl_X1_see 38 rfl) rfl rfl ?_
        refine s_getR (pc := 66) fl_X1_129 lk_HW_36 kk_HW_36_11 (dc dl_X1_see 39 rfl) ?_
        refine s_iload_n (pc := 69) (dc dl_X1_see 40 rfl) rfl rfl ?_
        refine s_iald (pc := 70) lk_HW_41 (dc dl_X1_see 41 rfl) (fun v9 => ?_)
        refine s_iast (pc := 71) lk_HW_35 (dc dl_X1_see 42 rfl) ?_
        refine s_aload_n (pc := 72) (dc dl_X1_see 43 rfl) rfl rfl ?_
        refine s_getR (pc := 73) fl_X1_68 lk_HW_0 kk_HW_0_11 (dc dl_X1_see 44 rfl) ?_
        refine s_iconst (pc := 76) (v := 3) (dc dl_X1_see 45 rfl) ic_3 ?_
        refine s_aload_n (pc := 77) (dc dl_X1_see 46 rfl) rfl rfl ?_
        refine s_getR (pc := 78) fl_X1_132 lk_HW_36 kk_HW_36_12 (dc dl_X1_see 47 rfl) ?_
        refine s_iload_n (pc := 81) (dc dl_X1_see 48 rfl) rfl rfl ?_
        refine s_iald (pc := 82) lk_HW_42 (dc dl_X1_see 49 rfl) (fun v10 => ?_)
        refine s_iast (pc := 83) lk_HW_35 (dc dl_X1_see 50 rfl) ?_
        refine s_aload_n (pc := 84) (dc dl_X1_see 51 rfl) rfl rfl ?_
        refine s_getR (pc := 85) fl_X1_68 lk_HW_0 kk_HW_0_11 (dc dl_X1_see 52 rfl) ?_
        refine s_iconst (pc := 88) (v := 4) (dc dl_X1_see 53 rfl) ic_4 ?_
        refine s_iload (pc := 89) (dc dl_X1_see 54 rfl) rfl ?_
        refine s_iload (pc := 91) (dc dl_X1_see 55 rfl) rfl ?_
        refine s_jn (pj := 114) (fun a12 : Int32 => [some (.ref (ad 0)), some (.ref (ad 36)), none, none, none, some (.int v2)]) (fun a12 : Int32 => [.int a12, .int 4, .ref (ad 35)]) (fun a12 => ?_) (fun j11 hj11 => ?_)
        · refine s_iast (pc := 114) lk_HW_35 (dc dl_X1_see 67 rfl) ?_
          refine s_aload_n (pc := 115) (dc dl_X1_see 68 rfl) rfl rfl ?_
          refine s_getR (pc := 116) fl_X1_68 lk_HW_0 kk_HW_0_11 (dc dl_X1_see 69 rfl) ?_
          refine s_iconst (pc := 119) (v := 5) (dc dl_X1_see 70 rfl) ic_5 ?_
          refine s_aload_n (pc := 120) (dc dl_X1_see 71 rfl) rfl rfl ?_
          refine s_getR (pc := 121) fl_X1_138 lk_HW_36 kk_HW_36_8 (dc dl_X1_see 72 rfl) ?_
          refine s_iload (pc := 124) (dc dl_X1_see 73 rfl) rfl ?_
          refine s_iald (pc := 126) lk_HW_38 (dc dl_X1_see 74 rfl) (fun v13 => ?_)
          refine s_iast (pc := 127) lk_HW_35 (dc dl_X1_see 75 rfl) ?_
          refine s_aload_n (pc := 128) (dc dl_X1_see 76 rfl) rfl rfl ?_
          refine s_getR (pc := 129) fl_X1_68 lk_HW_0 kk_HW_0_11 (dc dl_X1_see 77 rfl) ?_
          refine s_bipush (pc := 132) (v := 6) (dc dl_X1_see 78 rfl) bi_6 ?_
          refine s_aload_n (pc := 134) (dc dl_X1_see 79 rfl) rfl rfl ?_
          refine s_getR (pc := 135) fl_X1_141 lk_HW_36 kk_HW_36_9 (dc dl_X1_see 80 rfl) ?_
          refine s_iload (pc := 138) (dc dl_X1_see 81 rfl) rfl ?_
          refine s_iald (pc := 140) lk_HW_39 (dc dl_X1_see 82 rfl) (fun v14 => ?_)
          refine s_iast (pc := 141) lk_HW_35 (dc dl_X1_see 83 rfl) ?_
          refine s_aload_n (pc := 142) (dc dl_X1_see 84 rfl) rfl rfl ?_
          refine s_getR (pc := 143) fl_X1_68 lk_HW_0 kk_HW_0_11 (dc dl_X1_see 85 rfl) ?_
          refine s_bipush (pc := 146) (v := 7) (dc dl_X1_see 86 rfl) bi_7 ?_
          refine s_aload_n (pc := 148) (dc dl_X1_see 87 rfl) rfl rfl ?_
          refine s_iconst (pc := 149) (v := 0) (dc dl_X1_see 88 rfl) ic_0 ?_
          refine s_calll (pc := 150) (ρ := rh12) (rest := [.int 7, .ref (ad 35)]) hG (ss_HW_World_rh12) (calls_V (mi := mX1_see) (o := 36) (As := [.int 0]) (rest := [.int 7, .ref (ad 35)]) hG (dc dl_X1_see 89 rfl) mo_X9_thingsThatAre mv_X9_thingsThatAre ml_X1_144 ⟨Nat.le_of_ble_eq_true rfl, Nat.le_of_ble_eq_true rfl⟩ rfl rfl (Nat.le_of_ble_eq_true rfl) lk_HW_36 rfl) (cn_X9_thingsThatAre l G hG (fun i => ad (rh12 i)) 0) rfl rfl (fun r15 => ?_)
          refine s_calll (pc := 153) (ρ := rh0) (rest := [.int 7, .ref (ad 35)]) hG (ss_HW_E_rh0) (calls_S (mi := mX1_see) (As := [.int r15]) (rest := [.int 7, .ref (ad 35)]) hG (dc dl_X1_see 90 rfl) mo_J6_bitCount_0f7a4 ms_J6_bitCount_0f7a4 ml_X1_147 ⟨Nat.le_of_ble_eq_true rfl, Nat.le_of_ble_eq_true rfl⟩ rfl rfl (Nat.le_of_ble_eq_true rfl)) (cn_J6_bitCount_0f7a4 l G hG (fun i => ad (rh0 i)) r15) rfl rfl (fun r16 => ?_)
          refine s_iast (pc := 156) lk_HW_35 (dc dl_X1_see 91 rfl) ?_
          refine s_aload_n (pc := 157) (dc dl_X1_see 92 rfl) rfl rfl ?_
          refine s_getR (pc := 158) fl_X1_68 lk_HW_0 kk_HW_0_11 (dc dl_X1_see 93 rfl) ?_
          refine s_bipush (pc := 161) (v := 8) (dc dl_X1_see 94 rfl) bi_8 ?_
          refine s_aload_n (pc := 163) (dc dl_X1_see 95 rfl) rfl rfl ?_
          refine s_getI (pc := 164) fl_X1_152 lk_HW_36 kk_HW_36_2 (dc dl_X1_see 96 rfl) (fun v17 => ?_)
          refine s_iast (pc := 167) lk_HW_35 (dc dl_X1_see 97 rfl) ?_
          exact s_return (pc := 168) rfl (dc dl_X1_see 98 rfl)
        · refine s_icmp_ne (pc := 93) (tgt := 100) (dc dl_X1_see 56 rfl) rfl ?_ ?_
          · refine s_iconst (pc := 96) (v := 2) (dc dl_X1_see 57 rfl) ic_2 ?_
            refine s_goto (pc := 97) (tgt := 114) (dc dl_X1_see 58 rfl) rfl ?_
            exact s_wk (hj11 2) rfl
          · refine s_aload_n (pc := 100) (dc dl_X1_see 59 rfl) rfl rfl ?_
            refine s_getR (pc := 101) fl_X1_44 lk_HW_0 kk_HW_0_5 (dc dl_X1_see 60 rfl) ?_
            refine s_iload (pc := 104) (dc dl_X1_see 61 rfl) rfl ?_
            refine s_calll (pc := 106) (ρ := rh13) (rest := [.int 4, .ref (ad 35)]) hG (ss_HW_Lines_rh13) (calls_V (mi := mX1_see) (o := 20) (As := [.int v2]) (rest := [.int 4, .ref (ad 35)]) hG (dc dl_X1_see 62 rfl) mo_X5_friendsOf mv_X5_friendsOf ml_X1_135 ⟨Nat.le_of_ble_eq_true rfl, Nat.le_of_ble_eq_true rfl⟩ rfl rfl (Nat.le_of_ble_eq_true rfl) lk_HW_20 rfl) (cn_X5_friendsOf l G hG (fun i => ad (rh13 i)) v2) rfl rfl (fun r18 => ?_)
            refine s_iload (pc := 109) (dc dl_X1_see 63 rfl) rfl ?_
            refine s_iushr (pc := 111) (dc dl_X1_see 64 rfl) ?_
            refine s_iconst (pc := 112) (v := 1) (dc dl_X1_see 65 rfl) ic_1 ?_
            refine s_iand (pc := 113) (dc dl_X1_see 66 rfl) ?_
            exact s_wk (hj11 ((ish r18 v1) &&& 1)) rfl
def gX1_askLaw (x2 x3 x4 : Int32) : MM Int32 :=
  bd (lf rh12 13 (gX9_hasThing x3)) fun r1 =>
  jn (fun (a3 : Unit) =>
  pr 0) (fun j2 =>
  (if r1 = 0 then
  j2 ()
  else
  bd (lf rh12 13 (gX9_hasCloth x4)) fun r4 =>
  (if r4 = 0 then
  j2 ()
  else
  bd (gX1_see x3 x4) fun r5 =>
  bd (lf rh14 8 (gX2_lineFor x2)) fun r6 =>
  jn (fun (a8 : Int32) =>
  jn (fun (a10 : Int32) =>
  pr a10) (fun j9 =>
  (if x2 = 0 then
  bd (lf rh0 0 (gX1_held a8 1 9)) fun r12 =>
  j9 r12
  else
  bd (lf rh0 0 (gX1_held a8 0 1000)) fun r11 =>
  j9 r11))) (fun j7 =>
  (if r6 = ((-1)) then
  bd (gX1_customary x2) fun r14 =>
  j7 r14
  else
  bd (lf rh14 8 (gX2_told r6)) fun r13 =>
  j7 r13)))))
set_option maxHeartbeats 4000000 in
theorem cn_X1_askLaw (l : Launch) (G : Gl) (hG : gOk G) (ad : Nat → Nat) (x2 x3 x4 : Int32) : Cn l G mX1_askLaw 3 lay_HW ad [.ref (ad 0), .ref (ad 36), .int x2, .int x3, .int x4] (gX1_askLaw x2 x3 x4) := by
  refine cn_of (lv := [some (.ref (ad 0)), some (.ref (ad 36)), some (.int x2), some (.int x3), some (.int x4), none, none]) (by decide +kernel) rfl (Nat.le_of_ble_eq_true rfl) rfl ?_
  unfold gX1_askLaw
  refine s_aload_n (pc := 0) (dc dl_X1_askLaw 0 rfl) rfl rfl ?_
  refine s_iload_n (pc := 1) (dc dl_X1_askLaw 1 rfl) rfl rfl ?_
  refine s_calll (pc := 2) (ρ := rh12) (rest := []) hG (ss_HW_World_rh12) (calls_V (mi := mX1_askLaw) (o := 36) (As := [.int x3]) (rest := []) hG (dc dl_X1_askLaw 2 rfl) mo_X9_hasThing mv_X9_hasThing ml_X1_88 ⟨Nat.le_of_ble_eq_true rfl, Nat.le_of_ble_eq_true rfl⟩ rfl rfl (Nat.le_of_ble_eq_true rfl) lk_HW_36 rfl) (cn_X9_hasThing l G hG (fun i => ad (rh12 i)) x3) rfl rfl (fun r1 => ?_)
  refine s_jn (pj := 17) (fun a3 : Unit => [none, none, none, none, none, none, none]) (fun a3 : Unit => []) (fun a3 => ?_) (fun j2 hj2 => ?_)
  · refine s_iconst (pc := 17) (v := 0) (dc dl_X1_askLaw 8 rfl) ic_0 ?_
    exact s_ireturn (pc := 18) rfl (dc dl_X1_askLaw 9 rfl)
  · refine s_if_eq (pc := 5) (tgt := 17) (dc dl_X1_askLaw 3 rfl) rfl ?_ ?_
    · exact s_wk (hj2 ()) rfl
    · refine s_aload_n (pc := 8) (dc dl_X1_askLaw 4 rfl) rfl rfl ?_
      refine s_iload (pc := 9) (dc dl_X1_askLaw 5 rfl) rfl ?_
      refine s_calll (pc := 11) (ρ := rh12) (rest := []) hG (ss_HW_World_rh12) (calls_V (mi := mX1_askLaw) (o := 36) (As := [.int x4]) (rest := []) hG (dc dl_X1_askLaw 6 rfl) mo_X9_hasCloth mv_X9_hasCloth ml_X1_92 ⟨Nat.le_of_ble_eq_true rfl, Nat.le_of_ble_eq_true rfl⟩ rfl rfl (Nat.le_of_ble_eq_true rfl) lk_HW_36 rfl) (cn_X9_hasCloth l G hG (fun i => ad (rh12 i)) x4) rfl rfl (fun r4 => ?_)
      refine s_if_ne (pc := 14) (tgt := 19) (dc dl_X1_askLaw 7 rfl) rfl ?_ ?_
      · exact s_wk (hj2 ()) rfl
      · refine s_aload_n (pc := 19) (dc dl_X1_askLaw 10 rfl) rfl rfl ?_
        refine s_aload_n (pc := 20) (dc dl_X1_askLaw 11 rfl) rfl rfl ?_
        refine s_iload_n (pc := 21) (dc dl_X1_askLaw 12 rfl) rfl rfl ?_
        refine s_iload (pc := 22) (dc dl_X1_askLaw 13 rfl) rfl ?_
        refine s_callv (pc := 24) (rest := []) hG (calls_V (mi := mX1_askLaw) (o := 0) (As := [.ref (ad 36), .int x3, .int x4]) (rest := []) hG (dc dl_X1_askLaw 14 rfl) mo_X1_see mv_X1_see ml_X1_95 ⟨Nat.le_of_ble_eq_true rfl, Nat.le_of_ble_eq_true rfl⟩ rfl rfl (Nat.le_of_ble_eq_true rfl) lk_HW_0 rfl) (cn_X1_see l G hG ad x3 x4) rfl (fun r5 => ?_)
        refine s_aload_n (pc := 27) (dc dl_X1_askLaw 15 rfl) rfl rfl ?_
        refine s_getR (pc := 28) fl_X1_30 lk_HW_0 kk_HW_0_2 (dc dl_X1_askLaw 16 rfl) ?_
        refine s_iload_n (pc := 31) (dc dl_X1_askLaw 17 rfl) rfl rfl ?_
        refine s_aload_n (pc := 32) (dc dl_X1_askLaw 18 rfl) rfl rfl ?_
        refine s_getR (pc := 33) fl_X1_68 lk_HW_0 kk_HW_0_11 (dc dl_X1_askLaw 19 rfl) ?_
        refine s_calll (pc := 36) (ρ := rh14) (rest := []) hG (ss_HW_LawS_rh14) (calls_V (mi := mX1_askLaw) (o := 3) (As := [.int x2, .ref (ad 35)]) (rest := []) hG (dc dl_X1_askLaw 20 rfl) mo_X2_lineFor mv_X2_lineFor ml_X1_99 ⟨Nat.le_of_ble_eq_true rfl, Nat.le_of_ble_eq_true rfl⟩ rfl rfl (Nat.le_of_ble_eq_true rfl) lk_HW_3 rfl) (cn_X2_lineFor l G hG (fun i => ad (rh14 i)) x2) rfl rfl (fun r6 => ?_)
        refine s_istore (pc := 39) (lv' := [some (.ref (ad 0)), some (.ref (ad 36)), some (.int x2), some (.int x3), some (.int x4), some (.int r6), none]) (dc dl_X1_askLaw 21 rfl) (Nat.le_of_ble_eq_true rfl) rfl ?_
        refine s_iload (pc := 41) (dc dl_X1_askLaw 22 rfl) rfl ?_
        refine s_iconst (pc := 43) (v := (-1)) (dc dl_X1_askLaw 23 rfl) ic_m1 ?_
        refine s_jn (pj := 68) (fun a8 : Int32 => [none, none, some (.int x2), none, none, none, none]) (fun a8 : Int32 => [.int a8]) (fun a8 => ?_) (fun j7 hj7 => ?_)
        · refine s_istore (pc := 68) (lv' := [none, none, some (.int x2), none, none, none, some (.int a8)]) (dc dl_X1_askLaw 35 rfl) (Nat.le_of_ble_eq_true rfl) rfl ?_
          refine s_iload_n (pc := 70) (dc dl_X1_askLaw 36 rfl) rfl rfl ?_
          refine s_jn (pj := 94) (fun a10 : Int32 => [none, none, none, none, none, none, none]) (fun a10 : Int32 => [.int a10]) (fun a10 => ?_) (fun j9 hj9 => ?_)
          · exact s_ireturn (pc := 94) rfl (dc dl_X1_askLaw 47 rfl)
          · refine s_if_ne (pc := 71) (tgt := 85) (dc dl_X1_askLaw 37 rfl) rfl ?_ ?_
            · refine s_iload (pc := 74) (dc dl_X1_askLaw 38 rfl) rfl ?_
              refine s_iconst (pc := 76) (v := 1) (dc dl_X1_askLaw 39 rfl) ic_1 ?_
              refine s_bipush (pc := 77) (v := 9) (dc dl_X1_askLaw 40 rfl) bi_9 ?_
              refine s_calll (pc := 79) (ρ := rh0) (rest := []) hG (ss_HW_E_rh0) (calls_S (mi := mX1_askLaw) (As := [.int a8, .int 1, .int 9]) (rest := []) hG (dc dl_X1_askLaw 41 rfl) mo_X1_held ms_X1_held ml_X1_110 ⟨Nat.le_of_ble_eq_true rfl, Nat.le_of_ble_eq_true rfl⟩ rfl rfl (Nat.le_of_ble_eq_true rfl)) (cn_X1_held l G hG (fun i => ad (rh0 i)) a8 1 9) rfl rfl (fun r12 => ?_)
              refine s_goto (pc := 82) (tgt := 94) (dc dl_X1_askLaw 42 rfl) rfl ?_
              exact s_wk (hj9 r12) rfl
            · refine s_iload (pc := 85) (dc dl_X1_askLaw 43 rfl) rfl ?_
              refine s_iconst (pc := 87) (v := 0) (dc dl_X1_askLaw 44 rfl) ic_0 ?_
              refine s_sipush (pc := 88) (v := 1000) (dc dl_X1_askLaw 45 rfl) si_1000 ?_
              refine s_calll (pc := 91) (ρ := rh0) (rest := []) hG (ss_HW_E_rh0) (calls_S (mi := mX1_askLaw) (As := [.int a8, .int 0, .int 1000]) (rest := []) hG (dc dl_X1_askLaw 46 rfl) mo_X1_held ms_X1_held ml_X1_110 ⟨Nat.le_of_ble_eq_true rfl, Nat.le_of_ble_eq_true rfl⟩ rfl rfl (Nat.le_of_ble_eq_true rfl)) (cn_X1_held l G hG (fun i => ad (rh0 i)) a8 0 1000) rfl rfl (fun r11 => ?_)
              exact s_wk (hj9 r11) rfl
        · refine s_icmp_ne (pc := 44) (tgt := 55) (dc dl_X1_askLaw 24 rfl) rfl ?_ ?_
          · refine s_aload_n (pc := 47) (dc dl_X1_askLaw 25 rfl) rfl rfl ?_
            refine s_iload_n (pc := 48) (dc dl_X1_askLaw 26 rfl) rfl rfl ?_
            refine s_call (pc := 49) (rest := []) hG (calls_V (mi := mX1_askLaw) (o := 0) (As := [.int x2]) (rest := []) hG (dc dl_X1_askLaw 27 rfl) mo_X1_customary mv_X1_customary ml_X1_103 ⟨Nat.le_of_ble_eq_true rfl, Nat.le_of_ble_eq_true rfl⟩ rfl rfl (Nat.le_of_ble_eq_true rfl) lk_HW_0 rfl) (cn_X1_customary l G hG ad x2) rfl (fun r14 => ?_)
            refine s_goto (pc := 52) (tgt := 68) (dc dl_X1_askLaw 28 rfl) rfl ?_
            exact s_wk (hj7 r14) rfl
          · refine s_aload_n (pc := 55) (dc dl_X1_askLaw 29 rfl) rfl rfl ?_
            refine s_getR (pc := 56) fl_X1_30 lk_HW_0 kk_HW_0_2 (dc dl_X1_askLaw 30 rfl) ?_
            refine s_iload (pc := 59) (dc dl_X1_askLaw 31 rfl) rfl ?_
            refine s_aload_n (pc := 61) (dc dl_X1_askLaw 32 rfl) rfl rfl ?_
            refine s_getR (pc := 62) fl_X1_68 lk_HW_0 kk_HW_0_11 (dc dl_X1_askLaw 33 rfl) ?_
            refine s_calll (pc := 65) (ρ := rh14) (rest := []) hG (ss_HW_LawS_rh14) (calls_V (mi := mX1_askLaw) (o := 3) (As := [.int r6, .ref (ad 35)]) (rest := []) hG (dc dl_X1_askLaw 34 rfl) mo_X2_told mv_X2_told ml_X1_107 ⟨Nat.le_of_ble_eq_true rfl, Nat.le_of_ble_eq_true rfl⟩ rfl rfl (Nat.le_of_ble_eq_true rfl) lk_HW_3 rfl) (cn_X2_told l G hG (fun i => ad (rh14 i)) r6) rfl rfl (fun r13 => ?_)
            exact s_wk (hj7 r13) rfl
def gX1_pull (x2 : Int32) : MM Int32 :=
  bd (la 42 x2) fun v1 =>
  bd (lf rh12 13 (gX9_knotAt x2 (v1 - 1))) fun r2 =>
  bd (lf rh12 13 (gX9_hasThing r2)) fun r3 =>
  (if r3 = 0 then
  pr 0
  else
  bd (la 47 r2) fun v4 =>
  bd (sa 47 r2 (v4 - 1)) fun _ =>
  bd (la 47 r2) fun v5 =>
  jn (fun (a7 : Unit) =>
  pr 0) (fun j6 =>
  (if 0 < v5 then
  j6 ()
  else
  bd (lf rh12 13 (gX9_untie r2)) fun r8 =>
  bd (lf rh15 15 (gX0_write 4 r2 x2)) fun r9 =>
  j6 ())))
set_option maxHeartbeats 4000000 in
theorem cn_X1_pull (l : Launch) (G : Gl) (hG : gOk G) (ad : Nat → Nat) (x2 : Int32) : Cn l G mX1_pull 2 lay_HW ad [.ref (ad 0), .ref (ad 36), .int x2] (gX1_pull x2) := by
  refine cn_of (lv := [some (.ref (ad 0)), some (.ref (ad 36)), some (.int x2), none]) (by decide +kernel) rfl (Nat.le_of_ble_eq_true rfl) rfl ?_
  unfold gX1_pull
  refine s_aload_n (pc := 0) (dc dl_X1_pull 0 rfl) rfl rfl ?_
  refine s_iload_n (pc := 1) (dc dl_X1_pull 1 rfl) rfl rfl ?_
  refine s_aload_n (pc := 2) (dc dl_X1_pull 2 rfl) rfl rfl ?_
  refine s_getR (pc := 3) fl_X1_132 lk_HW_36 kk_HW_36_12 (dc dl_X1_pull 3 rfl) ?_
  refine s_iload_n (pc := 6) (dc dl_X1_pull 4 rfl) rfl rfl ?_
  refine s_iald (pc := 7) lk_HW_42 (dc dl_X1_pull 5 rfl) (fun v1 => ?_)
  refine s_iconst (pc := 8) (v := 1) (dc dl_X1_pull 6 rfl) ic_1 ?_
  refine s_isub (pc := 9) (dc dl_X1_pull 7 rfl) ?_
  refine s_calll (pc := 10) (ρ := rh12) (rest := []) hG (ss_HW_World_rh12) (calls_V (mi := mX1_pull) (o := 36) (As := [.int x2, .int (v1 - 1)]) (rest := []) hG (dc dl_X1_pull 8 rfl) mo_X9_knotAt mv_X9_knotAt ml_X1_191 ⟨Nat.le_of_ble_eq_true rfl, Nat.le_of_ble_eq_true rfl⟩ rfl rfl (Nat.le_of_ble_eq_true rfl) lk_HW_36 rfl) (cn_X9_knotAt l G hG (fun i => ad (rh12 i)) x2 (v1 - 1)) rfl rfl (fun r2 => ?_)
  refine s_istore_n (pc := 13) (lv' := [some (.ref (ad 0)), some (.ref (ad 36)), some (.int x2), some (.int r2)]) (dc dl_X1_pull 9 rfl) rfl (Nat.le_of_ble_eq_true rfl) rfl ?_
  refine s_aload_n (pc := 14) (dc dl_X1_pull 10 rfl) rfl rfl ?_
  refine s_iload_n (pc := 15) (dc dl_X1_pull 11 rfl) rfl rfl ?_
  refine s_calll (pc := 16) (ρ := rh12) (rest := []) hG (ss_HW_World_rh12) (calls_V (mi := mX1_pull) (o := 36) (As := [.int r2]) (rest := []) hG (dc dl_X1_pull 12 rfl) mo_X9_hasThing mv_X9_hasThing ml_X1_88 ⟨Nat.le_of_ble_eq_true rfl, Nat.le_of_ble_eq_true rfl⟩ rfl rfl (Nat.le_of_ble_eq_true rfl) lk_HW_36 rfl) (cn_X9_hasThing l G hG (fun i => ad (rh12 i)) r2) rfl rfl (fun r3 => ?_)
  refine s_if_ne (pc := 19) (tgt := 23) (dc dl_X1_pull 13 rfl) rfl ?_ ?_
  · exact s_return (pc := 22) rfl (dc dl_X1_pull 14 rfl)
  · refine s_aload_n (pc := 23) (dc dl_X1_pull 15 rfl) rfl rfl ?_
    refine s_getR (pc := 24) fl_X1_126 lk_HW_36 kk_HW_36_17 (dc dl_X1_pull 16 rfl) ?_
    refine s_iload_n (pc := 27) (dc dl_X1_pull 17 rfl) rfl rfl ?_
    refine s_dup2 (pc := 28) (dc dl_X1_pull 18 rfl) rfl rfl ?_
    refine s_iald (pc := 29) lk_HW_47 (dc dl_X1_pull 19 rfl) (fun v4 => ?_)
    refine s_iconst (pc := 30) (v := 1) (dc dl_X1_pull 20 rfl) ic_1 ?_
    refine s_isub (pc := 31) (dc dl_X1_pull 21 rfl) ?_
    refine s_iast (pc := 32) lk_HW_47 (dc dl_X1_pull 22 rfl) ?_
    refine s_aload_n (pc := 33) (dc dl_X1_pull 23 rfl) rfl rfl ?_
    refine s_getR (pc := 34) fl_X1_126 lk_HW_36 kk_HW_36_17 (dc dl_X1_pull 24 rfl) ?_
    refine s_iload_n (pc := 37) (dc dl_X1_pull 25 rfl) rfl rfl ?_
    refine s_iald (pc := 38) lk_HW_47 (dc dl_X1_pull 26 rfl) (fun v5 => ?_)
    refine s_jn (pj := 58) (fun a7 : Unit => [none, none, none, none]) (fun a7 : Unit => []) (fun a7 => ?_) (fun j6 hj6 => ?_)
    · exact s_return (pc := 58) rfl (dc dl_X1_pull 38 rfl)
    · refine s_if_gt (pc := 39) (tgt := 58) (dc dl_X1_pull 27 rfl) rfl ?_ ?_
      · exact s_wk (hj6 ()) rfl
      · refine s_aload_n (pc := 42) (dc dl_X1_pull 28 rfl) rfl rfl ?_
        refine s_iload_n (pc := 43) (dc dl_X1_pull 29 rfl) rfl rfl ?_
        refine s_calllv (pc := 44) (ρ := rh12) (rest := []) hG (ss_HW_World_rh12) (calls_V (mi := mX1_pull) (o := 36) (As := [.int r2]) (rest := []) hG (dc dl_X1_pull 30 rfl) mo_X9_untie mv_X9_untie ml_X1_197 ⟨Nat.le_of_ble_eq_true rfl, Nat.le_of_ble_eq_true rfl⟩ rfl rfl (Nat.le_of_ble_eq_true rfl) lk_HW_36 rfl) (cn_X9_untie l G hG (fun i => ad (rh12 i)) r2) rfl rfl (fun r8 => ?_)
        refine s_aload_n (pc := 47) (dc dl_X1_pull 31 rfl) rfl rfl ?_
        refine s_getR (pc := 48) fl_X1_23 lk_HW_0 kk_HW_0_1 (dc dl_X1_pull 32 rfl) ?_
        refine s_aload_n (pc := 51) (dc dl_X1_pull 33 rfl) rfl rfl ?_
        refine s_iconst (pc := 52) (v := 4) (dc dl_X1_pull 34 rfl) ic_4 ?_
        refine s_iload_n (pc := 53) (dc dl_X1_pull 35 rfl) rfl rfl ?_
        refine s_iload_n (pc := 54) (dc dl_X1_pull 36 rfl) rfl rfl ?_
        refine s_calllv (pc := 55) (ρ := rh15) (rest := []) hG (ss_HW_BookW_rh15) (calls_V (mi := mX1_pull) (o := 1) (As := [.ref (ad 36), .int 4, .int r2, .int x2]) (rest := []) hG (dc dl_X1_pull 37 rfl) mo_X0_write mv_X0_write ml_X1_187 ⟨Nat.le_of_ble_eq_true rfl, Nat.le_of_ble_eq_true rfl⟩ rfl rfl (Nat.le_of_ble_eq_true rfl) lk_HW_1 rfl) (cn_X0_write l G hG (fun i => ad (rh15 i)) 4 r2 x2) rfl rfl (fun r9 => ?_)
        exact s_wk (hj6 ()) rfl
def gX1_tie (x2 x3 : Int32) : MM Int32 :=
  bd (gX1_askLaw 0 x2 x3) fun r1 =>
  bd (lf rh12 13 (gX9_addKnot x2 x3 r1)) fun r2 =>
  bd (lf rh15 15 (gX0_write 0 x2 r1)) fun r3 =>
  pr 0
set_option maxHeartbeats 4000000 in
theorem cn_X1_tie (l : Launch) (G : Gl) (hG : gOk G) (ad : Nat → Nat) (x2 x3 : Int32) : Cn l G mX1_tie 4 lay_HW ad [.ref (ad 0), .ref (ad 36), .int x2, .int x3] (gX1_tie x2 x3) := by
  refine cn_of (lv := [some (.ref (ad 0)), some (.ref (ad 36)), some (.int x2), some (.int x3), none]) (by decide +kernel) rfl (Nat.le_of_ble_eq_true rfl) rfl ?_
  unfold gX1_tie
  refine s_aload_n (pc := 0) (dc dl_X1_tie 0 rfl) rfl rfl ?_
  refine s_aload_n (pc := 1) (dc dl_X1_tie 1 rfl) rfl rfl ?_
  refine s_iconst (pc := 2) (v := 0) (dc dl_X1_tie 2 rfl) ic_0 ?_
  refine s_iload_n (pc := 3) (dc dl_X1_tie 3 rfl) rfl rfl ?_
  refine s_iload_n (pc := 4) (dc dl_X1_tie 4 rfl) rfl rfl ?_
  refine s_call (pc := 5) (rest := []) hG (calls_V (mi := mX1_tie) (o := 0) (As := [.ref (ad 36), .int 0, .int x2, .int x3]) (rest := []) hG (dc dl_X1_tie 5 rfl) mo_X1_askLaw mv_X1_askLaw ml_X1_179 ⟨Nat.le_of_ble_eq_true rfl, Nat.le_of_ble_eq_true rfl⟩ rfl rfl (Nat.le_of_ble_eq_true rfl) lk_HW_0 rfl) (cn_X1_askLaw l G hG ad 0 x2 x3) rfl (fun r1 => ?_)
  refine s_istore (pc := 8) (lv' := [some (.ref (ad 0)), some (.ref (ad 36)), some (.int x2), some (.int x3), some (.int r1)]) (dc dl_X1_tie 6 rfl) (Nat.le_of_ble_eq_true rfl) rfl ?_
  refine s_aload_n (pc := 10) (dc dl_X1_tie 7 rfl) rfl rfl ?_
  refine s_iload_n (pc := 11) (dc dl_X1_tie 8 rfl) rfl rfl ?_
  refine s_iload_n (pc := 12) (dc dl_X1_tie 9 rfl) rfl rfl ?_
  refine s_iload (pc := 13) (dc dl_X1_tie 10 rfl) rfl ?_
  refine s_calllv (pc := 15) (ρ := rh12) (rest := []) hG (ss_HW_World_rh12) (calls_V (mi := mX1_tie) (o := 36) (As := [.int x2, .int x3, .int r1]) (rest := []) hG (dc dl_X1_tie 11 rfl) mo_X9_addKnot mv_X9_addKnot ml_X1_183 ⟨Nat.le_of_ble_eq_true rfl, Nat.le_of_ble_eq_true rfl⟩ rfl rfl (Nat.le_of_ble_eq_true rfl) lk_HW_36 rfl) (cn_X9_addKnot l G hG (fun i => ad (rh12 i)) x2 x3 r1) rfl rfl (fun r2 => ?_)
  refine s_aload_n (pc := 18) (dc dl_X1_tie 12 rfl) rfl rfl ?_
  refine s_getR (pc := 19) fl_X1_23 lk_HW_0 kk_HW_0_1 (dc dl_X1_tie 13 rfl) ?_
  refine s_aload_n (pc := 22) (dc dl_X1_tie 14 rfl) rfl rfl ?_
  refine s_iconst (pc := 23) (v := 0) (dc dl_X1_tie 15 rfl) ic_0 ?_
  refine s_iload_n (pc := 24) (dc dl_X1_tie 16 rfl) rfl rfl ?_
  refine s_iload (pc := 25) (dc dl_X1_tie 17 rfl) rfl ?_
  refine s_calllv (pc := 27) (ρ := rh15) (rest := []) hG (ss_HW_BookW_rh15) (calls_V (mi := mX1_tie) (o := 1) (As := [.ref (ad 36), .int 0, .int x2, .int r1]) (rest := []) hG (dc dl_X1_tie 18 rfl) mo_X0_write mv_X0_write ml_X1_187 ⟨Nat.le_of_ble_eq_true rfl, Nat.le_of_ble_eq_true rfl⟩ rfl rfl (Nat.le_of_ble_eq_true rfl) lk_HW_1 rfl) (cn_X0_write l G hG (fun i => ad (rh15 i)) 0 x2 r1) rfl rfl (fun r3 => ?_)
  exact s_return (pc := 30) rfl (dc dl_X1_tie 19 rfl)
def gX1_wash (x2 : Int32) : MM Int32 :=
  bd (la 41 x2) fun v1 =>
  bd (lf rh0 0 (gJ9_min_7cf53 99 (v1 + 1))) fun r2 =>
  bd (sa 41 x2 r2) fun _ =>
  bd (la 42 x2) fun v3 =>
  loopC 100000 (fun (self4 : (Int32 × Int32) → MM Int32) (s5 : Int32 × Int32) =>
  (if s5.2 ≤ 0 then
  pr 0
  else
  bd (lf rh12 13 (gX9_knotAt x2 s5.1)) fun r6 =>
  bd (gX1_askLaw 1 r6 x2) fun r7 =>
  bd (lf rh12 13 (gX9_happens r7)) fun r8 =>
  jn (fun (a10 : Int32) =>
  lt (s5.2 + (-1)) fun y11 =>
  self4 (a10, y11)) (fun j9 =>
  (if r8 = 0 then
  lt (s5.1 + 1) fun y12 =>
  j9 y12
  else
  bd (lf rh12 13 (gX9_untie r6)) fun r13 =>
  bd (lf rh15 15 (gX0_write 1 r6 x2)) fun r14 =>
  j9 s5.1)))) (0, v3)
set_option maxHeartbeats 4000000 in
theorem cn_X1_wash (l : Launch) (G : Gl) (hG : gOk G) (ad : Nat → Nat) (x2 : Int32) : Cn l G mX1_wash 4 lay_HW ad [.ref (ad 0), .ref (ad 36), .int x2] (gX1_wash x2) := by
  refine cn_of (lv := [some (.ref (ad 0)), some (.ref (ad 36)), some (.int x2), none, none, none]) (by decide +kernel) rfl (Nat.le_of_ble_eq_true rfl) rfl ?_
  unfold gX1_wash
  refine s_aload_n (pc := 0) (dc dl_X1_wash 0 rfl) rfl rfl ?_
  refine s_getR (pc := 1) fl_X1_129 lk_HW_36 kk_HW_36_11 (dc dl_X1_wash 1 rfl) ?_
  refine s_iload_n (pc := 4) (dc dl_X1_wash 2 rfl) rfl rfl ?_
  refine s_bipush (pc := 5) (v := 99) (dc dl_X1_wash 3 rfl) bi_99 ?_
  refine s_aload_n (pc := 7) (dc dl_X1_wash 4 rfl) rfl rfl ?_
  refine s_getR (pc := 8) fl_X1_129 lk_HW_36 kk_HW_36_11 (dc dl_X1_wash 5 rfl) ?_
  refine s_iload_n (pc := 11) (dc dl_X1_wash 6 rfl) rfl rfl ?_
  refine s_iald (pc := 12) lk_HW_41 (dc dl_X1_wash 7 rfl) (fun v1 => ?_)
  refine s_iconst (pc := 13) (v := 1) (dc dl_X1_wash 8 rfl) ic_1 ?_
  refine s_iadd (pc := 14) (dc dl_X1_wash 9 rfl) ?_
  refine s_calll (pc := 15) (ρ := rh0) (rest := [.int x2, .ref (ad 41)]) hG (ss_HW_E_rh0) (calls_S (mi := mX1_wash) (As := [.int 99, .int (v1 + 1)]) (rest := [.int x2, .ref (ad 41)]) hG (dc dl_X1_wash 10 rfl) mo_J9_min_7cf53 ms_J9_min_7cf53 ml_X1_156 ⟨Nat.le_of_ble_eq_true rfl, Nat.le_of_ble_eq_true rfl⟩ rfl rfl (Nat.le_of_ble_eq_true rfl)) (cn_J9_min_7cf53 l G hG (fun i => ad (rh0 i)) 99 (v1 + 1)) rfl rfl (fun r2 => ?_)
  refine s_iast (pc := 18) lk_HW_41 (dc dl_X1_wash 11 rfl) ?_
  refine s_iconst (pc := 19) (v := 0) (dc dl_X1_wash 12 rfl) ic_0 ?_
  refine s_istore_n (pc := 20) (lv' := [some (.ref (ad 0)), some (.ref (ad 36)), some (.int x2), some (.int 0), none, none]) (dc dl_X1_wash 13 rfl) rfl (Nat.le_of_ble_eq_true rfl) rfl ?_
  refine s_aload_n (pc := 21) (dc dl_X1_wash 14 rfl) rfl rfl ?_
  refine s_getR (pc := 22) fl_X1_132 lk_HW_36 kk_HW_36_12 (dc dl_X1_wash 15 rfl) ?_
  refine s_iload_n (pc := 25) (dc dl_X1_wash 16 rfl) rfl rfl ?_
  refine s_iald (pc := 26) lk_HW_42 (dc dl_X1_wash 17 rfl) (fun v3 => ?_)
  refine s_istore (pc := 27) (lv' := [some (.ref (ad 0)), some (.ref (ad 36)), some (.int x2), some (.int 0), some (.int v3), none]) (dc dl_X1_wash 18 rfl) (Nat.le_of_ble_eq_true rfl) rfl ?_
  refine s_weak (lv' := [some (.ref (ad 0)), some (.ref (ad 36)), some (.int x2), some (.int 0), some (.int v3), none]) rfl ?_
  refine s_loop (pc := 29) (fun s5 : Int32 × Int32 => [some (.ref (ad 0)), some (.ref (ad 36)), some (.int x2), some (.int s5.1), some (.int s5.2), none]) [] (fun self4 hself4 s5 => ?_) _ (0, v3)
  refine s_iload (pc := 29) (dc dl_X1_wash 19 rfl) rfl ?_
  refine s_if_le (pc := 31) (tgt := 88) (dc dl_X1_wash 20 rfl) rfl ?_ ?_
  · exact s_return (pc := 88) rfl (dc dl_X1_wash 49 rfl)
  · refine s_aload_n (pc := 34) (dc dl_X1_wash 21 rfl) rfl rfl ?_
    refine s_iload_n (pc := 35) (dc dl_X1_wash 22 rfl) rfl rfl ?_
    refine s_iload_n (pc := 36) (dc dl_X1_wash 23 rfl) rfl rfl ?_
    refine s_calll (pc := 37) (ρ := rh12) (rest := []) hG (ss_HW_World_rh12) (calls_V (mi := mX1_wash) (o := 36) (As := [.int x2, .int s5.1]) (rest := []) hG (dc dl_X1_wash 24 rfl) mo_X9_knotAt mv_X9_knotAt ml_X1_191 ⟨Nat.le_of_ble_eq_true rfl, Nat.le_of_ble_eq_true rfl⟩ rfl rfl (Nat.le_of_ble_eq_true rfl) lk_HW_36 rfl) (cn_X9_knotAt l G hG (fun i => ad (rh12 i)) x2 s5.1) rfl rfl (fun r6 => ?_)
    refine s_istore (pc := 40) (lv' := [some (.ref (ad 0)), some (.ref (ad 36)), some (.int x2), some (.int s5.1), some (.int s5.2), some (.int r6)]) (dc dl_X1_wash 25 rfl) (Nat.le_of_ble_eq_true rfl) rfl ?_
    refine s_aload_n (pc := 42) (dc dl_X1_wash 26 rfl) rfl rfl ?_
    refine s_aload_n (pc := 43) (dc dl_X1_wash 27 rfl) rfl rfl ?_
    refine s_aload_n (pc := 44) (dc dl_X1_wash 28 rfl) rfl rfl ?_
    refine s_iconst (pc := 45) (v := 1) (dc dl_X1_wash 29 rfl) ic_1 ?_
    refine s_iload (pc := 46) (dc dl_X1_wash 30 rfl) rfl ?_
    refine s_iload_n (pc := 48) (dc dl_X1_wash 31 rfl) rfl rfl ?_
    refine s_call (pc := 49) (rest := [.ref (ad 36)]) hG (calls_V (mi := mX1_wash) (o := 0) (As := [.ref (ad 36), .int 1, .int r6, .int x2]) (rest := [.ref (ad 36)]) hG (dc dl_X1_wash 32 rfl) mo_X1_askLaw mv_X1_askLaw ml_X1_179 ⟨Nat.le_of_ble_eq_true rfl, Nat.le_of_ble_eq_true rfl⟩ rfl rfl (Nat.le_of_ble_eq_true rfl) lk_HW_0 rfl) (cn_X1_askLaw l G hG ad 1 r6 x2) rfl (fun r7 => ?_)
    refine s_calll (pc := 52) (ρ := rh12) (rest := []) hG (ss_HW_World_rh12) (calls_V (mi := mX1_wash) (o := 36) (As := [.int r7]) (rest := []) hG (dc dl_X1_wash 33 rfl) mo_X9_happens mv_X9_happens ml_X1_194 ⟨Nat.le_of_ble_eq_true rfl, Nat.le_of_ble_eq_true rfl⟩ rfl rfl (Nat.le_of_ble_eq_true rfl) lk_HW_36 rfl) (cn_X9_happens l G hG (fun i => ad (rh12 i)) r7) rfl rfl (fun r8 => ?_)
    refine s_jn (pj := 82) (fun a10 : Int32 => [some (.ref (ad 0)), some (.ref (ad 36)), some (.int x2), some (.int a10), some (.int s5.2), none]) (fun a10 : Int32 => []) (fun a10 => ?_) (fun j9 hj9 => ?_)
    · refine s_iincL (pc := 82) (lf' := fun y11 => [some (.ref (ad 0)), some (.ref (ad 36)), some (.int x2), some (.int a10), some (.int y11), none]) (dc dl_X1_wash 47 rfl) rfl rfl (Nat.le_of_ble_eq_true rfl) (fun _ => rfl) (fun y11 => ?_)
      refine s_goto (pc := 85) (tgt := 29) (dc dl_X1_wash 48 rfl) rfl ?_
      exact s_wk (hself4 (a10, y11)) rfl
    · refine s_if_eq (pc := 55) (tgt := 79) (dc dl_X1_wash 34 rfl) rfl ?_ ?_
      · refine s_iincL (pc := 79) (lf' := fun y12 => [some (.ref (ad 0)), some (.ref (ad 36)), some (.int x2), some (.int y12), some (.int s5.2), some (.int r6)]) (dc dl_X1_wash 46 rfl) rfl rfl (Nat.le_of_ble_eq_true rfl) (fun _ => rfl) (fun y12 => ?_)
        exact s_wk (hj9 y12) rfl
      · refine s_aload_n (pc := 58) (dc dl_X1_wash 35 rfl) rfl rfl ?_
        refine s_iload (pc := 59) (dc dl_X1_wash 36 rfl) rfl ?_
        refine s_calllv (pc := 61) (ρ := rh12) (rest := []) hG (ss_HW_World_rh12) (calls_V (mi := mX1_wash) (o := 36) (As := [.int r6]) (rest := []) hG (dc dl_X1_wash 37 rfl) mo_X9_untie mv_X9_untie ml_X1_197 ⟨Nat.le_of_ble_eq_true rfl, Nat.le_of_ble_eq_true rfl⟩ rfl rfl (Nat.le_of_ble_eq_true rfl) lk_HW_36 rfl) (cn_X9_untie l G hG (fun i => ad (rh12 i)) r6) rfl rfl (fun r13 => ?_)
        refine s_aload_n (pc := 64) (dc dl_X1_wash 38 rfl) rfl rfl ?_
        refine s_getR (pc := 65) fl_X1_23 lk_HW_0 kk_HW_0_1 (dc dl_X1_wash 39 rfl) ?_
        refine s_aload_n (pc := 68) (dc dl_X1_wash 40 rfl) rfl rfl ?_
        refine s_iconst (pc := 69) (v := 1) (dc dl_X1_wash 41 rfl) ic_1 ?_
        refine s_iload (pc := 70) (dc dl_X1_wash 42 rfl) rfl ?_
        refine s_iload_n (pc := 72) (dc dl_X1_wash 43 rfl) rfl rfl ?_
        refine s_calllv (pc := 73) (ρ := rh15) (rest := []) hG (ss_HW_BookW_rh15) (calls_V (mi := mX1_wash) (o := 1) (As := [.ref (ad 36), .int 1, .int r6, .int x2]) (rest := []) hG (dc dl_X1_wash 44 rfl) mo_X0_write mv_X0_write ml_X1_187 ⟨Nat.le_of_ble_eq_true rfl, Nat.le_of_ble_eq_true rfl⟩ rfl rfl (Nat.le_of_ble_eq_true rfl) lk_HW_1 rfl) (cn_X0_write l G hG (fun i => ad (rh15 i)) 1 r6 x2) rfl rfl (fun r14 => ?_)
        refine s_goto (pc := 76) (tgt := 82) (dc dl_X1_wash 45 rfl) rfl ?_
        exact s_wk (hj9 s5.1) rfl
def gX1_doDeed (x2 x3 x4 : Int32) : MM Int32 :=
  bd (lf rh12 13 (gX9_canDo x2 x3 x4)) fun r1 =>
  (if r1 = 0 then
  pr 0
  else
  jn (fun (a3 : Unit) =>
  pr 0) (fun j2 =>
  swt x2 0 [bd (gX1_tie x3 x4) fun r4 =>
  j2 (),
  bd (sa 40 x3 x4) fun _ =>
  j2 (),
  bd (gX1_wash x3) fun r5 =>
  j2 (),
  bd (gX1_pull x3) fun r6 =>
  j2 ()]
  (j2 ())))
set_option maxHeartbeats 4000000 in
theorem cn_X1_doDeed (l : Launch) (G : Gl) (hG : gOk G) (ad : Nat → Nat) (x2 x3 x4 : Int32) : Cn l G mX1_doDeed 5 lay_HW ad [.ref (ad 0), .ref (ad 36), .int x2, .int x3, .int x4] (gX1_doDeed x2 x3 x4) := by
  refine cn_of (lv := [some (.ref (ad 0)), some (.ref (ad 36)), some (.int x2), some (.int x3), some (.int x4)]) (by decide +kernel) rfl (Nat.le_of_ble_eq_true rfl) rfl ?_
  unfold gX1_doDeed
  refine s_aload_n (pc := 0) (dc dl_X1_doDeed 0 rfl) rfl rfl ?_
  refine s_iload_n (pc := 1) (dc dl_X1_doDeed 1 rfl) rfl rfl ?_
  refine s_iload_n (pc := 2) (dc dl_X1_doDeed 2 rfl) rfl rfl ?_
  refine s_iload (pc := 3) (dc dl_X1_doDeed 3 rfl) rfl ?_
  refine s_calll (pc := 5) (ρ := rh12) (rest := []) hG (ss_HW_World_rh12) (calls_V (mi := mX1_doDeed) (o := 36) (As := [.int x2, .int x3, .int x4]) (rest := []) hG (dc dl_X1_doDeed 4 rfl) mo_X9_canDo mv_X9_canDo ml_X1_165 ⟨Nat.le_of_ble_eq_true rfl, Nat.le_of_ble_eq_true rfl⟩ rfl rfl (Nat.le_of_ble_eq_true rfl) lk_HW_36 rfl) (cn_X9_canDo l G hG (fun i => ad (rh12 i)) x2 x3 x4) rfl rfl (fun r1 => ?_)
  refine s_if_ne (pc := 8) (tgt := 12) (dc dl_X1_doDeed 5 rfl) rfl ?_ ?_
  · exact s_return (pc := 11) rfl (dc dl_X1_doDeed 6 rfl)
  · refine s_iload_n (pc := 12) (dc dl_X1_doDeed 7 rfl) rfl rfl ?_
    refine s_jn (pj := 84) (fun a3 : Unit => [none, none, none, none, none]) (fun a3 : Unit => []) (fun a3 => ?_) (fun j2 hj2 => ?_)
    · exact s_return (pc := 84) rfl (dc dl_X1_doDeed 31 rfl)
    · refine s_table (pc := 13) (offs := [31, 42, 53, 62]) (tgt := 84) (dc dl_X1_doDeed 8 rfl) (by decide) (by decide) ?_ ⟨⟨44, by decide, ?_⟩, ⟨55, by decide, ?_⟩, ⟨66, by decide, ?_⟩, ⟨75, by decide, ?_⟩, trivial⟩
      · exact s_wk (hj2 ()) rfl
      · refine s_aload_n (pc := 44) (dc dl_X1_doDeed 9 rfl) rfl rfl ?_
        refine s_aload_n (pc := 45) (dc dl_X1_doDeed 10 rfl) rfl rfl ?_
        refine s_iload_n (pc := 46) (dc dl_X1_doDeed 11 rfl) rfl rfl ?_
        refine s_iload (pc := 47) (dc dl_X1_doDeed 12 rfl) rfl ?_
        refine s_callv (pc := 49) (rest := []) hG (calls_V (mi := mX1_doDeed) (o := 0) (As := [.ref (ad 36), .int x3, .int x4]) (rest := []) hG (dc dl_X1_doDeed 13 rfl) mo_X1_tie mv_X1_tie ml_X1_169 ⟨Nat.le_of_ble_eq_true rfl, Nat.le_of_ble_eq_true rfl⟩ rfl rfl (Nat.le_of_ble_eq_true rfl) lk_HW_0 rfl) (cn_X1_tie l G hG ad x3 x4) rfl (fun r4 => ?_)
        refine s_goto (pc := 52) (tgt := 84) (dc dl_X1_doDeed 14 rfl) rfl ?_
        exact s_wk (hj2 ()) rfl
      · refine s_aload_n (pc := 55) (dc dl_X1_doDeed 15 rfl) rfl rfl ?_
        refine s_getR (pc := 56) fl_X1_114 lk_HW_36 kk_HW_36_10 (dc dl_X1_doDeed 16 rfl) ?_
        refine s_iload_n (pc := 59) (dc dl_X1_doDeed 17 rfl) rfl rfl ?_
        refine s_iload (pc := 60) (dc dl_X1_doDeed 18 rfl) rfl ?_
        refine s_iast (pc := 62) lk_HW_40 (dc dl_X1_doDeed 19 rfl) ?_
        refine s_goto (pc := 63) (tgt := 84) (dc dl_X1_doDeed 20 rfl) rfl ?_
        exact s_wk (hj2 ()) rfl
      · refine s_aload_n (pc := 66) (dc dl_X1_doDeed 21 rfl) rfl rfl ?_
        refine s_aload_n (pc := 67) (dc dl_X1_doDeed 22 rfl) rfl rfl ?_
        refine s_iload_n (pc := 68) (dc dl_X1_doDeed 23 rfl) rfl rfl ?_
        refine s_callv (pc := 69) (rest := []) hG (calls_V (mi := mX1_doDeed) (o := 0) (As := [.ref (ad 36), .int x3]) (rest := []) hG (dc dl_X1_doDeed 24 rfl) mo_X1_wash mv_X1_wash ml_X1_172 ⟨Nat.le_of_ble_eq_true rfl, Nat.le_of_ble_eq_true rfl⟩ rfl rfl (Nat.le_of_ble_eq_true rfl) lk_HW_0 rfl) (cn_X1_wash l G hG ad x3) rfl (fun r5 => ?_)
        refine s_goto (pc := 72) (tgt := 84) (dc dl_X1_doDeed 25 rfl) rfl ?_
        exact s_wk (hj2 ()) rfl
      · refine s_aload_n (pc := 75) (dc dl_X1_doDeed 26 rfl) rfl rfl ?_
        refine s_aload_n (pc := 76) (dc dl_X1_doDeed 27 rfl) rfl rfl ?_
        refine s_iload_n (pc := 77) (dc dl_X1_doDeed 28 rfl) rfl rfl ?_
        refine s_callv (pc := 78) (rest := []) hG (calls_V (mi := mX1_doDeed) (o := 0) (As := [.ref (ad 36), .int x3]) (rest := []) hG (dc dl_X1_doDeed 29 rfl) mo_X1_pull mv_X1_pull ml_X1_176 ⟨Nat.le_of_ble_eq_true rfl, Nat.le_of_ble_eq_true rfl⟩ rfl rfl (Nat.le_of_ble_eq_true rfl) lk_HW_0 rfl) (cn_X1_pull l G hG ad x3) rfl (fun r6 => ?_)
        refine s_goto (pc := 81) (tgt := 84) (dc dl_X1_doDeed 30 rfl) rfl ?_
        exact s_wk (hj2 ()) rfl
def gX1_isTold (x2 : Int32) : MM Int32 :=
  bd (lf rh12 13 (gX9_holderOf x2)) fun r1 =>
  (if r1 = ((-1)) then
  rz 0
  else
  bd (la 44 x2) fun v2 =>
  jn (fun (a4 : Int32) =>
  rz a4) (fun j3 =>
  jn (fun (a6 : Unit) =>
  j3 1) (fun j5 =>
  (if r1 = v2 then
  j5 ()
  else
  bd (la 46 x2) fun v7 =>
  bd (gX1_askLaw 2 x2 v7) fun r8 =>
  bd (lf rh12 13 (gX9_happens r8)) fun r9 =>
  (if r9 = 0 then
  j3 0
  else
  j5 ())))))
set_option maxHeartbeats 4000000 in
theorem cn_X1_isTold (l : Launch) (G : Gl) (hG : gOk G) (ad : Nat → Nat) (x2 : Int32) : Cn l G mX1_isTold 4 lay_HW ad [.ref (ad 0), .ref (ad 36), .int x2] (gX1_isTold x2) := by
  refine cn_of (lv := [some (.ref (ad 0)), some (.ref (ad 36)), some (.int x2), none]) (by decide +kernel) rfl (Nat.le_of_ble_eq_true rfl) rfl ?_
  unfold gX1_isTold
  refine s_aload_n (pc := 0) (dc dl_X1_isTold 0 rfl) rfl rfl ?_
  refine s_iload_n (pc := 1) (dc dl_X1_isTold 1 rfl) rfl rfl ?_
  refine s_calll (pc := 2) (ρ := rh12) (rest := []) hG (ss_HW_World_rh12) (calls_V (mi := mX1_isTold) (o := 36) (As := [.int x2]) (rest := []) hG (dc dl_X1_isTold 2 rfl) mo_X9_holderOf mv_X9_holderOf ml_X1_234 ⟨Nat.le_of_ble_eq_true rfl, Nat.le_of_ble_eq_true rfl⟩ rfl rfl (Nat.le_of_ble_eq_true rfl) lk_HW_36 rfl) (cn_X9_holderOf l G hG (fun i => ad (rh12 i)) x2) rfl rfl (fun r1 => ?_)
  refine s_istore_n (pc := 5) (lv' := [some (.ref (ad 0)), some (.ref (ad 36)), some (.int x2), some (.int r1)]) (dc dl_X1_isTold 3 rfl) rfl (Nat.le_of_ble_eq_true rfl) rfl ?_
  refine s_iload_n (pc := 6) (dc dl_X1_isTold 4 rfl) rfl rfl ?_
  refine s_iconst (pc := 7) (v := (-1)) (dc dl_X1_isTold 5 rfl) ic_m1 ?_
  refine s_icmp_ne (pc := 8) (tgt := 13) (dc dl_X1_isTold 6 rfl) rfl ?_ ?_
  · refine s_iconst (pc := 11) (v := 0) (dc dl_X1_isTold 7 rfl) ic_0 ?_
    exact s_zreturn (pc := 12) rfl (dc dl_X1_isTold 8 rfl)
  · refine s_iload_n (pc := 13) (dc dl_X1_isTold 9 rfl) rfl rfl ?_
    refine s_aload_n (pc := 14) (dc dl_X1_isTold 10 rfl) rfl rfl ?_
    refine s_getR (pc := 15) fl_X1_117 lk_HW_36 kk_HW_36_14 (dc dl_X1_isTold 11 rfl) ?_
    refine s_iload_n (pc := 18) (dc dl_X1_isTold 12 rfl) rfl rfl ?_
    refine s_iald (pc := 19) lk_HW_44 (dc dl_X1_isTold 13 rfl) (fun v2 => ?_)
    refine s_jn (pj := 48) (fun a4 : Int32 => [none, none, none, none]) (fun a4 : Int32 => [.int a4]) (fun a4 => ?_) (fun j3 hj3 => ?_)
    · exact s_zreturn (pc := 48) rfl (dc dl_X1_isTold 30 rfl)
    · refine s_jn (pj := 43) (fun a6 : Unit => [none, none, none, none]) (fun a6 : Unit => []) (fun a6 => ?_) (fun j5 hj5 => ?_)
      · refine s_iconst (pc := 43) (v := 1) (dc dl_X1_isTold 27 rfl) ic_1 ?_
        refine s_goto (pc := 44) (tgt := 48) (dc dl_X1_isTold 28 rfl) rfl ?_
        exact s_wk (hj3 1) rfl
      · refine s_icmp_eq (pc := 20) (tgt := 43) (dc dl_X1_isTold 14 rfl) rfl ?_ ?_
        · exact s_wk (hj5 ()) rfl
        · refine s_aload_n (pc := 23) (dc dl_X1_isTold 15 rfl) rfl rfl ?_
          refine s_aload_n (pc := 24) (dc dl_X1_isTold 16 rfl) rfl rfl ?_
          refine s_aload_n (pc := 25) (dc dl_X1_isTold 17 rfl) rfl rfl ?_
          refine s_iconst (pc := 26) (v := 2) (dc dl_X1_isTold 18 rfl) ic_2 ?_
          refine s_iload_n (pc := 27) (dc dl_X1_isTold 19 rfl) rfl rfl ?_
          refine s_aload_n (pc := 28) (dc dl_X1_isTold 20 rfl) rfl rfl ?_
          refine s_getR (pc := 29) fl_X1_237 lk_HW_36 kk_HW_36_16 (dc dl_X1_isTold 21 rfl) ?_
          refine s_iload_n (pc := 32) (dc dl_X1_isTold 22 rfl) rfl rfl ?_
          refine s_iald (pc := 33) lk_HW_46 (dc dl_X1_isTold 23 rfl) (fun v7 => ?_)
          refine s_call (pc := 34) (rest := [.ref (ad 36)]) hG (calls_V (mi := mX1_isTold) (o := 0) (As := [.ref (ad 36), .int 2, .int x2, .int v7]) (rest := [.ref (ad 36)]) hG (dc dl_X1_isTold 24 rfl) mo_X1_askLaw mv_X1_askLaw ml_X1_179 ⟨Nat.le_of_ble_eq_true rfl, Nat.le_of_ble_eq_true rfl⟩ rfl rfl (Nat.le_of_ble_eq_true rfl) lk_HW_0 rfl) (cn_X1_askLaw l G hG ad 2 x2 v7) rfl (fun r8 => ?_)
          refine s_calll (pc := 37) (ρ := rh12) (rest := []) hG (ss_HW_World_rh12) (calls_V (mi := mX1_isTold) (o := 36) (As := [.int r8]) (rest := []) hG (dc dl_X1_isTold 25 rfl) mo_X9_happens mv_X9_happens ml_X1_194 ⟨Nat.le_of_ble_eq_true rfl, Nat.le_of_ble_eq_true rfl⟩ rfl rfl (Nat.le_of_ble_eq_true rfl) lk_HW_36 rfl) (cn_X9_happens l G hG (fun i => ad (rh12 i)) r8) rfl rfl (fun r9 => ?_)
          refine s_if_eq (pc := 40) (tgt := 47) (dc dl_X1_isTold 26 rfl) rfl ?_ ?_
          · refine s_iconst (pc := 47) (v := 0) (dc dl_X1_isTold 29 rfl) ic_0 ?_
            exact s_wk (hj3 0) rfl
          · exact s_wk (hj5 ()) rfl
def gX1_settle (x2 x3 : Int32) : MM Int32 :=
  bd (la 44 x2) fun v1 =>
  bd (lf rh12 13 (gX9_hasPerson v1)) fun r2 =>
  (if r2 = 0 then
  pr 0
  else
  jn (fun (a4 : Int32) =>
  bd (sa 48 x2 a4) fun _ =>
  jn (fun (a6 : Unit) =>
  jn (fun (a8 : Int32) =>
  bd (lf rh12 13 (gX9_holderOf x2)) fun r9 =>
  bd (lf rh15 15 (gX0_write a8 x2 r9)) fun r10 =>
  bd (lf rh12 13 (gX9_untie x2)) fun r11 =>
  pr 0) (fun j7 =>
  (if x3 = 0 then
  j7 3
  else
  j7 2))) (fun j5 =>
  (if x3 = 0 then
  bd (la 39 v1) fun v12 =>
  bd (sa 39 v1 (v12 + 1)) fun _ =>
  j5 ()
  else
  bd (la 38 v1) fun v13 =>
  bd (sa 38 v1 (v13 + 1)) fun _ =>
  j5 ()))) (fun j3 =>
  (if x3 = 0 then
  j3 2
  else
  j3 1)))
set_option maxHeartbeats 4000000 in
theorem cn_X1_settle (l : Launch) (G : Gl) (hG : gOk G) (ad : Nat → Nat) (x2 x3 : Int32) : Cn l G mX1_settle 2 lay_HW ad [.ref (ad 0), .ref (ad 36), .int x2, .int x3] (gX1_settle x2 x3) := by
  refine cn_of (lv := [some (.ref (ad 0)), some (.ref (ad 36)), some (.int x2), some (.int x3), none]) (by decide +kernel) rfl (Nat.le_of_ble_eq_true rfl) rfl ?_
  unfold gX1_settle
  refine s_aload_n (pc := 0) (dc dl_X1_settle 0 rfl) rfl rfl ?_
  refine s_getR (pc := 1) fl_X1_117 lk_HW_36 kk_HW_36_14 (dc dl_X1_settle 1 rfl) ?_
  refine s_iload_n (pc := 4) (dc dl_X1_settle 2 rfl) rfl rfl ?_
  refine s_iald (pc := 5) lk_HW_44 (dc dl_X1_settle 3 rfl) (fun v1 => ?_)
  refine s_istore (pc := 6) (lv' := [some (.ref (ad 0)), some (.ref (ad 36)), some (.int x2), some (.int x3), some (.int v1)]) (dc dl_X1_settle 4 rfl) (Nat.le_of_ble_eq_true rfl) rfl ?_
  refine s_aload_n (pc := 8) (dc dl_X1_settle 5 rfl) rfl rfl ?_
  refine s_iload (pc := 9) (dc dl_X1_settle 6 rfl) rfl ?_
  refine s_calll (pc := 11) (ρ := rh12) (rest := []) hG (ss_HW_World_rh12) (calls_V (mi := mX1_settle) (o := 36) (As := [.int v1]) (rest := []) hG (dc dl_X1_settle 7 rfl) mo_X9_hasPerson mv_X9_hasPerson ml_X1_120 ⟨Nat.le_of_ble_eq_true rfl, Nat.le_of_ble_eq_true rfl⟩ rfl rfl (Nat.le_of_ble_eq_true rfl) lk_HW_36 rfl) (cn_X9_hasPerson l G hG (fun i => ad (rh12 i)) v1) rfl rfl (fun r2 => ?_)
  refine s_if_ne (pc := 14) (tgt := 18) (dc dl_X1_settle 8 rfl) rfl ?_ ?_
  · exact s_return (pc := 17) rfl (dc dl_X1_settle 9 rfl)
  · refine s_aload_n (pc := 18) (dc dl_X1_settle 10 rfl) rfl rfl ?_
    refine s_getR (pc := 19) fl_X1_220 lk_HW_36 kk_HW_36_18 (dc dl_X1_settle 11 rfl) ?_
    refine s_iload_n (pc := 22) (dc dl_X1_settle 12 rfl) rfl rfl ?_
    refine s_iload_n (pc := 23) (dc dl_X1_settle 13 rfl) rfl rfl ?_
    refine s_jn (pj := 32) (fun a4 : Int32 => [some (.ref (ad 0)), some (.ref (ad 36)), some (.int x2), some (.int x3), some (.int v1)]) (fun a4 : Int32 => [.int a4, .int x2, .ref (ad 48)]) (fun a4 => ?_) (fun j3 hj3 => ?_)
    · refine s_iast (pc := 32) lk_HW_48 (dc dl_X1_settle 18 rfl) ?_
      refine s_iload_n (pc := 33) (dc dl_X1_settle 19 rfl) rfl rfl ?_
      refine s_jn (pj := 62) (fun a6 : Unit => [some (.ref (ad 0)), some (.ref (ad 36)), some (.int x2), some (.int x3), none]) (fun a6 : Unit => []) (fun a6 => ?_) (fun j5 hj5 => ?_)
      · refine s_aload_n (pc := 62) (dc dl_X1_settle 38 rfl) rfl rfl ?_
        refine s_getR (pc := 63) fl_X1_23 lk_HW_0 kk_HW_0_1 (dc dl_X1_settle 39 rfl) ?_
        refine s_aload_n (pc := 66) (dc dl_X1_settle 40 rfl) rfl rfl ?_
        refine s_iload_n (pc := 67) (dc dl_X1_settle 41 rfl) rfl rfl ?_
        refine s_jn (pj := 76) (fun a8 : Int32 => [none, some (.ref (ad 36)), some (.int x2), none, none]) (fun a8 : Int32 => [.int a8, .ref (ad 36), .ref (ad 1)]) (fun a8 => ?_) (fun j7 hj7 => ?_)
        · refine s_iload_n (pc := 76) (dc dl_X1_settle 46 rfl) rfl rfl ?_
          refine s_aload_n (pc := 77) (dc dl_X1_settle 47 rfl) rfl rfl ?_
          refine s_iload_n (pc := 78) (dc dl_X1_settle 48 rfl) rfl rfl ?_
          refine s_calll (pc := 79) (ρ := rh12) (rest := [.int x2, .int a8, .ref (ad 36), .ref (ad 1)]) hG (ss_HW_World_rh12) (calls_V (mi := mX1_settle) (o := 36) (As := [.int x2]) (rest := [.int x2, .int a8, .ref (ad 36), .ref (ad 1)]) hG (dc dl_X1_settle 49 rfl) mo_X9_holderOf mv_X9_holderOf ml_X1_234 ⟨Nat.le_of_ble_eq_true rfl, Nat.le_of_ble_eq_true rfl⟩ rfl rfl (Nat.le_of_ble_eq_true rfl) lk_HW_36 rfl) (cn_X9_holderOf l G hG (fun i => ad (rh12 i)) x2) rfl rfl (fun r9 => ?_)
          refine s_calllv (pc := 82) (ρ := rh15) (rest := []) hG (ss_HW_BookW_rh15) (calls_V (mi := mX1_settle) (o := 1) (As := [.ref (ad 36), .int a8, .int x2, .int r9]) (rest := []) hG (dc dl_X1_settle 50 rfl) mo_X0_write mv_X0_write ml_X1_187 ⟨Nat.le_of_ble_eq_true rfl, Nat.le_of_ble_eq_true rfl⟩ rfl rfl (Nat.le_of_ble_eq_true rfl) lk_HW_1 rfl) (cn_X0_write l G hG (fun i => ad (rh15 i)) a8 x2 r9) rfl rfl (fun r10 => ?_)
          refine s_aload_n (pc := 85) (dc dl_X1_settle 51 rfl) rfl rfl ?_
          refine s_iload_n (pc := 86) (dc dl_X1_settle 52 rfl) rfl rfl ?_
          refine s_calllv (pc := 87) (ρ := rh12) (rest := []) hG (ss_HW_World_rh12) (calls_V (mi := mX1_settle) (o := 36) (As := [.int x2]) (rest := []) hG (dc dl_X1_settle 53 rfl) mo_X9_untie mv_X9_untie ml_X1_197 ⟨Nat.le_of_ble_eq_true rfl, Nat.le_of_ble_eq_true rfl⟩ rfl rfl (Nat.le_of_ble_eq_true rfl) lk_HW_36 rfl) (cn_X9_untie l G hG (fun i => ad (rh12 i)) x2) rfl rfl (fun r11 => ?_)
          exact s_return (pc := 90) rfl (dc dl_X1_settle 54 rfl)
        · refine s_if_eq (pc := 68) (tgt := 75) (dc dl_X1_settle 42 rfl) rfl ?_ ?_
          · refine s_iconst (pc := 75) (v := 3) (dc dl_X1_settle 45 rfl) ic_3 ?_
            exact s_wk (hj7 3) rfl
          · refine s_iconst (pc := 71) (v := 2) (dc dl_X1_settle 43 rfl) ic_2 ?_
            refine s_goto (pc := 72) (tgt := 76) (dc dl_X1_settle 44 rfl) rfl ?_
            exact s_wk (hj7 2) rfl
      · refine s_if_eq (pc := 34) (tgt := 51) (dc dl_X1_settle 20 rfl) rfl ?_ ?_
        · refine s_aload_n (pc := 51) (dc dl_X1_settle 30 rfl) rfl rfl ?_
          refine s_getR (pc := 52) fl_X1_141 lk_HW_36 kk_HW_36_9 (dc dl_X1_settle 31 rfl) ?_
          refine s_iload (pc := 55) (dc dl_X1_settle 32 rfl) rfl ?_
          refine s_dup2 (pc := 57) (dc dl_X1_settle 33 rfl) rfl rfl ?_
          refine s_iald (pc := 58) lk_HW_39 (dc dl_X1_settle 34 rfl) (fun v12 => ?_)
          refine s_iconst (pc := 59) (v := 1) (dc dl_X1_settle 35 rfl) ic_1 ?_
          refine s_iadd (pc := 60) (dc dl_X1_settle 36 rfl) ?_
          refine s_iast (pc := 61) lk_HW_39 (dc dl_X1_settle 37 rfl) ?_
          exact s_wk (hj5 ()) rfl
        · refine s_aload_n (pc := 37) (dc dl_X1_settle 21 rfl) rfl rfl ?_
          refine s_getR (pc := 38) fl_X1_138 lk_HW_36 kk_HW_36_8 (dc dl_X1_settle 22 rfl) ?_
          refine s_iload (pc := 41) (dc dl_X1_settle 23 rfl) rfl ?_
          refine s_dup2 (pc := 43) (dc dl_X1_settle 24 rfl) rfl rfl ?_
          refine s_iald (pc := 44) lk_HW_38 (dc dl_X1_settle 25 rfl) (fun v13 => ?_)
          refine s_iconst (pc := 45) (v := 1) (dc dl_X1_settle 26 rfl) ic_1 ?_
          refine s_iadd (pc := 46) (dc dl_X1_settle 27 rfl) ?_
          refine s_iast (pc := 47) lk_HW_38 (dc dl_X1_settle 28 rfl) ?_
          refine s_goto (pc := 48) (tgt := 62) (dc dl_X1_settle 29 rfl) rfl ?_
          exact s_wk (hj5 ()) rfl
    · refine s_if_eq (pc := 24) (tgt := 31) (dc dl_X1_settle 14 rfl) rfl ?_ ?_
      · refine s_iconst (pc := 31) (v := 2) (dc dl_X1_settle 17 rfl) ic_2 ?_
        exact s_wk (hj3 2) rfl
      · refine s_iconst (pc := 27) (v := 1) (dc dl_X1_settle 15 rfl) ic_1 ?_
        refine s_goto (pc := 28) (tgt := 32) (dc dl_X1_settle 16 rfl) rfl ?_
        exact s_wk (hj3 1) rfl
def gX1_passDay : MM Int32 :=
  loopC 100000 (fun (self1 : Int32 → MM Int32) (s2 : Int32) =>
  bd (ld 15 0) fun v3 =>
  jn (fun (a5 : Unit) =>
  loopC 100000 (fun (self6 : Int32 → MM Int32) (s7 : Int32) =>
  bd (ld 10 0) fun v8 =>
  jn (fun (a10 : Unit) =>
  loopC 100000 (fun (self11 : (Int32 × Int32) → MM Int32) (s12 : Int32 × Int32) =>
  bd (ld 36 6) fun v13 =>
  (if v13 ≤ s12.2 then
  bd (ld 36 2) fun v14 =>
  bd (sv 36 2 (v14 + 1)) fun _ =>
  pr s12.1
  else
  bd (la 48 s12.2) fun v15 =>
  jn (fun (a17 : Int32) =>
  lt (s12.2 + 1) fun y18 =>
  self11 (a17, y18)) (fun j16 =>
  (if v15 = 0 then
  bd (la 45 s12.2) fun v19 =>
  bd (ld 36 2) fun v20 =>
  (if v19 = v20 then
  bd (gX1_isTold s12.2) fun r21 =>
  bd (gX1_settle s12.2 r21) fun r22 =>
  jn (fun (a24 : Int32) =>
  lt (s12.1 + a24) fun y25 =>
  j16 y25) (fun j23 =>
  (if r21 = 0 then
  j23 0
  else
  j23 1))
  else
  j16 s12.1)
  else
  j16 s12.1)))) (0, 0)) (fun j9 =>
  (if v8 ≤ s7 then
  j9 ()
  else
  (if 16 ≤ s7 then
  j9 ()
  else
  bd (la 11 s7) fun v26 =>
  bd (ld 36 2) fun v27 =>
  jn (fun (a29 : Unit) =>
  lt (s7 + 1) fun y30 =>
  self6 y30) (fun j28 =>
  (if v26 = v27 then
  bd (la 12 s7) fun v31 =>
  bd (la 13 s7) fun v32 =>
  bd (la 14 s7) fun v33 =>
  bd (gX1_doDeed v31 v32 v33) fun r34 =>
  j28 ()
  else
  j28 ())))))) 0) (fun j4 =>
  (if v3 ≤ s2 then
  j4 ()
  else
  (if 16 ≤ s2 then
  j4 ()
  else
  bd (la 18 s2) fun v35 =>
  bd (la 16 s2) fun v36 =>
  bd (ld 36 2) fun v37 =>
  jn (fun (a39 : Unit) =>
  lt (s2 + 1) fun y40 =>
  self1 y40) (fun j38 =>
  (if v36 = v37 then
  bd (lf rh12 13 (gX9_hasPerson v35)) fun r41 =>
  (if r41 = 0 then
  j38 ()
  else
  bd (la 19 s2) fun v42 =>
  bd (sa 37 v35 v42) fun _ =>
  j38 ())
  else
  j38 ())))))) 0
set_option maxHeartbeats 4000000 in
theorem cn_X1_passDay (l : Launch) (G : Gl) (hG : gOk G) (ad : Nat → Nat) : Cn l G mX1_passDay 6 lay_HW ad [.ref (ad 0), .ref (ad 36)] (gX1_passDay) := by
  refine cn_of (lv := [some (.ref (ad 0)), some (.ref (ad 36)), none, none, none]) (by decide +kernel) rfl (Nat.le_of_ble_eq_true rfl) rfl ?_
  unfold gX1_passDay
  refine s_iconst (pc := 0) (v := 0) (dc dl_X1_passDay 0 rfl) ic_0 ?_
  refine s_istore_n (pc := 1) (lv' := [some (.ref (ad 0)), some (.ref (ad 36)), some (.int 0), none, none]) (dc dl_X1_passDay 1 rfl) rfl (Nat.le_of_ble_eq_true rfl) rfl ?_
  refine s_weak (lv' := [some (.ref (ad 0)), some (.ref (ad 36)), some (.int 0), none, none]) rfl ?_
  refine s_loop (pc := 2) (fun s2 : Int32 => [some (.ref (ad 0)), some (.ref (ad 36)), some (.int s2), none, none]) [] (fun self1 hself1 s2 => ?_) _ 0
  refine s_iload_n (pc := 2) (dc dl_X1_passDay 2 rfl) rfl rfl ?_
  refine s_aload_n (pc := 3) (dc dl_X1_passDay 3 rfl) rfl rfl ?_
  refine s_getR (pc := 4) fl_X1_41 lk_HW_0 kk_HW_0_4 (dc dl_X1_passDay 4 rfl) ?_
  refine s_getI (pc := 7) fl_X1_200 lk_HW_15 kk_HW_15_0 (dc dl_X1_passDay 5 rfl) (fun v3 => ?_)
  refine s_jn (pj := 74) (fun a5 : Unit => [some (.ref (ad 0)), some (.ref (ad 36)), none, none, none]) (fun a5 : Unit => []) (fun a5 => ?_) (fun j4 hj4 => ?_)
  · refine s_iconst (pc := 74) (v := 0) (dc dl_X1_passDay 39 rfl) ic_0 ?_
    refine s_istore_n (pc := 75) (lv' := [some (.ref (ad 0)), some (.ref (ad 36)), some (.int 0), none, none]) (dc dl_X1_passDay 40 rfl) rfl (Nat.le_of_ble_eq_true rfl) rfl ?_
    refine s_weak (lv' := [some (.ref (ad 0)), some (.ref (ad 36)), some (.int 0), none, none]) rfl ?_
    refine s_loop (pc := 76) (fun s7 : Int32 => [some (.ref (ad 0)), some (.ref (ad 36)), some (.int s7), none, none]) [] (fun self6 hself6 s7 => ?_) _ 0
    refine s_iload_n (pc := 76) (dc dl_X1_passDay 41 rfl) rfl rfl ?_
    refine s_aload_n (pc := 77) (dc dl_X1_passDay 42 rfl) rfl rfl ?_
    refine s_getR (pc := 78) fl_X1_37 lk_HW_0 kk_HW_0_3 (dc dl_X1_passDay 43 rfl) ?_
    refine s_getI (pc := 81) fl_X1_200 lk_HW_10 kk_HW_10_0 (dc dl_X1_passDay 44 rfl) (fun v8 => ?_)
    refine s_jn (pj := 147) (fun a10 : Unit => [some (.ref (ad 0)), some (.ref (ad 36)), none, none, none]) (fun a10 : Unit => []) (fun a10 => ?_) (fun j9 hj9 => ?_)
    · refine s_iconst (pc := 147) (v := 0) (dc dl_X1_passDay 77 rfl) ic_0 ?_
      refine s_istore_n (pc := 148) (lv' := [some (.ref (ad 0)), some (.ref (ad 36)), some (.int 0), none, none]) (dc dl_X1_passDay 78 rfl) rfl (Nat.le_of_ble_eq_true rfl) rfl ?_
      refine s_iconst (pc := 149) (v := 0) (dc dl_X1_passDay 79 rfl) ic_0 ?_
      refine s_istore_n (pc := 150) (lv' := [some (.ref (ad 0)), some (.ref (ad 36)), some (.int 0), some (.int 0), none]) (dc dl_X1_passDay 80 rfl) rfl (Nat.le_of_ble_eq_true rfl) rfl ?_
      refine s_weak (lv' := [some (.ref (ad 0)), some (.ref (ad 36)), some (.int 0), some (.int 0), none]) rfl ?_
      refine s_loop (pc := 151) (fun s12 : Int32 × Int32 => [some (.ref (ad 0)), some (.ref (ad 36)), some (.int s12.1), some (.int s12.2), none]) [] (fun self11 hself11 s12 => ?_) _ (0, 0)
      refine s_iload_n (pc := 151) (dc dl_X1_passDay 81 rfl) rfl rfl ?_
      refine s_aload_n (pc := 152) (dc dl_X1_passDay 82 rfl) rfl rfl ?_
      refine s_getI (pc := 153) fl_X1_217 lk_HW_36 kk_HW_36_6 (dc dl_X1_passDay 83 rfl) (fun v13 => ?_)
      refine s_icmp_ge (pc := 156) (tgt := 216) (dc dl_X1_passDay 84 rfl) rfl ?_ ?_
      · refine s_aload_n (pc := 216) (dc dl_X1_passDay 117 rfl) rfl rfl ?_
        refine s_dup (pc := 217) (dc dl_X1_passDay 118 rfl) rfl ?_
        refine s_getI (pc := 218) fl_X1_152 lk_HW_36 kk_HW_36_2 (dc dl_X1_passDay 119 rfl) (fun v14 => ?_)
        refine s_iconst (pc := 221) (v := 1) (dc dl_X1_passDay 120 rfl) ic_1 ?_
        refine s_iadd (pc := 222) (dc dl_X1_passDay 121 rfl) ?_
        refine s_putI (pc := 223) fw_X1_152 lk_HW_36 kk_HW_36_2 (dc dl_X1_passDay 122 rfl) ?_
        refine s_iload_n (pc := 226) (dc dl_X1_passDay 123 rfl) rfl rfl ?_
        exact s_ireturn (pc := 227) rfl (dc dl_X1_passDay 124 rfl)
      · refine s_aload_n (pc := 159) (dc dl_X1_passDay 85 rfl) rfl rfl ?_
        refine s_getR (pc := 160) fl_X1_220 lk_HW_36 kk_HW_36_18 (dc dl_X1_passDay 86 rfl) ?_
        refine s_iload_n (pc := 163) (dc dl_X1_passDay 87 rfl) rfl rfl ?_
        refine s_iald (pc := 164) lk_HW_48 (dc dl_X1_passDay 88 rfl) (fun v15 => ?_)
        refine s_jn (pj := 210) (fun a17 : Int32 => [some (.ref (ad 0)), some (.ref (ad 36)), some (.int a17), some (.int s12.2), none]) (fun a17 : Int32 => []) (fun a17 => ?_) (fun j16 hj16 => ?_)
        · refine s_iincL (pc := 210) (lf' := fun y18 => [some (.ref (ad 0)), some (.ref (ad 36)), some (.int a17), some (.int y18), none]) (dc dl_X1_passDay 115 rfl) rfl rfl (Nat.le_of_ble_eq_true rfl) (fun _ => rfl) (fun y18 => ?_)
          refine s_goto (pc := 213) (tgt := 151) (dc dl_X1_passDay 116 rfl) rfl ?_
          exact s_wk (hself11 (a17, y18)) rfl
        · refine s_if_ne (pc := 165) (tgt := 210) (dc dl_X1_passDay 89 rfl) rfl ?_ ?_
          · refine s_aload_n (pc := 168) (dc dl_X1_passDay 90 rfl) rfl rfl ?_
            refine s_getR (pc := 169) fl_X1_223 lk_HW_36 kk_HW_36_15 (dc dl_X1_passDay 91 rfl) ?_
            refine s_iload_n (pc := 172) (dc dl_X1_passDay 92 rfl) rfl rfl ?_
            refine s_iald (pc := 173) lk_HW_45 (dc dl_X1_passDay 93 rfl) (fun v19 => ?_)
            refine s_aload_n (pc := 174) (dc dl_X1_passDay 94 rfl) rfl rfl ?_
            refine s_getI (pc := 175) fl_X1_152 lk_HW_36 kk_HW_36_2 (dc dl_X1_passDay 95 rfl) (fun v20 => ?_)
            refine s_icmp_ne (pc := 178) (tgt := 210) (dc dl_X1_passDay 96 rfl) rfl ?_ ?_
            · refine s_aload_n (pc := 181) (dc dl_X1_passDay 97 rfl) rfl rfl ?_
              refine s_aload_n (pc := 182) (dc dl_X1_passDay 98 rfl) rfl rfl ?_
              refine s_iload_n (pc := 183) (dc dl_X1_passDay 99 rfl) rfl rfl ?_
              refine s_call (pc := 184) (rest := []) hG (calls_V (mi := mX1_passDay) (o := 0) (As := [.ref (ad 36), .int s12.2]) (rest := []) hG (dc dl_X1_passDay 100 rfl) mo_X1_isTold mv_X1_isTold ml_X1_226 ⟨Nat.le_of_ble_eq_true rfl, Nat.le_of_ble_eq_true rfl⟩ rfl rfl (Nat.le_of_ble_eq_true rfl) lk_HW_0 rfl) (cn_X1_isTold l G hG ad s12.2) rfl (fun r21 => ?_)
              refine s_istore (pc := 187) (lv' := [some (.ref (ad 0)), some (.ref (ad 36)), some (.int s12.1), some (.int s12.2), some (.int r21)]) (dc dl_X1_passDay 101 rfl) (Nat.le_of_ble_eq_true rfl) rfl ?_
              refine s_aload_n (pc := 189) (dc dl_X1_passDay 102 rfl) rfl rfl ?_
              refine s_aload_n (pc := 190) (dc dl_X1_passDay 103 rfl) rfl rfl ?_
              refine s_iload_n (pc := 191) (dc dl_X1_passDay 104 rfl) rfl rfl ?_
              refine s_iload (pc := 192) (dc dl_X1_passDay 105 rfl) rfl ?_
              refine s_callv (pc := 194) (rest := []) hG (calls_V (mi := mX1_passDay) (o := 0) (As := [.ref (ad 36), .int s12.2, .int r21]) (rest := []) hG (dc dl_X1_passDay 106 rfl) mo_X1_settle mv_X1_settle ml_X1_230 ⟨Nat.le_of_ble_eq_true rfl, Nat.le_of_ble_eq_true rfl⟩ rfl rfl (Nat.le_of_ble_eq_true rfl) lk_HW_0 rfl) (cn_X1_settle l G hG ad s12.2 r21) rfl (fun r22 => ?_)
              refine s_iload_n (pc := 197) (dc dl_X1_passDay 107 rfl) rfl rfl ?_
              refine s_iload (pc := 198) (dc dl_X1_passDay 108 rfl) rfl ?_
              refine s_jn (pj := 208) (fun a24 : Int32 => [some (.ref (ad 0)), some (.ref (ad 36)), none, some (.int s12.2), none]) (fun a24 : Int32 => [.int a24, .int s12.1]) (fun a24 => ?_) (fun j23 hj23 => ?_)
              · refine s_iadd (pc := 208) (dc dl_X1_passDay 113 rfl) ?_
                refine s_istore_nL (pc := 209) (lf' := fun y25 => [some (.ref (ad 0)), some (.ref (ad 36)), some (.int y25), some (.int s12.2), none]) (dc dl_X1_passDay 114 rfl) rfl (Nat.le_of_ble_eq_true rfl) (fun _ => rfl) (fun y25 => ?_)
                exact s_wk (hj16 y25) rfl
              · refine s_if_eq (pc := 200) (tgt := 207) (dc dl_X1_passDay 109 rfl) rfl ?_ ?_
                · refine s_iconst (pc := 207) (v := 0) (dc dl_X1_passDay 112 rfl) ic_0 ?_
                  exact s_wk (hj23 0) rfl
                · refine s_iconst (pc := 203) (v := 1) (dc dl_X1_passDay 110 rfl) ic_1 ?_
                  refine s_goto (pc := 204) (tgt := 208) (dc dl_X1_passDay 111 rfl) rfl ?_
                  exact s_wk (hj23 1) rfl
            · exact s_wk (hj16 s12.1) rfl
          · exact s_wk (hj16 s12.1) rfl
    · refine s_icmp_ge (pc := 84) (tgt := 147) (dc dl_X1_passDay 45 rfl) rfl ?_ ?_
      · exact s_wk (hj9 ()) rfl
      · refine s_iload_n (pc := 87) (dc dl_X1_passDay 46 rfl) rfl rfl ?_
        refine s_bipush (pc := 88) (v := 16) (dc dl_X1_passDay 47 rfl) bi_16 ?_
        refine s_icmp_ge (pc := 90) (tgt := 147) (dc dl_X1_passDay 48 rfl) rfl ?_ ?_
        · exact s_wk (hj9 ()) rfl
        · refine s_aload_n (pc := 93) (dc dl_X1_passDay 49 rfl) rfl rfl ?_
          refine s_getR (pc := 94) fl_X1_37 lk_HW_0 kk_HW_0_3 (dc dl_X1_passDay 50 rfl) ?_
          refine s_getR (pc := 97) fl_X1_206 lk_HW_10 kk_HW_10_1 (dc dl_X1_passDay 51 rfl) ?_
          refine s_iload_n (pc := 100) (dc dl_X1_passDay 52 rfl) rfl rfl ?_
          refine s_iald (pc := 101) lk_HW_11 (dc dl_X1_passDay 53 rfl) (fun v26 => ?_)
          refine s_aload_n (pc := 102) (dc dl_X1_passDay 54 rfl) rfl rfl ?_
          refine s_getI (pc := 103) fl_X1_152 lk_HW_36 kk_HW_36_2 (dc dl_X1_passDay 55 rfl) (fun v27 => ?_)
          refine s_jn (pj := 141) (fun a29 : Unit => [some (.ref (ad 0)), some (.ref (ad 36)), some (.int s7), none, none]) (fun a29 : Unit => []) (fun a29 => ?_) (fun j28 hj28 => ?_)
          · refine s_iincL (pc := 141) (lf' := fun y30 => [some (.ref (ad 0)), some (.ref (ad 36)), some (.int y30), none, none]) (dc dl_X1_passDay 75 rfl) rfl rfl (Nat.le_of_ble_eq_true rfl) (fun _ => rfl) (fun y30 => ?_)
            refine s_goto (pc := 144) (tgt := 76) (dc dl_X1_passDay 76 rfl) rfl ?_
            exact s_wk (hself6 y30) rfl
          · refine s_icmp_ne (pc := 106) (tgt := 141) (dc dl_X1_passDay 56 rfl) rfl ?_ ?_
            · refine s_aload_n (pc := 109) (dc dl_X1_passDay 57 rfl) rfl rfl ?_
              refine s_aload_n (pc := 110) (dc dl_X1_passDay 58 rfl) rfl rfl ?_
              refine s_aload_n (pc := 111) (dc dl_X1_passDay 59 rfl) rfl rfl ?_
              refine s_getR (pc := 112) fl_X1_37 lk_HW_0 kk_HW_0_3 (dc dl_X1_passDay 60 rfl) ?_
              refine s_getR (pc := 115) fl_X1_211 lk_HW_10 kk_HW_10_2 (dc dl_X1_passDay 61 rfl) ?_
              refine s_iload_n (pc := 118) (dc dl_X1_passDay 62 rfl) rfl rfl ?_
              refine s_iald (pc := 119) lk_HW_12 (dc dl_X1_passDay 63 rfl) (fun v31 => ?_)
              refine s_aload_n (pc := 120) (dc dl_X1_passDay 64 rfl) rfl rfl ?_
              refine s_getR (pc := 121) fl_X1_37 lk_HW_0 kk_HW_0_3 (dc dl_X1_passDay 65 rfl) ?_
              refine s_getR (pc := 124) fl_X1_203 lk_HW_10 kk_HW_10_3 (dc dl_X1_passDay 66 rfl) ?_
              refine s_iload_n (pc := 127) (dc dl_X1_passDay 67 rfl) rfl rfl ?_
              refine s_iald (pc := 128) lk_HW_13 (dc dl_X1_passDay 68 rfl) (fun v32 => ?_)
              refine s_aload_n (pc := 129) (dc dl_X1_passDay 69 rfl) rfl rfl ?_
              refine s_getR (pc := 130) fl_X1_37 lk_HW_0 kk_HW_0_3 (dc dl_X1_passDay 70 rfl) ?_
              refine s_getR (pc := 133) fl_X1_208 lk_HW_10 kk_HW_10_4 (dc dl_X1_passDay 71 rfl) ?_
              refine s_iload_n (pc := 136) (dc dl_X1_passDay 72 rfl) rfl rfl ?_
              refine s_iald (pc := 137) lk_HW_14 (dc dl_X1_passDay 73 rfl) (fun v33 => ?_)
              refine s_callv (pc := 138) (rest := []) hG (calls_V (mi := mX1_passDay) (o := 0) (As := [.ref (ad 36), .int v31, .int v32, .int v33]) (rest := []) hG (dc dl_X1_passDay 74 rfl) mo_X1_doDeed mv_X1_doDeed ml_X1_214 ⟨Nat.le_of_ble_eq_true rfl, Nat.le_of_ble_eq_true rfl⟩ rfl rfl (Nat.le_of_ble_eq_true rfl) lk_HW_0 rfl) (cn_X1_doDeed l G hG ad v31 v32 v33) rfl (fun r34 => ?_)
              exact s_wk (hj28 ()) rfl
            · exact s_wk (hj28 ()) rfl
  · refine s_icmp_ge (pc := 10) (tgt := 74) (dc dl_X1_passDay 6 rfl) rfl ?_ ?_
    · exact s_wk (hj4 ()) rfl
    · refine s_iload_n (pc := 13) (dc dl_X1_passDay 7 rfl) rfl rfl ?_
      refine s_bipush (pc := 14) (v := 16) (dc dl_X1_passDay 8 rfl) bi_16 ?_
      refine s_icmp_ge (pc := 16) (tgt := 74) (dc dl_X1_passDay 9 rfl) rfl ?_ ?_
      · exact s_wk (hj4 ()) rfl
      · refine s_aload_n (pc := 19) (dc dl_X1_passDay 10 rfl) rfl rfl ?_
        refine s_getR (pc := 20) fl_X1_41 lk_HW_0 kk_HW_0_4 (dc dl_X1_passDay 11 rfl) ?_
        refine s_getR (pc := 23) fl_X1_203 lk_HW_15 kk_HW_15_3 (dc dl_X1_passDay 12 rfl) ?_
        refine s_iload_n (pc := 26) (dc dl_X1_passDay 13 rfl) rfl rfl ?_
        refine s_iald (pc := 27) lk_HW_18 (dc dl_X1_passDay 14 rfl) (fun v35 => ?_)
        refine s_istore_n (pc := 28) (lv' := [some (.ref (ad 0)), some (.ref (ad 36)), some (.int s2), some (.int v35), none]) (dc dl_X1_passDay 15 rfl) rfl (Nat.le_of_ble_eq_true rfl) rfl ?_
        refine s_aload_n (pc := 29) (dc dl_X1_passDay 16 rfl) rfl rfl ?_
        refine s_getR (pc := 30) fl_X1_41 lk_HW_0 kk_HW_0_4 (dc dl_X1_passDay 17 rfl) ?_
        refine s_getR (pc := 33) fl_X1_206 lk_HW_15 kk_HW_15_1 (dc dl_X1_passDay 18 rfl) ?_
        refine s_iload_n (pc := 36) (dc dl_X1_passDay 19 rfl) rfl rfl ?_
        refine s_iald (pc := 37) lk_HW_16 (dc dl_X1_passDay 20 rfl) (fun v36 => ?_)
        refine s_aload_n (pc := 38) (dc dl_X1_passDay 21 rfl) rfl rfl ?_
        refine s_getI (pc := 39) fl_X1_152 lk_HW_36 kk_HW_36_2 (dc dl_X1_passDay 22 rfl) (fun v37 => ?_)
        refine s_jn (pj := 68) (fun a39 : Unit => [some (.ref (ad 0)), some (.ref (ad 36)), some (.int s2), none, none]) (fun a39 : Unit => []) (fun a39 => ?_) (fun j38 hj38 => ?_)
        · refine s_iincL (pc := 68) (lf' := fun y40 => [some (.ref (ad 0)), some (.ref (ad 36)), some (.int y40), none, none]) (dc dl_X1_passDay 37 rfl) rfl rfl (Nat.le_of_ble_eq_true rfl) (fun _ => rfl) (fun y40 => ?_)
          refine s_goto (pc := 71) (tgt := 2) (dc dl_X1_passDay 38 rfl) rfl ?_
          exact s_wk (hself1 y40) rfl
        · refine s_icmp_ne (pc := 42) (tgt := 68) (dc dl_X1_passDay 23 rfl) rfl ?_ ?_
          · refine s_aload_n (pc := 45) (dc dl_X1_passDay 24 rfl) rfl rfl ?_
            refine s_iload_n (pc := 46) (dc dl_X1_passDay 25 rfl) rfl rfl ?_
            refine s_calll (pc := 47) (ρ := rh12) (rest := []) hG (ss_HW_World_rh12) (calls_V (mi := mX1_passDay) (o := 36) (As := [.int v35]) (rest := []) hG (dc dl_X1_passDay 26 rfl) mo_X9_hasPerson mv_X9_hasPerson ml_X1_120 ⟨Nat.le_of_ble_eq_true rfl, Nat.le_of_ble_eq_true rfl⟩ rfl rfl (Nat.le_of_ble_eq_true rfl) lk_HW_36 rfl) (cn_X9_hasPerson l G hG (fun i => ad (rh12 i)) v35) rfl rfl (fun r41 => ?_)
            refine s_if_eq (pc := 50) (tgt := 68) (dc dl_X1_passDay 27 rfl) rfl ?_ ?_
            · exact s_wk (hj38 ()) rfl
            · refine s_aload_n (pc := 53) (dc dl_X1_passDay 28 rfl) rfl rfl ?_
              refine s_getR (pc := 54) fl_X1_123 lk_HW_36 kk_HW_36_7 (dc dl_X1_passDay 29 rfl) ?_
              refine s_iload_n (pc := 57) (dc dl_X1_passDay 30 rfl) rfl rfl ?_
              refine s_aload_n (pc := 58) (dc dl_X1_passDay 31 rfl) rfl rfl ?_
              refine s_getR (pc := 59) fl_X1_41 lk_HW_0 kk_HW_0_4 (dc dl_X1_passDay 32 rfl) ?_
              refine s_getR (pc := 62) fl_X1_208 lk_HW_15 kk_HW_15_4 (dc dl_X1_passDay 33 rfl) ?_
              refine s_iload_n (pc := 65) (dc dl_X1_passDay 34 rfl) rfl rfl ?_
              refine s_iald (pc := 66) lk_HW_19 (dc dl_X1_passDay 35 rfl) (fun v42 => ?_)
              refine s_iast (pc := 67) lk_HW_37 (dc dl_X1_passDay 36 rfl) ?_
              exact s_wk (hj38 ()) rfl
          · exact s_wk (hj38 ()) rfl
