def gX10_isWithin (x0 x1 x2 : Int32) : MM Int32 :=
  jn (fun (a2 : Int32) =>
  rz a2) (fun j1 =>
  jn (fun (a4 : Unit) =>
  j1 0) (fun j3 =>
  (if x0 < x1 then
  j3 ()
  else
  (if x2 < x0 then
  j3 ()
  else
  j1 1))))
set_option maxHeartbeats 4000000 in
theorem cn_X10_isWithin (l : Launch) (G : Gl) (hG : gOk G) (ad : Nat → Nat) (x0 x1 x2 : Int32) : Cn l G mX10_isWithin 0 lay_E ad [.int x0, .int x1, .int x2] (gX10_isWithin x0 x1 x2) := by
  refine cn_of (lv := [some (.int x0), some (.int x1), some (.int x2)]) (by decide +kernel) rfl (Nat.le_of_ble_eq_true rfl) rfl ?_
  unfold gX10_isWithin
  refine s_iload_n (pc := 0) (dc dl_X10_isWithin 0 rfl) rfl rfl ?_
  refine s_iload_n (pc := 1) (dc dl_X10_isWithin 1 rfl) rfl rfl ?_
  refine s_jn (pj := 15) (fun a2 : Int32 => [none, none, none]) (fun a2 : Int32 => [.int a2]) (fun a2 => ?_) (fun j1 hj1 => ?_)
  · exact s_zreturn (pc := 15) rfl (dc dl_X10_isWithin 9 rfl)
  · refine s_jn (pj := 14) (fun a4 : Unit => [none, none, none]) (fun a4 : Unit => []) (fun a4 => ?_) (fun j3 hj3 => ?_)
    · refine s_iconst (pc := 14) (v := 0) (dc dl_X10_isWithin 8 rfl) ic_0 ?_
      exact s_wk (hj1 0) rfl
    · refine s_icmp_lt (pc := 2) (tgt := 14) (dc dl_X10_isWithin 2 rfl) rfl ?_ ?_
      · exact s_wk (hj3 ()) rfl
      · refine s_iload_n (pc := 5) (dc dl_X10_isWithin 3 rfl) rfl rfl ?_
        refine s_iload_n (pc := 6) (dc dl_X10_isWithin 4 rfl) rfl rfl ?_
        refine s_icmp_gt (pc := 7) (tgt := 14) (dc dl_X10_isWithin 5 rfl) rfl ?_ ?_
        · exact s_wk (hj3 ()) rfl
        · refine s_iconst (pc := 10) (v := 1) (dc dl_X10_isWithin 6 rfl) ic_1 ?_
          refine s_goto (pc := 11) (tgt := 15) (dc dl_X10_isWithin 7 rfl) rfl ?_
          exact s_wk (hj1 1) rfl
def gJ9_min_7cf53 (x0 x1 : Int32) : MM Int32 :=
  jn (fun (a2 : Int32) =>
  pr a2) (fun j1 =>
  (if x1 < x0 then
  j1 x1
  else
  j1 x0))
set_option maxHeartbeats 4000000 in
theorem cn_J9_min_7cf53 (l : Launch) (G : Gl) (hG : gOk G) (ad : Nat → Nat) (x0 x1 : Int32) : Cn l G mJ9_min_7cf53 0 lay_E ad [.int x0, .int x1] (gJ9_min_7cf53 x0 x1) := by
  refine cn_of (lv := [some (.int x0), some (.int x1)]) (by decide +kernel) rfl (Nat.le_of_ble_eq_true rfl) rfl ?_
  unfold gJ9_min_7cf53
  refine s_iload_n (pc := 0) (dc dl_J9_min_7cf53 0 rfl) rfl rfl ?_
  refine s_iload_n (pc := 1) (dc dl_J9_min_7cf53 1 rfl) rfl rfl ?_
  refine s_jn (pj := 10) (fun a2 : Int32 => [none, none]) (fun a2 : Int32 => [.int a2]) (fun a2 => ?_) (fun j1 hj1 => ?_)
  · exact s_ireturn (pc := 10) rfl (dc dl_J9_min_7cf53 6 rfl)
  · refine s_icmp_gt (pc := 2) (tgt := 9) (dc dl_J9_min_7cf53 2 rfl) rfl ?_ ?_
    · refine s_iload_n (pc := 9) (dc dl_J9_min_7cf53 5 rfl) rfl rfl ?_
      exact s_wk (hj1 x1) rfl
    · refine s_iload_n (pc := 5) (dc dl_J9_min_7cf53 3 rfl) rfl rfl ?_
      refine s_goto (pc := 6) (tgt := 10) (dc dl_J9_min_7cf53 4 rfl) rfl ?_
      exact s_wk (hj1 x0) rfl
def gJ9_max_7cf53 (x0 x1 : Int32) : MM Int32 :=
  jn (fun (a2 : Int32) =>
  pr a2) (fun j1 =>
  (if x0 < x1 then
  j1 x1
  else
  j1 x0))
set_option maxHeartbeats 4000000 in
theorem cn_J9_max_7cf53 (l : Launch) (G : Gl) (hG : gOk G) (ad : Nat → Nat) (x0 x1 : Int32) : Cn l G mJ9_max_7cf53 0 lay_E ad [.int x0, .int x1] (gJ9_max_7cf53 x0 x1) := by
  refine cn_of (lv := [some (.int x0), some (.int x1)]) (by decide +kernel) rfl (Nat.le_of_ble_eq_true rfl) rfl ?_
  unfold gJ9_max_7cf53
  refine s_iload_n (pc := 0) (dc dl_J9_max_7cf53 0 rfl) rfl rfl ?_
  refine s_iload_n (pc := 1) (dc dl_J9_max_7cf53 1 rfl) rfl rfl ?_
  refine s_jn (pj := 10) (fun a2 : Int32 => [none, none]) (fun a2 : Int32 => [.int a2]) (fun a2 => ?_) (fun j1 hj1 => ?_)
  · exact s_ireturn (pc := 10) rfl (dc dl_J9_max_7cf53 6 rfl)
  · refine s_icmp_lt (pc := 2) (tgt := 9) (dc dl_J9_max_7cf53 2 rfl) rfl ?_ ?_
    · refine s_iload_n (pc := 9) (dc dl_J9_max_7cf53 5 rfl) rfl rfl ?_
      exact s_wk (hj1 x1) rfl
    · refine s_iload_n (pc := 5) (dc dl_J9_max_7cf53 3 rfl) rfl rfl ?_
      refine s_goto (pc := 6) (tgt := 10) (dc dl_J9_max_7cf53 4 rfl) rfl ?_
      exact s_wk (hj1 x0) rfl
def gJ6_bitCount_0f7a4 (x0 : Int32) : MM Int32 :=
  lt (x0 - ((ish x0 1) &&& 1431655765)) fun y1 =>
  lt ((y1 &&& 858993459) + ((ish y1 2) &&& 858993459)) fun y2 =>
  lt ((y2 + (ish y2 4)) &&& 252645135) fun y3 =>
  lt (y3 + (ish y3 8)) fun y4 =>
  lt (y4 + (ish y4 16)) fun y5 =>
  pr (y5 &&& 63)
set_option maxHeartbeats 4000000 in
theorem cn_J6_bitCount_0f7a4 (l : Launch) (G : Gl) (hG : gOk G) (ad : Nat → Nat) (x0 : Int32) : Cn l G mJ6_bitCount_0f7a4 0 lay_E ad [.int x0] (gJ6_bitCount_0f7a4 x0) := by
  refine cn_of (lv := [some (.int x0)]) (by decide +kernel) rfl (Nat.le_of_ble_eq_true rfl) rfl ?_
  unfold gJ6_bitCount_0f7a4
  refine s_iload_n (pc := 0) (dc dl_J6_bitCount_0f7a4 0 rfl) rfl rfl ?_
  refine s_iload_n (pc := 1) (dc dl_J6_bitCount_0f7a4 1 rfl) rfl rfl ?_
  refine s_iconst (pc := 2) (v := 1) (dc dl_J6_bitCount_0f7a4 2 rfl) ic_1 ?_
  refine s_iushr (pc := 3) (dc dl_J6_bitCount_0f7a4 3 rfl) ?_
  refine s_ldcw (pc := 4) (v := 1431655765) ct_J6_265 (dc dl_J6_bitCount_0f7a4 4 rfl) ?_
  refine s_iand (pc := 7) (dc dl_J6_bitCount_0f7a4 5 rfl) ?_
  refine s_isub (pc := 8) (dc dl_J6_bitCount_0f7a4 6 rfl) ?_
  refine s_istore_nL (pc := 9) (lf' := fun y1 => [some (.int y1)]) (dc dl_J6_bitCount_0f7a4 7 rfl) rfl (Nat.le_of_ble_eq_true rfl) (fun _ => rfl) (fun y1 => ?_)
  refine s_iload_n (pc := 10) (dc dl_J6_bitCount_0f7a4 8 rfl) rfl rfl ?_
  refine s_ldcw (pc := 11) (v := 858993459) ct_J6_266 (dc dl_J6_bitCount_0f7a4 9 rfl) ?_
  refine s_iand (pc := 14) (dc dl_J6_bitCount_0f7a4 10 rfl) ?_
  refine s_iload_n (pc := 15) (dc dl_J6_bitCount_0f7a4 11 rfl) rfl rfl ?_
  refine s_iconst (pc := 16) (v := 2) (dc dl_J6_bitCount_0f7a4 12 rfl) ic_2 ?_
  refine s_iushr (pc := 17) (dc dl_J6_bitCount_0f7a4 13 rfl) ?_
  refine s_ldcw (pc := 18) (v := 858993459) ct_J6_266 (dc dl_J6_bitCount_0f7a4 14 rfl) ?_
  refine s_iand (pc := 21) (dc dl_J6_bitCount_0f7a4 15 rfl) ?_
  refine s_iadd (pc := 22) (dc dl_J6_bitCount_0f7a4 16 rfl) ?_
  refine s_istore_nL (pc := 23) (lf' := fun y2 => [some (.int y2)]) (dc dl_J6_bitCount_0f7a4 17 rfl) rfl (Nat.le_of_ble_eq_true rfl) (fun _ => rfl) (fun y2 => ?_)
  refine s_iload_n (pc := 24) (dc dl_J6_bitCount_0f7a4 18 rfl) rfl rfl ?_
  refine s_iload_n (pc := 25) (dc dl_J6_bitCount_0f7a4 19 rfl) rfl rfl ?_
  refine s_iconst (pc := 26) (v := 4) (dc dl_J6_bitCount_0f7a4 20 rfl) ic_4 ?_
  refine s_iushr (pc := 27) (dc dl_J6_bitCount_0f7a4 21 rfl) ?_
  refine s_iadd (pc := 28) (dc dl_J6_bitCount_0f7a4 22 rfl) ?_
  refine s_ldcw (pc := 29) (v := 252645135) ct_J6_267 (dc dl_J6_bitCount_0f7a4 23 rfl) ?_
  refine s_iand (pc := 32) (dc dl_J6_bitCount_0f7a4 24 rfl) ?_
  refine s_istore_nL (pc := 33) (lf' := fun y3 => [some (.int y3)]) (dc dl_J6_bitCount_0f7a4 25 rfl) rfl (Nat.le_of_ble_eq_true rfl) (fun _ => rfl) (fun y3 => ?_)
  refine s_iload_n (pc := 34) (dc dl_J6_bitCount_0f7a4 26 rfl) rfl rfl ?_
  refine s_iload_n (pc := 35) (dc dl_J6_bitCount_0f7a4 27 rfl) rfl rfl ?_
  refine s_bipush (pc := 36) (v := 8) (dc dl_J6_bitCount_0f7a4 28 rfl) bi_8 ?_
  refine s_iushr (pc := 38) (dc dl_J6_bitCount_0f7a4 29 rfl) ?_
  refine s_iadd (pc := 39) (dc dl_J6_bitCount_0f7a4 30 rfl) ?_
  refine s_istore_nL (pc := 40) (lf' := fun y4 => [some (.int y4)]) (dc dl_J6_bitCount_0f7a4 31 rfl) rfl (Nat.le_of_ble_eq_true rfl) (fun _ => rfl) (fun y4 => ?_)
  refine s_iload_n (pc := 41) (dc dl_J6_bitCount_0f7a4 32 rfl) rfl rfl ?_
  refine s_iload_n (pc := 42) (dc dl_J6_bitCount_0f7a4 33 rfl) rfl rfl ?_
  refine s_bipush (pc := 43) (v := 16) (dc dl_J6_bitCount_0f7a4 34 rfl) bi_16 ?_
  refine s_iushr (pc := 45) (dc dl_J6_bitCount_0f7a4 35 rfl) ?_
  refine s_iadd (pc := 46) (dc dl_J6_bitCount_0f7a4 36 rfl) ?_
  refine s_istore_nL (pc := 47) (lf' := fun y5 => [some (.int y5)]) (dc dl_J6_bitCount_0f7a4 37 rfl) rfl (Nat.le_of_ble_eq_true rfl) (fun _ => rfl) (fun y5 => ?_)
  refine s_iload_n (pc := 48) (dc dl_J6_bitCount_0f7a4 38 rfl) rfl rfl ?_
  refine s_bipush (pc := 49) (v := 63) (dc dl_J6_bitCount_0f7a4 39 rfl) bi_63 ?_
  refine s_iand (pc := 51) (dc dl_J6_bitCount_0f7a4 40 rfl) ?_
  exact s_ireturn (pc := 52) rfl (dc dl_J6_bitCount_0f7a4 41 rfl)
def gJ0_isLatin1_aae02 : MM Int32 :=
  lt 1 fun y1 =>
  jn (fun (a3 : Int32) =>
  rz a3) (fun j2 =>
  jn (fun (a5 : Unit) =>
  j2 0) (fun j4 =>
  (if y1 = 0 then
  j4 ()
  else
  lt 0 fun y6 =>
  (if y6 = 0 then
  j2 1
  else
  j4 ()))))
set_option maxHeartbeats 4000000 in
theorem cn_J0_isLatin1_aae02 (l : Launch) (G : Gl) (hG : gOk G) (ad : Nat → Nat) : Cn l G mJ0_isLatin1_aae02 0 lay_E ad [.ref (gW G)] (gJ0_isLatin1_aae02) := by
  refine cn_of (lv := [some (.ref (gW G))]) (by decide +kernel) rfl (Nat.le_of_ble_eq_true rfl) rfl ?_
  unfold gJ0_isLatin1_aae02
  refine s_getsZL (pc := 0) sl_J0_38 (dc dl_J0_isLatin1_aae02 0 rfl) (fun y1 => ?_)
  refine s_jn (pj := 18) (fun a3 : Int32 => [none]) (fun a3 : Int32 => [.int a3]) (fun a3 => ?_) (fun j2 hj2 => ?_)
  · exact s_zreturn (pc := 18) rfl (dc dl_J0_isLatin1_aae02 8 rfl)
  · refine s_jn (pj := 17) (fun a5 : Unit => [none]) (fun a5 : Unit => []) (fun a5 => ?_) (fun j4 hj4 => ?_)
    · refine s_iconst (pc := 17) (v := 0) (dc dl_J0_isLatin1_aae02 7 rfl) ic_0 ?_
      exact s_wk (hj2 0) rfl
    · refine s_if_eq (pc := 3) (tgt := 17) (dc dl_J0_isLatin1_aae02 1 rfl) rfl ?_ ?_
      · exact s_wk (hj4 ()) rfl
      · refine s_aload_n (pc := 6) (dc dl_J0_isLatin1_aae02 2 rfl) rfl rfl ?_
        refine s_strCL (pc := 7) sl_J0_15 (dc dl_J0_isLatin1_aae02 3 rfl) (fun y6 => ?_)
        refine s_if_ne (pc := 10) (tgt := 17) (dc dl_J0_isLatin1_aae02 4 rfl) rfl ?_ ?_
        · refine s_iconst (pc := 13) (v := 1) (dc dl_J0_isLatin1_aae02 5 rfl) ic_1 ?_
          refine s_goto (pc := 14) (tgt := 18) (dc dl_J0_isLatin1_aae02 6 rfl) rfl ?_
          exact s_wk (hj2 1) rfl
        · exact s_wk (hj4 ()) rfl
def gJ3_checkIndex_8e157 (x0 x1 : Int32) : MM Int32 :=
  jn (fun (a2 : Unit) =>
  fl) (fun j1 =>
  (if x0 < 0 then
  j1 ()
  else
  (if x0 < x1 then
  pr x0
  else
  j1 ())))
set_option maxHeartbeats 4000000 in
theorem cn_J3_checkIndex_8e157 (l : Launch) (G : Gl) (hG : gOk G) (ad : Nat → Nat) (x0 x1 : Int32) (o : Option Nat) : Cn l G mJ3_checkIndex_8e157 0 lay_E ad [.int x0, .int x1, va_rf o] (gJ3_checkIndex_8e157 x0 x1) := by
  cases o <;> refine cn_of (lv := [some (.int x0), some (.int x1), none]) (by decide +kernel) rfl (Nat.le_of_ble_eq_true rfl) rfl ?_
  all_goals unfold gJ3_checkIndex_8e157
  all_goals (
    refine s_iload_n (pc := 0) (dc dl_J3_checkIndex_8e157 0 rfl) rfl rfl ?_
    refine s_jn (pj := 9) (fun a2 : Unit => [some (.int x0), some (.int x1), none]) (fun a2 : Unit => []) (fun a2 => ?_) (fun j1 hj1 => ?_)
    · exact s_fl
    · refine s_if_lt (pc := 1) (tgt := 9) (dc dl_J3_checkIndex_8e157 1 rfl) rfl ?_ ?_
      · exact s_wk (hj1 ()) rfl
      · refine s_iload_n (pc := 4) (dc dl_J3_checkIndex_8e157 2 rfl) rfl rfl ?_
        refine s_iload_n (pc := 5) (dc dl_J3_checkIndex_8e157 3 rfl) rfl rfl ?_
        refine s_icmp_lt (pc := 6) (tgt := 16) (dc dl_J3_checkIndex_8e157 4 rfl) rfl ?_ ?_
        · refine s_iload_n (pc := 16) (dc dl_J3_checkIndex_8e157 10 rfl) rfl rfl ?_
          exact s_ireturn (pc := 17) rfl (dc dl_J3_checkIndex_8e157 11 rfl)
        · exact s_wk (hj1 ()) rfl
  )
def gJ0_checkIndex_df160 (x0 x1 : Int32) : MM Int32 :=
  bd (gJ3_checkIndex_8e157 x0 x1) fun r1 =>
  pr 0
set_option maxHeartbeats 4000000 in
theorem cn_J0_checkIndex_df160 (l : Launch) (G : Gl) (hG : gOk G) (ad : Nat → Nat) (x0 x1 : Int32) : Cn l G mJ0_checkIndex_df160 1 lay_E ad [.int x0, .int x1] (gJ0_checkIndex_df160 x0 x1) := by
  refine cn_of (lv := [some (.int x0), some (.int x1)]) (by decide +kernel) rfl (Nat.le_of_ble_eq_true rfl) rfl ?_
  unfold gJ0_checkIndex_df160
  refine s_iload_n (pc := 0) (dc dl_J0_checkIndex_df160 0 rfl) rfl rfl ?_
  refine s_iload_n (pc := 1) (dc dl_J0_checkIndex_df160 1 rfl) rfl rfl ?_
  refine s_getsF (pc := 2) sl_J0_1053 (dc dl_J0_checkIndex_df160 2 rfl) ?_
  refine s_call (pc := 5) (rest := []) hG (calls_S (mi := mJ0_checkIndex_df160) (As := [.int x0, .int x1, va_rf (gF G)]) (rest := []) hG (dc dl_J0_checkIndex_df160 3 rfl) mo_J3_checkIndex_8e157 ms_J3_checkIndex_8e157 ml_J0_1059 ⟨Nat.le_of_ble_eq_true rfl, Nat.le_of_ble_eq_true rfl⟩ rfl rfl (Nat.le_of_ble_eq_true rfl)) (cn_J3_checkIndex_8e157 l G hG ad x0 x1 (gF G)) rfl (fun r1 => ?_)
  refine s_pop (pc := 8) (dc dl_J0_checkIndex_df160 4 rfl) rfl ?_
  exact s_return (pc := 9) rfl (dc dl_J0_checkIndex_df160 5 rfl)
def gJ1_charAt_3b067 (x1 : Int32) : MM Int32 :=
  bd (gJ0_checkIndex_df160 x1 111) fun r1 =>
  bd (lc WDl x1) fun v2 =>
  rch (i2c (v2 &&& 255))
set_option maxHeartbeats 4000000 in
theorem cn_J1_charAt_3b067 (l : Launch) (G : Gl) (hG : gOk G) (ad : Nat → Nat) (x1 : Int32) : Cn l G mJ1_charAt_3b067 2 lay_E ad [.ref (gV G), .int x1] (gJ1_charAt_3b067 x1) := by
  refine cn_of (lv := [some (.ref (gV G)), some (.int x1)]) (by decide +kernel) rfl (Nat.le_of_ble_eq_true rfl) rfl ?_
  unfold gJ1_charAt_3b067
  refine s_iload_n (pc := 0) (dc dl_J1_charAt_3b067 0 rfl) rfl rfl ?_
  refine s_aload_n (pc := 1) (dc dl_J1_charAt_3b067 1 rfl) rfl rfl ?_
  refine s_tlenV (pc := 2) (dc dl_J1_charAt_3b067 2 rfl) ?_
  refine s_callv (pc := 3) (rest := []) hG (calls_S (mi := mJ1_charAt_3b067) (As := [.int x1, .int 111]) (rest := []) hG (dc dl_J1_charAt_3b067 3 rfl) mo_J0_checkIndex_df160 ms_J0_checkIndex_df160 ml_J1_9 ⟨Nat.le_of_ble_eq_true rfl, Nat.le_of_ble_eq_true rfl⟩ rfl rfl (Nat.le_of_ble_eq_true rfl)) (cn_J0_checkIndex_df160 l G hG ad x1 111) rfl (fun r1 => ?_)
  refine s_aload_n (pc := 6) (dc dl_J1_charAt_3b067 4 rfl) rfl rfl ?_
  refine s_iload_n (pc := 7) (dc dl_J1_charAt_3b067 5 rfl) rfl rfl ?_
  refine s_taldV (pc := 8) (dc dl_J1_charAt_3b067 6 rfl) (fun v2 => ?_)
  refine s_sipush (pc := 9) (v := 255) (dc dl_J1_charAt_3b067 7 rfl) si_255 ?_
  refine s_iand (pc := 12) (dc dl_J1_charAt_3b067 8 rfl) ?_
  refine s_i2c (pc := 13) (dc dl_J1_charAt_3b067 9 rfl) ?_
  exact s_creturn (pc := 14) rfl (dc dl_J1_charAt_3b067 10 rfl)
def gJ0_charAt_5068e (x1 : Int32) : MM Int32 :=
  bd gJ0_isLatin1_aae02 fun r1 =>
  (if r1 = 0 then
  fl
  else
  bd (gJ1_charAt_3b067 x1) fun r2 =>
  rch r2)
set_option maxHeartbeats 4000000 in
theorem cn_J0_charAt_5068e (l : Launch) (G : Gl) (hG : gOk G) (ad : Nat → Nat) (x1 : Int32) : Cn l G mJ0_charAt_5068e 3 lay_E ad [.ref (gW G), .int x1] (gJ0_charAt_5068e x1) := by
  refine cn_of (lv := [some (.ref (gW G)), some (.int x1)]) (by decide +kernel) rfl (Nat.le_of_ble_eq_true rfl) rfl ?_
  unfold gJ0_charAt_5068e
  refine s_aload_n (pc := 0) (dc dl_J0_charAt_5068e 0 rfl) rfl rfl ?_
  refine s_call (pc := 1) (rest := []) hG (calls_VS (mi := mJ0_charAt_5068e) (As := []) (rest := []) (dc dl_J0_charAt_5068e 1 rfl) mo_J0_isLatin1_aae02 mv_J0_isLatin1_aae02 ml_J0_492 ⟨Nat.le_of_ble_eq_true rfl, Nat.le_of_ble_eq_true rfl⟩ rfl rfl (Nat.le_of_ble_eq_true rfl) rfl) (cn_J0_isLatin1_aae02 l G hG ad) rfl (fun r1 => ?_)
  refine s_if_eq (pc := 4) (tgt := 16) (dc dl_J0_charAt_5068e 2 rfl) rfl ?_ ?_
  · exact s_fl
  · refine s_aload_n (pc := 7) (dc dl_J0_charAt_5068e 3 rfl) rfl rfl ?_
    refine s_strV (pc := 8) sl_J0_9 (dc dl_J0_charAt_5068e 4 rfl) ?_
    refine s_iload_n (pc := 11) (dc dl_J0_charAt_5068e 5 rfl) rfl rfl ?_
    refine s_call (pc := 12) (rest := []) hG (calls_S (mi := mJ0_charAt_5068e) (As := [.ref (gV G), .int x1]) (rest := []) hG (dc dl_J0_charAt_5068e 6 rfl) mo_J1_charAt_3b067 ms_J1_charAt_3b067 ml_J0_495 ⟨Nat.le_of_ble_eq_true rfl, Nat.le_of_ble_eq_true rfl⟩ rfl rfl (Nat.le_of_ble_eq_true rfl)) (cn_J1_charAt_3b067 l G hG ad x1) rfl (fun r2 => ?_)
    exact s_creturn (pc := 15) rfl (dc dl_J0_charAt_5068e 7 rfl)
def gJ0_coder_7d493 : MM Int32 :=
  lt 1 fun y1 =>
  jn (fun (a3 : Int32) =>
  rby a3) (fun j2 =>
  (if y1 = 0 then
  j2 1
  else
  lt 0 fun y4 =>
  j2 y4))
set_option maxHeartbeats 4000000 in
theorem cn_J0_coder_7d493 (l : Launch) (G : Gl) (hG : gOk G) (ad : Nat → Nat) : Cn l G mJ0_coder_7d493 0 lay_E ad [.ref (gW G)] (gJ0_coder_7d493) := by
  refine cn_of (lv := [some (.ref (gW G))]) (by decide +kernel) rfl (Nat.le_of_ble_eq_true rfl) rfl ?_
  unfold gJ0_coder_7d493
  refine s_getsZL (pc := 0) sl_J0_38 (dc dl_J0_coder_7d493 0 rfl) (fun y1 => ?_)
  refine s_jn (pj := 14) (fun a3 : Int32 => [none]) (fun a3 : Int32 => [.int a3]) (fun a3 => ?_) (fun j2 hj2 => ?_)
  · exact s_breturn (pc := 14) rfl (dc dl_J0_coder_7d493 6 rfl)
  · refine s_if_eq (pc := 3) (tgt := 13) (dc dl_J0_coder_7d493 1 rfl) rfl ?_ ?_
    · refine s_iconst (pc := 13) (v := 1) (dc dl_J0_coder_7d493 5 rfl) ic_1 ?_
      exact s_wk (hj2 1) rfl
    · refine s_aload_n (pc := 6) (dc dl_J0_coder_7d493 2 rfl) rfl rfl ?_
      refine s_strCL (pc := 7) sl_J0_15 (dc dl_J0_coder_7d493 3 rfl) (fun y4 => ?_)
      refine s_goto (pc := 10) (tgt := 14) (dc dl_J0_coder_7d493 4 rfl) rfl ?_
      exact s_wk (hj2 y4) rfl
def gJ0_length_8abf5 : MM Int32 :=
  bd gJ0_coder_7d493 fun r1 =>
  pr (111 >>> (r1 &&& 31))
set_option maxHeartbeats 4000000 in
theorem cn_J0_length_8abf5 (l : Launch) (G : Gl) (hG : gOk G) (ad : Nat → Nat) : Cn l G mJ0_length_8abf5 1 lay_E ad [.ref (gW G)] (gJ0_length_8abf5) := by
  refine cn_of (lv := [some (.ref (gW G))]) (by decide +kernel) rfl (Nat.le_of_ble_eq_true rfl) rfl ?_
  unfold gJ0_length_8abf5
  refine s_aload_n (pc := 0) (dc dl_J0_length_8abf5 0 rfl) rfl rfl ?_
  refine s_strV (pc := 1) sl_J0_9 (dc dl_J0_length_8abf5 1 rfl) ?_
  refine s_tlenV (pc := 4) (dc dl_J0_length_8abf5 2 rfl) ?_
  refine s_aload_n (pc := 5) (dc dl_J0_length_8abf5 3 rfl) rfl rfl ?_
  refine s_call (pc := 6) (rest := [.int 111]) hG (calls_VS (mi := mJ0_length_8abf5) (As := []) (rest := [.int 111]) (dc dl_J0_length_8abf5 4 rfl) mo_J0_coder_7d493 mv_J0_coder_7d493 ml_J0_335 ⟨Nat.le_of_ble_eq_true rfl, Nat.le_of_ble_eq_true rfl⟩ rfl rfl (Nat.le_of_ble_eq_true rfl) rfl) (cn_J0_coder_7d493 l G hG ad) rfl (fun r1 => ?_)
  refine s_ishr (pc := 9) (dc dl_J0_length_8abf5 5 rfl) ?_
  exact s_ireturn (pc := 10) rfl (dc dl_J0_length_8abf5 6 rfl)
def gJ9_abs_0f7a4 (x0 : Int32) : MM Int32 :=
  jn (fun (a2 : Int32) =>
  pr a2) (fun j1 =>
  (if 0 ≤ x0 then
  j1 x0
  else
  j1 (-x0)))
set_option maxHeartbeats 4000000 in
theorem cn_J9_abs_0f7a4 (l : Launch) (G : Gl) (hG : gOk G) (ad : Nat → Nat) (x0 : Int32) : Cn l G mJ9_abs_0f7a4 0 lay_E ad [.int x0] (gJ9_abs_0f7a4 x0) := by
  refine cn_of (lv := [some (.int x0)]) (by decide +kernel) rfl (Nat.le_of_ble_eq_true rfl) rfl ?_
  unfold gJ9_abs_0f7a4
  refine s_iload_n (pc := 0) (dc dl_J9_abs_0f7a4 0 rfl) rfl rfl ?_
  refine s_jn (pj := 10) (fun a2 : Int32 => [none]) (fun a2 : Int32 => [.int a2]) (fun a2 => ?_) (fun j1 hj1 => ?_)
  · exact s_ireturn (pc := 10) rfl (dc dl_J9_abs_0f7a4 6 rfl)
  · refine s_if_ge (pc := 1) (tgt := 9) (dc dl_J9_abs_0f7a4 1 rfl) rfl ?_ ?_
    · refine s_iload_n (pc := 9) (dc dl_J9_abs_0f7a4 5 rfl) rfl rfl ?_
      exact s_wk (hj1 x0) rfl
    · refine s_iload_n (pc := 4) (dc dl_J9_abs_0f7a4 2 rfl) rfl rfl ?_
      refine s_ineg (pc := 5) (dc dl_J9_abs_0f7a4 3 rfl) ?_
      refine s_goto (pc := 6) (tgt := 10) (dc dl_J9_abs_0f7a4 4 rfl) rfl ?_
      exact s_wk (hj1 (-x0)) rfl
def gJ7_fill_53178 (x1 : Int32) : MM Int32 :=
  bd (ln 0) fun v1 =>
  loopC 100000 (fun (self2 : Int32 → MM Int32) (s3 : Int32) =>
  (if v1 ≤ s3 then
  pr 0
  else
  bd (sa 0 s3 x1) fun _ =>
  lt (s3 + 1) fun y4 =>
  self2 y4)) 0
set_option maxHeartbeats 4000000 in
theorem cn_J7_fill_53178 (l : Launch) (G : Gl) (hG : gOk G) (ad : Nat → Nat) (x1 : Int32) : Cn l G mJ7_fill_53178 0 lay_A ad [.ref (ad 0), .int x1] (gJ7_fill_53178 x1) := by
  refine cn_of (lv := [some (.ref (ad 0)), some (.int x1), none, none]) (by decide +kernel) rfl (Nat.le_of_ble_eq_true rfl) rfl ?_
  unfold gJ7_fill_53178
  refine s_iconst (pc := 0) (v := 0) (dc dl_J7_fill_53178 0 rfl) ic_0 ?_
  refine s_istore_n (pc := 1) (lv' := [some (.ref (ad 0)), some (.int x1), some (.int 0), none]) (dc dl_J7_fill_53178 1 rfl) rfl (Nat.le_of_ble_eq_true rfl) rfl ?_
  refine s_aload_n (pc := 2) (dc dl_J7_fill_53178 2 rfl) rfl rfl ?_
  refine s_alen (pc := 3) lk_A_0 (dc dl_J7_fill_53178 3 rfl) (fun v1 => ?_)
  refine s_istore_n (pc := 4) (lv' := [some (.ref (ad 0)), some (.int x1), some (.int 0), some (.int v1)]) (dc dl_J7_fill_53178 4 rfl) rfl (Nat.le_of_ble_eq_true rfl) rfl ?_
  refine s_weak (lv' := [some (.ref (ad 0)), some (.int x1), some (.int 0), some (.int v1)]) rfl ?_
  refine s_loop (pc := 5) (fun s3 : Int32 => [some (.ref (ad 0)), some (.int x1), some (.int s3), some (.int v1)]) [] (fun self2 hself2 s3 => ?_) _ 0
  refine s_iload_n (pc := 5) (dc dl_J7_fill_53178 5 rfl) rfl rfl ?_
  refine s_iload_n (pc := 6) (dc dl_J7_fill_53178 6 rfl) rfl rfl ?_
  refine s_icmp_ge (pc := 7) (tgt := 20) (dc dl_J7_fill_53178 7 rfl) rfl ?_ ?_
  · exact s_return (pc := 20) rfl (dc dl_J7_fill_53178 14 rfl)
  · refine s_aload_n (pc := 10) (dc dl_J7_fill_53178 8 rfl) rfl rfl ?_
    refine s_iload_n (pc := 11) (dc dl_J7_fill_53178 9 rfl) rfl rfl ?_
    refine s_iload_n (pc := 12) (dc dl_J7_fill_53178 10 rfl) rfl rfl ?_
    refine s_iast (pc := 13) lk_A_0 (dc dl_J7_fill_53178 11 rfl) ?_
    refine s_iincL (pc := 14) (lf' := fun y4 => [some (.ref (ad 0)), some (.int x1), some (.int y4), some (.int v1)]) (dc dl_J7_fill_53178 12 rfl) rfl rfl (Nat.le_of_ble_eq_true rfl) (fun _ => rfl) (fun y4 => ?_)
    refine s_goto (pc := 17) (tgt := 5) (dc dl_J7_fill_53178 13 rfl) rfl ?_
    exact s_wk (hself2 y4) rfl
def gJ9_floorMod_7cf53 (x0 x1 : Int32) : MM Int32 :=
  nz x1 (
  lt (irm x0 x1) fun y1 =>
  jn (fun (a3 : Unit) =>
  pr y1) (fun j2 =>
  (if 0 ≤ (x0 ^^^ x1) then
  j2 ()
  else
  (if y1 = 0 then
  j2 ()
  else
  pr (y1 + x1)))))
set_option maxHeartbeats 4000000 in
theorem cn_J9_floorMod_7cf53 (l : Launch) (G : Gl) (hG : gOk G) (ad : Nat → Nat) (x0 x1 : Int32) : Cn l G mJ9_floorMod_7cf53 0 lay_E ad [.int x0, .int x1] (gJ9_floorMod_7cf53 x0 x1) := by
  refine cn_of (lv := [some (.int x0), some (.int x1), none]) (by decide +kernel) rfl (Nat.le_of_ble_eq_true rfl) rfl ?_
  unfold gJ9_floorMod_7cf53
  refine s_iload_n (pc := 0) (dc dl_J9_floorMod_7cf53 0 rfl) rfl rfl ?_
  refine s_iload_n (pc := 1) (dc dl_J9_floorMod_7cf53 1 rfl) rfl rfl ?_
  refine s_irem (pc := 2) (dc dl_J9_floorMod_7cf53 2 rfl) ?_
  refine s_istore_nL (pc := 3) (lf' := fun y1 => [some (.int x0), some (.int x1), some (.int y1)]) (dc dl_J9_floorMod_7cf53 3 rfl) rfl (Nat.le_of_ble_eq_true rfl) (fun _ => rfl) (fun y1 => ?_)
  refine s_iload_n (pc := 4) (dc dl_J9_floorMod_7cf53 4 rfl) rfl rfl ?_
  refine s_iload_n (pc := 5) (dc dl_J9_floorMod_7cf53 5 rfl) rfl rfl ?_
  refine s_ixor (pc := 6) (dc dl_J9_floorMod_7cf53 6 rfl) ?_
  refine s_jn (pj := 18) (fun a3 : Unit => [none, none, some (.int y1)]) (fun a3 : Unit => []) (fun a3 => ?_) (fun j2 hj2 => ?_)
  · refine s_iload_n (pc := 18) (dc dl_J9_floorMod_7cf53 14 rfl) rfl rfl ?_
    exact s_ireturn (pc := 19) rfl (dc dl_J9_floorMod_7cf53 15 rfl)
  · refine s_if_ge (pc := 7) (tgt := 18) (dc dl_J9_floorMod_7cf53 7 rfl) rfl ?_ ?_
    · exact s_wk (hj2 ()) rfl
    · refine s_iload_n (pc := 10) (dc dl_J9_floorMod_7cf53 8 rfl) rfl rfl ?_
      refine s_if_eq (pc := 11) (tgt := 18) (dc dl_J9_floorMod_7cf53 9 rfl) rfl ?_ ?_
      · exact s_wk (hj2 ()) rfl
      · refine s_iload_n (pc := 14) (dc dl_J9_floorMod_7cf53 10 rfl) rfl rfl ?_
        refine s_iload_n (pc := 15) (dc dl_J9_floorMod_7cf53 11 rfl) rfl rfl ?_
        refine s_iadd (pc := 16) (dc dl_J9_floorMod_7cf53 12 rfl) ?_
        exact s_ireturn (pc := 17) rfl (dc dl_J9_floorMod_7cf53 13 rfl)
