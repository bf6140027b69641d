def gX0_copy : MM Int32 :=
  bd (ln 1) fun v1 =>
  bd (cpy 3 0 1 0 v1) fun _ =>
  pr 0
set_option maxHeartbeats 4000000 in
theorem cn_X0_copy (l : Launch) (G : Gl) (hG : gOk G) (ad : Nat → Nat) : Cn l G mX0_copy 1 lay_Book2 ad [.ref (ad 0), .ref (ad 2)] (gX0_copy) := by
  refine cn_of (lv := [some (.ref (ad 0)), some (.ref (ad 2))]) (by decide +kernel) rfl (Nat.le_of_ble_eq_true rfl) rfl ?_
  unfold gX0_copy
  refine s_aload_n (pc := 0) (dc dl_X0_copy 0 rfl) rfl rfl ?_
  refine s_getR (pc := 1) fl_X0_9 lk_Book2_2 kk_Book2_2_0 (dc dl_X0_copy 1 rfl) ?_
  refine s_iconst (pc := 4) (v := 0) (dc dl_X0_copy 2 rfl) ic_0 ?_
  refine s_aload_n (pc := 5) (dc dl_X0_copy 3 rfl) rfl rfl ?_
  refine s_getR (pc := 6) fl_X0_9 lk_Book2_0 kk_Book2_0_0 (dc dl_X0_copy 4 rfl) ?_
  refine s_iconst (pc := 9) (v := 0) (dc dl_X0_copy 5 rfl) ic_0 ?_
  refine s_aload_n (pc := 10) (dc dl_X0_copy 6 rfl) rfl rfl ?_
  refine s_getR (pc := 11) fl_X0_9 lk_Book2_0 kk_Book2_0_0 (dc dl_X0_copy 7 rfl) ?_
  refine s_alen (pc := 14) lk_Book2_1 (dc dl_X0_copy 8 rfl) (fun v1 => ?_)
  refine s_acopy (pc := 15) (si := 3) (di := 1) ml_X0_15 lk_Book2_3 lk_Book2_1 (Nat.le_of_ble_eq_true rfl) (dc dl_X0_copy 9 rfl) (Nat.le_of_ble_eq_true rfl) ?_
  exact s_return (pc := 18) rfl (dc dl_X0_copy 10 rfl)
def gX0_read (x1 x2 : Int32) : MM Int32 :=
  bd (lf rh0 0 (gX10_isWithin x1 0 149)) fun r1 =>
  jn (fun (a3 : Unit) =>
  pr ((-2))) (fun j2 =>
  (if r1 = 0 then
  j2 ()
  else
  bd (lf rh0 0 (gX10_isWithin x2 0 3)) fun r4 =>
  (if r4 = 0 then
  j2 ()
  else
  bd (la 1 ((x1 * 4) + x2)) fun v5 =>
  pr v5)))
set_option maxHeartbeats 4000000 in
theorem cn_X0_read (l : Launch) (G : Gl) (hG : gOk G) (ad : Nat → Nat) (x1 x2 : Int32) : Cn l G mX0_read 1 lay_Book ad [.ref (ad 0), .int x1, .int x2] (gX0_read x1 x2) := by
  refine cn_of (lv := [some (.ref (ad 0)), some (.int x1), some (.int x2)]) (by decide +kernel) rfl (Nat.le_of_ble_eq_true rfl) rfl ?_
  unfold gX0_read
  refine s_iload_n (pc := 0) (dc dl_X0_read 0 rfl) rfl rfl ?_
  refine s_iconst (pc := 1) (v := 0) (dc dl_X0_read 1 rfl) ic_0 ?_
  refine s_sipush (pc := 2) (v := 149) (dc dl_X0_read 2 rfl) si_149 ?_
  refine s_calll (pc := 5) (ρ := rh0) (rest := []) hG (ss_Book_E_rh0) (calls_SN (mi := mX0_read) (As := [.int x1, .int 0, .int 149]) (rest := []) hG (dc dl_X0_read 3 rfl) mo_X10_isWithin ms_X10_isWithin ml_X0_21 ⟨Nat.le_of_ble_eq_true rfl, Nat.le_of_ble_eq_true rfl⟩ rfl rfl (Nat.le_of_ble_eq_true rfl)) (cn_X10_isWithin l G hG (fun i => ad (rh0 i)) x1 0 149) rfl rfl (fun r1 => ?_)
  refine s_jn (pj := 20) (fun a3 : Unit => [none, none, none]) (fun a3 : Unit => []) (fun a3 => ?_) (fun j2 hj2 => ?_)
  · refine s_bipush (pc := 20) (v := (-2)) (dc dl_X0_read 10 rfl) bi_m2 ?_
    exact s_ireturn (pc := 22) rfl (dc dl_X0_read 11 rfl)
  · refine s_if_eq (pc := 8) (tgt := 20) (dc dl_X0_read 4 rfl) rfl ?_ ?_
    · exact s_wk (hj2 ()) rfl
    · refine s_iload_n (pc := 11) (dc dl_X0_read 5 rfl) rfl rfl ?_
      refine s_iconst (pc := 12) (v := 0) (dc dl_X0_read 6 rfl) ic_0 ?_
      refine s_iconst (pc := 13) (v := 3) (dc dl_X0_read 7 rfl) ic_3 ?_
      refine s_calll (pc := 14) (ρ := rh0) (rest := []) hG (ss_Book_E_rh0) (calls_SN (mi := mX0_read) (As := [.int x2, .int 0, .int 3]) (rest := []) hG (dc dl_X0_read 8 rfl) mo_X10_isWithin ms_X10_isWithin ml_X0_21 ⟨Nat.le_of_ble_eq_true rfl, Nat.le_of_ble_eq_true rfl⟩ rfl rfl (Nat.le_of_ble_eq_true rfl)) (cn_X10_isWithin l G hG (fun i => ad (rh0 i)) x2 0 3) rfl rfl (fun r4 => ?_)
      refine s_if_ne (pc := 17) (tgt := 23) (dc dl_X0_read 9 rfl) rfl ?_ ?_
      · exact s_wk (hj2 ()) rfl
      · refine s_aload_n (pc := 23) (dc dl_X0_read 12 rfl) rfl rfl ?_
        refine s_getR (pc := 24) fl_X0_9 lk_Book_0 kk_Book_0_0 (dc dl_X0_read 13 rfl) ?_
        refine s_iload_n (pc := 27) (dc dl_X0_read 14 rfl) rfl rfl ?_
        refine s_iconst (pc := 28) (v := 4) (dc dl_X0_read 15 rfl) ic_4 ?_
        refine s_imul (pc := 29) (dc dl_X0_read 16 rfl) ?_
        refine s_iload_n (pc := 30) (dc dl_X0_read 17 rfl) rfl rfl ?_
        refine s_iadd (pc := 31) (dc dl_X0_read 18 rfl) ?_
        refine s_iald (pc := 32) lk_Book_1 (dc dl_X0_read 19 rfl) (fun v5 => ?_)
        exact s_ireturn (pc := 33) rfl (dc dl_X0_read 20 rfl)
def gX0_write (x2 x3 x4 : Int32) : MM Int32 :=
  bd (ld 2 0) fun v1 =>
  jn (fun (a3 : Unit) =>
  pr 0) (fun j2 =>
  (if v1 = 0 then
  bd (ld 2 3) fun v4 =>
  bd (lf rh0 0 (gX10_isWithin v4 0 149)) fun r5 =>
  (if r5 = 0 then
  j2 ()
  else
  bd (ld 2 3) fun v6 =>
  lt (v6 * 4) fun y7 =>
  bd (ld 2 2) fun v8 =>
  bd (sa 1 y7 v8) fun _ =>
  bd (sa 1 (y7 + 1) x2) fun _ =>
  bd (sa 1 (y7 + 2) x3) fun _ =>
  bd (sa 1 (y7 + 3) x4) fun _ =>
  bd (ld 2 3) fun v9 =>
  bd (sv 2 3 (v9 + 1)) fun _ =>
  pr 0)
  else
  j2 ()))
set_option maxHeartbeats 4000000 in
theorem cn_X0_write (l : Launch) (G : Gl) (hG : gOk G) (ad : Nat → Nat) (x2 x3 x4 : Int32) : Cn l G mX0_write 1 lay_BookW ad [.ref (ad 0), .ref (ad 2), .int x2, .int x3, .int x4] (gX0_write x2 x3 x4) := by
  refine cn_of (lv := [some (.ref (ad 0)), some (.ref (ad 2)), some (.int x2), some (.int x3), some (.int x4), none]) (by decide +kernel) rfl (Nat.le_of_ble_eq_true rfl) rfl ?_
  unfold gX0_write
  refine s_aload_n (pc := 0) (dc dl_X0_write 0 rfl) rfl rfl ?_
  refine s_getI (pc := 1) fl_X0_25 lk_BookW_2 kk_BookW_2_0 (dc dl_X0_write 1 rfl) (fun v1 => ?_)
  refine s_jn (pj := 21) (fun a3 : Unit => [none, none, none, none, none, none]) (fun a3 : Unit => []) (fun a3 => ?_) (fun j2 hj2 => ?_)
  · exact s_return (pc := 21) rfl (dc dl_X0_write 9 rfl)
  · refine s_if_ne (pc := 4) (tgt := 21) (dc dl_X0_write 2 rfl) rfl ?_ ?_
    · refine s_aload_n (pc := 7) (dc dl_X0_write 3 rfl) rfl rfl ?_
      refine s_getI (pc := 8) fl_X0_31 lk_BookW_2 kk_BookW_2_3 (dc dl_X0_write 4 rfl) (fun v4 => ?_)
      refine s_iconst (pc := 11) (v := 0) (dc dl_X0_write 5 rfl) ic_0 ?_
      refine s_sipush (pc := 12) (v := 149) (dc dl_X0_write 6 rfl) si_149 ?_
      refine s_calll (pc := 15) (ρ := rh0) (rest := []) hG (ss_BookW_E_rh0) (calls_SN (mi := mX0_write) (As := [.int v4, .int 0, .int 149]) (rest := []) hG (dc dl_X0_write 7 rfl) mo_X10_isWithin ms_X10_isWithin ml_X0_21 ⟨Nat.le_of_ble_eq_true rfl, Nat.le_of_ble_eq_true rfl⟩ rfl rfl (Nat.le_of_ble_eq_true rfl)) (cn_X10_isWithin l G hG (fun i => ad (rh0 i)) v4 0 149) rfl rfl (fun r5 => ?_)
      refine s_if_ne (pc := 18) (tgt := 22) (dc dl_X0_write 8 rfl) rfl ?_ ?_
      · exact s_wk (hj2 ()) rfl
      · refine s_aload_n (pc := 22) (dc dl_X0_write 10 rfl) rfl rfl ?_
        refine s_getI (pc := 23) fl_X0_31 lk_BookW_2 kk_BookW_2_3 (dc dl_X0_write 11 rfl) (fun v6 => ?_)
        refine s_iconst (pc := 26) (v := 4) (dc dl_X0_write 12 rfl) ic_4 ?_
        refine s_imul (pc := 27) (dc dl_X0_write 13 rfl) ?_
        refine s_istoreL (pc := 28) (lf' := fun y7 => [some (.ref (ad 0)), some (.ref (ad 2)), some (.int x2), some (.int x3), some (.int x4), some (.int y7)]) (dc dl_X0_write 14 rfl) (Nat.le_of_ble_eq_true rfl) (fun _ => rfl) (fun y7 => ?_)
        refine s_aload_n (pc := 30) (dc dl_X0_write 15 rfl) rfl rfl ?_
        refine s_getR (pc := 31) fl_X0_9 lk_BookW_0 kk_BookW_0_0 (dc dl_X0_write 16 rfl) ?_
        refine s_iload (pc := 34) (dc dl_X0_write 17 rfl) rfl ?_
        refine s_aload_n (pc := 36) (dc dl_X0_write 18 rfl) rfl rfl ?_
        refine s_getI (pc := 37) fl_X0_35 lk_BookW_2 kk_BookW_2_2 (dc dl_X0_write 19 rfl) (fun v8 => ?_)
        refine s_iast (pc := 40) lk_BookW_1 (dc dl_X0_write 20 rfl) ?_
        refine s_aload_n (pc := 41) (dc dl_X0_write 21 rfl) rfl rfl ?_
        refine s_getR (pc := 42) fl_X0_9 lk_BookW_0 kk_BookW_0_0 (dc dl_X0_write 22 rfl) ?_
        refine s_iload (pc := 45) (dc dl_X0_write 23 rfl) rfl ?_
        refine s_iconst (pc := 47) (v := 1) (dc dl_X0_write 24 rfl) ic_1 ?_
        refine s_iadd (pc := 48) (dc dl_X0_write 25 rfl) ?_
        refine s_iload_n (pc := 49) (dc dl_X0_write 26 rfl) rfl rfl ?_
        refine s_iast (pc := 50) lk_BookW_1 (dc dl_X0_write 27 rfl) ?_
        refine s_aload_n (pc := 51) (dc dl_X0_write 28 rfl) rfl rfl ?_
        refine s_getR (pc := 52) fl_X0_9 lk_BookW_0 kk_BookW_0_0 (dc dl_X0_write 29 rfl) ?_
        refine s_iload (pc := 55) (dc dl_X0_write 30 rfl) rfl ?_
        refine s_iconst (pc := 57) (v := 2) (dc dl_X0_write 31 rfl) ic_2 ?_
        refine s_iadd (pc := 58) (dc dl_X0_write 32 rfl) ?_
        refine s_iload_n (pc := 59) (dc dl_X0_write 33 rfl) rfl rfl ?_
        refine s_iast (pc := 60) lk_BookW_1 (dc dl_X0_write 34 rfl) ?_
        refine s_aload_n (pc := 61) (dc dl_X0_write 35 rfl) rfl rfl ?_
        refine s_getR (pc := 62) fl_X0_9 lk_BookW_0 kk_BookW_0_0 (dc dl_X0_write 36 rfl) ?_
        refine s_iload (pc := 65) (dc dl_X0_write 37 rfl) rfl ?_
        refine s_iconst (pc := 67) (v := 3) (dc dl_X0_write 38 rfl) ic_3 ?_
        refine s_iadd (pc := 68) (dc dl_X0_write 39 rfl) ?_
        refine s_iload (pc := 69) (dc dl_X0_write 40 rfl) rfl ?_
        refine s_iast (pc := 71) lk_BookW_1 (dc dl_X0_write 41 rfl) ?_
        refine s_aload_n (pc := 72) (dc dl_X0_write 42 rfl) rfl rfl ?_
        refine s_dup (pc := 73) (dc dl_X0_write 43 rfl) rfl ?_
        refine s_getI (pc := 74) fl_X0_31 lk_BookW_2 kk_BookW_2_3 (dc dl_X0_write 44 rfl) (fun v9 => ?_)
        refine s_iconst (pc := 77) (v := 1) (dc dl_X0_write 45 rfl) ic_1 ?_
        refine s_iadd (pc := 78) (dc dl_X0_write 46 rfl) ?_
        refine s_putI (pc := 79) fw_X0_31 lk_BookW_2 kk_BookW_2_3 (dc dl_X0_write 47 rfl) ?_
        exact s_return (pc := 82) rfl (dc dl_X0_write 48 rfl)
    · exact s_wk (hj2 ()) rfl
def gX5_copy : MM Int32 :=
  bd (ld 5 0) fun v1 =>
  bd (sv 0 0 v1) fun _ =>
  bd (cpy 6 0 1 0 16) fun _ =>
  bd (cpy 7 0 2 0 16) fun _ =>
  bd (cpy 8 0 3 0 16) fun _ =>
  bd (cpy 9 0 4 0 16) fun _ =>
  pr 0
set_option maxHeartbeats 4000000 in
theorem cn_X5_copy (l : Launch) (G : Gl) (hG : gOk G) (ad : Nat → Nat) : Cn l G mX5_copy 1 lay_Lines2 ad [.ref (ad 0), .ref (ad 5)] (gX5_copy) := by
  refine cn_of (lv := [some (.ref (ad 0)), some (.ref (ad 5))]) (by decide +kernel) rfl (Nat.le_of_ble_eq_true rfl) rfl ?_
  unfold gX5_copy
  refine s_aload_n (pc := 0) (dc dl_X5_copy 0 rfl) rfl rfl ?_
  refine s_aload_n (pc := 1) (dc dl_X5_copy 1 rfl) rfl rfl ?_
  refine s_getI (pc := 2) fl_X5_9 lk_Lines2_5 kk_Lines2_5_0 (dc dl_X5_copy 2 rfl) (fun v1 => ?_)
  refine s_putI (pc := 5) fw_X5_9 lk_Lines2_0 kk_Lines2_0_0 (dc dl_X5_copy 3 rfl) ?_
  refine s_aload_n (pc := 8) (dc dl_X5_copy 4 rfl) rfl rfl ?_
  refine s_getR (pc := 9) fl_X5_15 lk_Lines2_5 kk_Lines2_5_1 (dc dl_X5_copy 5 rfl) ?_
  refine s_iconst (pc := 12) (v := 0) (dc dl_X5_copy 6 rfl) ic_0 ?_
  refine s_aload_n (pc := 13) (dc dl_X5_copy 7 rfl) rfl rfl ?_
  refine s_getR (pc := 14) fl_X5_15 lk_Lines2_0 kk_Lines2_0_1 (dc dl_X5_copy 8 rfl) ?_
  refine s_iconst (pc := 17) (v := 0) (dc dl_X5_copy 9 rfl) ic_0 ?_
  refine s_bipush (pc := 18) (v := 16) (dc dl_X5_copy 10 rfl) bi_16 ?_
  refine s_acopy (pc := 20) (si := 6) (di := 1) ml_X5_28 lk_Lines2_6 lk_Lines2_1 (Nat.le_of_ble_eq_true rfl) (dc dl_X5_copy 11 rfl) (Nat.le_of_ble_eq_true rfl) ?_
  refine s_aload_n (pc := 23) (dc dl_X5_copy 12 rfl) rfl rfl ?_
  refine s_getR (pc := 24) fl_X5_19 lk_Lines2_5 kk_Lines2_5_2 (dc dl_X5_copy 13 rfl) ?_
  refine s_iconst (pc := 27) (v := 0) (dc dl_X5_copy 14 rfl) ic_0 ?_
  refine s_aload_n (pc := 28) (dc dl_X5_copy 15 rfl) rfl rfl ?_
  refine s_getR (pc := 29) fl_X5_19 lk_Lines2_0 kk_Lines2_0_2 (dc dl_X5_copy 16 rfl) ?_
  refine s_iconst (pc := 32) (v := 0) (dc dl_X5_copy 17 rfl) ic_0 ?_
  refine s_bipush (pc := 33) (v := 16) (dc dl_X5_copy 18 rfl) bi_16 ?_
  refine s_acopy (pc := 35) (si := 7) (di := 2) ml_X5_28 lk_Lines2_7 lk_Lines2_2 (Nat.le_of_ble_eq_true rfl) (dc dl_X5_copy 19 rfl) (Nat.le_of_ble_eq_true rfl) ?_
  refine s_aload_n (pc := 38) (dc dl_X5_copy 20 rfl) rfl rfl ?_
  refine s_getR (pc := 39) fl_X5_22 lk_Lines2_5 kk_Lines2_5_3 (dc dl_X5_copy 21 rfl) ?_
  refine s_iconst (pc := 42) (v := 0) (dc dl_X5_copy 22 rfl) ic_0 ?_
  refine s_aload_n (pc := 43) (dc dl_X5_copy 23 rfl) rfl rfl ?_
  refine s_getR (pc := 44) fl_X5_22 lk_Lines2_0 kk_Lines2_0_3 (dc dl_X5_copy 24 rfl) ?_
  refine s_iconst (pc := 47) (v := 0) (dc dl_X5_copy 25 rfl) ic_0 ?_
  refine s_bipush (pc := 48) (v := 16) (dc dl_X5_copy 26 rfl) bi_16 ?_
  refine s_acopy (pc := 50) (si := 8) (di := 3) ml_X5_28 lk_Lines2_8 lk_Lines2_3 (Nat.le_of_ble_eq_true rfl) (dc dl_X5_copy 27 rfl) (Nat.le_of_ble_eq_true rfl) ?_
  refine s_aload_n (pc := 53) (dc dl_X5_copy 28 rfl) rfl rfl ?_
  refine s_getR (pc := 54) fl_X5_25 lk_Lines2_5 kk_Lines2_5_4 (dc dl_X5_copy 29 rfl) ?_
  refine s_iconst (pc := 57) (v := 0) (dc dl_X5_copy 30 rfl) ic_0 ?_
  refine s_aload_n (pc := 58) (dc dl_X5_copy 31 rfl) rfl rfl ?_
  refine s_getR (pc := 59) fl_X5_25 lk_Lines2_0 kk_Lines2_0_4 (dc dl_X5_copy 32 rfl) ?_
  refine s_iconst (pc := 62) (v := 0) (dc dl_X5_copy 33 rfl) ic_0 ?_
  refine s_bipush (pc := 63) (v := 16) (dc dl_X5_copy 34 rfl) bi_16 ?_
  refine s_acopy (pc := 65) (si := 9) (di := 4) ml_X5_28 lk_Lines2_9 lk_Lines2_4 (Nat.le_of_ble_eq_true rfl) (dc dl_X5_copy 35 rfl) (Nat.le_of_ble_eq_true rfl) ?_
  exact s_return (pc := 68) rfl (dc dl_X5_copy 36 rfl)
def gX8_copy : MM Int32 :=
  bd (ld 2 0) fun v1 =>
  bd (ln 1) fun v2 =>
  bd (lf rh0 0 (gJ9_min_7cf53 v1 v2)) fun r3 =>
  bd (sv 0 0 r3) fun _ =>
  loopC 100000 (fun (self4 : Int32 → MM Int32) (s5 : Int32) =>
  bd (ld 0 0) fun v6 =>
  jn (fun (a8 : Unit) =>
  pr 0) (fun j7 =>
  (if v6 ≤ s5 then
  j7 ()
  else
  bd (ln 3) fun v9 =>
  (if v9 ≤ s5 then
  j7 ()
  else
  bd (la 3 s5) fun v10 =>
  bd (sa 1 s5 v10) fun _ =>
  lt (s5 + 1) fun y11 =>
  self4 y11)))) 0
set_option maxHeartbeats 4000000 in
theorem cn_X8_copy (l : Launch) (G : Gl) (hG : gOk G) (ad : Nat → Nat) : Cn l G mX8_copy 1 lay_Told2 ad [.ref (ad 0), .ref (ad 2)] (gX8_copy) := by
  refine cn_of (lv := [some (.ref (ad 0)), some (.ref (ad 2)), none]) (by decide +kernel) rfl (Nat.le_of_ble_eq_true rfl) rfl ?_
  unfold gX8_copy
  refine s_aload_n (pc := 0) (dc dl_X8_copy 0 rfl) rfl rfl ?_
  refine s_aload_n (pc := 1) (dc dl_X8_copy 1 rfl) rfl rfl ?_
  refine s_getI (pc := 2) fl_X8_9 lk_Told2_2 kk_Told2_2_0 (dc dl_X8_copy 2 rfl) (fun v1 => ?_)
  refine s_aload_n (pc := 5) (dc dl_X8_copy 3 rfl) rfl rfl ?_
  refine s_getR (pc := 6) fl_X8_21 lk_Told2_0 kk_Told2_0_1 (dc dl_X8_copy 4 rfl) ?_
  refine s_alen (pc := 9) lk_Told2_1 (dc dl_X8_copy 5 rfl) (fun v2 => ?_)
  refine s_calll (pc := 10) (ρ := rh0) (rest := [.ref (ad 0)]) hG (ss_Told2_E_rh0) (calls_S (mi := mX8_copy) (As := [.int v1, .int v2]) (rest := [.ref (ad 0)]) hG (dc dl_X8_copy 6 rfl) mo_J9_min_7cf53 ms_J9_min_7cf53 ml_X8_25 ⟨Nat.le_of_ble_eq_true rfl, Nat.le_of_ble_eq_true rfl⟩ rfl rfl (Nat.le_of_ble_eq_true rfl)) (cn_J9_min_7cf53 l G hG (fun i => ad (rh0 i)) v1 v2) rfl rfl (fun r3 => ?_)
  refine s_putI (pc := 13) fw_X8_9 lk_Told2_0 kk_Told2_0_0 (dc dl_X8_copy 7 rfl) ?_
  refine s_iconst (pc := 16) (v := 0) (dc dl_X8_copy 8 rfl) ic_0 ?_
  refine s_istore_n (pc := 17) (lv' := [some (.ref (ad 0)), some (.ref (ad 2)), some (.int 0)]) (dc dl_X8_copy 9 rfl) rfl (Nat.le_of_ble_eq_true rfl) rfl ?_
  refine s_weak (lv' := [some (.ref (ad 0)), some (.ref (ad 2)), some (.int 0)]) rfl ?_
  refine s_loop (pc := 18) (fun s5 : Int32 => [some (.ref (ad 0)), some (.ref (ad 2)), some (.int s5)]) [] (fun self4 hself4 s5 => ?_) _ 0
  refine s_iload_n (pc := 18) (dc dl_X8_copy 10 rfl) rfl rfl ?_
  refine s_aload_n (pc := 19) (dc dl_X8_copy 11 rfl) rfl rfl ?_
  refine s_getI (pc := 20) fl_X8_9 lk_Told2_0 kk_Told2_0_0 (dc dl_X8_copy 12 rfl) (fun v6 => ?_)
  refine s_jn (pj := 53) (fun a8 : Unit => [none, none, none]) (fun a8 : Unit => []) (fun a8 => ?_) (fun j7 hj7 => ?_)
  · exact s_return (pc := 53) rfl (dc dl_X8_copy 29 rfl)
  · refine s_icmp_ge (pc := 23) (tgt := 53) (dc dl_X8_copy 13 rfl) rfl ?_ ?_
    · exact s_wk (hj7 ()) rfl
    · refine s_iload_n (pc := 26) (dc dl_X8_copy 14 rfl) rfl rfl ?_
      refine s_aload_n (pc := 27) (dc dl_X8_copy 15 rfl) rfl rfl ?_
      refine s_getR (pc := 28) fl_X8_21 lk_Told2_2 kk_Told2_2_1 (dc dl_X8_copy 16 rfl) ?_
      refine s_alen (pc := 31) lk_Told2_3 (dc dl_X8_copy 17 rfl) (fun v9 => ?_)
      refine s_icmp_ge (pc := 32) (tgt := 53) (dc dl_X8_copy 18 rfl) rfl ?_ ?_
      · exact s_wk (hj7 ()) rfl
      · refine s_aload_n (pc := 35) (dc dl_X8_copy 19 rfl) rfl rfl ?_
        refine s_getR (pc := 36) fl_X8_21 lk_Told2_0 kk_Told2_0_1 (dc dl_X8_copy 20 rfl) ?_
        refine s_iload_n (pc := 39) (dc dl_X8_copy 21 rfl) rfl rfl ?_
        refine s_aload_n (pc := 40) (dc dl_X8_copy 22 rfl) rfl rfl ?_
        refine s_getR (pc := 41) fl_X8_21 lk_Told2_2 kk_Told2_2_1 (dc dl_X8_copy 23 rfl) ?_
        refine s_iload_n (pc := 44) (dc dl_X8_copy 24 rfl) rfl rfl ?_
        refine s_iald (pc := 45) lk_Told2_3 (dc dl_X8_copy 25 rfl) (fun v10 => ?_)
        refine s_iast (pc := 46) lk_Told2_1 (dc dl_X8_copy 26 rfl) ?_
        refine s_iincL (pc := 47) (lf' := fun y11 => [some (.ref (ad 0)), some (.ref (ad 2)), some (.int y11)]) (dc dl_X8_copy 27 rfl) rfl rfl (Nat.le_of_ble_eq_true rfl) (fun _ => rfl) (fun y11 => ?_)
        refine s_goto (pc := 50) (tgt := 18) (dc dl_X8_copy 28 rfl) rfl ?_
        exact s_wk (hself4 y11) rfl
def gX5_friendsOf (x1 : Int32) : MM Int32 :=
  loopC 100000 (fun (self1 : (Int32 × Int32) → MM Int32) (s2 : Int32 × Int32) =>
  bd (ld 0 0) fun v3 =>
  jn (fun (a5 : Unit) =>
  pr s2.1) (fun j4 =>
  (if v3 ≤ s2.2 then
  j4 ()
  else
  (if 16 ≤ s2.2 then
  j4 ()
  else
  bd (la 3 s2.2) fun v6 =>
  jn (fun (a8 : Int32) =>
  bd (la 4 s2.2) fun v9 =>
  jn (fun (a11 : Int32) =>
  lt (s2.2 + 1) fun y12 =>
  self1 (a11, y12)) (fun j10 =>
  (if v9 = x1 then
  bd (la 3 s2.2) fun v13 =>
  lt (a8 ||| (1 <<< (v13 &&& 31))) fun y14 =>
  j10 y14
  else
  j10 a8))) (fun j7 =>
  (if v6 = x1 then
  bd (la 4 s2.2) fun v15 =>
  lt (s2.1 ||| (1 <<< (v15 &&& 31))) fun y16 =>
  j7 y16
  else
  j7 s2.1)))))) (0, 0)
set_option maxHeartbeats 4000000 in
theorem cn_X5_friendsOf (l : Launch) (G : Gl) (hG : gOk G) (ad : Nat → Nat) (x1 : Int32) : Cn l G mX5_friendsOf 0 lay_Lines ad [.ref (ad 0), .int x1] (gX5_friendsOf x1) := by
  refine cn_of (lv := [some (.ref (ad 0)), some (.int x1), none, none]) (by decide +kernel) rfl (Nat.le_of_ble_eq_true rfl) rfl ?_
  unfold gX5_friendsOf
  refine s_iconst (pc := 0) (v := 0) (dc dl_X5_friendsOf 0 rfl) ic_0 ?_
  refine s_istore_n (pc := 1) (lv' := [some (.ref (ad 0)), some (.int x1), some (.int 0), none]) (dc dl_X5_friendsOf 1 rfl) rfl (Nat.le_of_ble_eq_true rfl) rfl ?_
  refine s_iconst (pc := 2) (v := 0) (dc dl_X5_friendsOf 2 rfl) ic_0 ?_
  refine s_istore_n (pc := 3) (lv' := [some (.ref (ad 0)), some (.int x1), some (.int 0), some (.int 0)]) (dc dl_X5_friendsOf 3 rfl) rfl (Nat.le_of_ble_eq_true rfl) rfl ?_
  refine s_weak (lv' := [some (.ref (ad 0)), some (.int x1), some (.int 0), some (.int 0)]) rfl ?_
  refine s_loop (pc := 4) (fun s2 : Int32 × Int32 => [some (.ref (ad 0)), some (.int x1), some (.int s2.1), some (.int s2.2)]) [] (fun self1 hself1 s2 => ?_) _ (0, 0)
  refine s_iload_n (pc := 4) (dc dl_X5_friendsOf 4 rfl) rfl rfl ?_
  refine s_aload_n (pc := 5) (dc dl_X5_friendsOf 5 rfl) rfl rfl ?_
  refine s_getI (pc := 6) fl_X5_9 lk_Lines_0 kk_Lines_0_0 (dc dl_X5_friendsOf 6 rfl) (fun v3 => ?_)
  refine s_jn (pj := 66) (fun a5 : Unit => [none, none, some (.int s2.1), none]) (fun a5 : Unit => []) (fun a5 => ?_) (fun j4 hj4 => ?_)
  · refine s_iload_n (pc := 66) (dc dl_X5_friendsOf 43 rfl) rfl rfl ?_
    exact s_ireturn (pc := 67) rfl (dc dl_X5_friendsOf 44 rfl)
  · refine s_icmp_ge (pc := 9) (tgt := 66) (dc dl_X5_friendsOf 7 rfl) rfl ?_ ?_
    · exact s_wk (hj4 ()) rfl
    · refine s_iload_n (pc := 12) (dc dl_X5_friendsOf 8 rfl) rfl rfl ?_
      refine s_bipush (pc := 13) (v := 16) (dc dl_X5_friendsOf 9 rfl) bi_16 ?_
      refine s_icmp_ge (pc := 15) (tgt := 66) (dc dl_X5_friendsOf 10 rfl) rfl ?_ ?_
      · exact s_wk (hj4 ()) rfl
      · refine s_aload_n (pc := 18) (dc dl_X5_friendsOf 11 rfl) rfl rfl ?_
        refine s_getR (pc := 19) fl_X5_22 lk_Lines_0 kk_Lines_0_3 (dc dl_X5_friendsOf 12 rfl) ?_
        refine s_iload_n (pc := 22) (dc dl_X5_friendsOf 13 rfl) rfl rfl ?_
        refine s_iald (pc := 23) lk_Lines_3 (dc dl_X5_friendsOf 14 rfl) (fun v6 => ?_)
        refine s_iload_n (pc := 24) (dc dl_X5_friendsOf 15 rfl) rfl rfl ?_
        refine s_jn (pj := 39) (fun a8 : Int32 => [some (.ref (ad 0)), some (.int x1), some (.int a8), some (.int s2.2)]) (fun a8 : Int32 => []) (fun a8 => ?_) (fun j7 hj7 => ?_)
        · refine s_aload_n (pc := 39) (dc dl_X5_friendsOf 26 rfl) rfl rfl ?_
          refine s_getR (pc := 40) fl_X5_25 lk_Lines_0 kk_Lines_0_4 (dc dl_X5_friendsOf 27 rfl) ?_
          refine s_iload_n (pc := 43) (dc dl_X5_friendsOf 28 rfl) rfl rfl ?_
          refine s_iald (pc := 44) lk_Lines_4 (dc dl_X5_friendsOf 29 rfl) (fun v9 => ?_)
          refine s_iload_n (pc := 45) (dc dl_X5_friendsOf 30 rfl) rfl rfl ?_
          refine s_jn (pj := 60) (fun a11 : Int32 => [some (.ref (ad 0)), some (.int x1), some (.int a11), some (.int s2.2)]) (fun a11 : Int32 => []) (fun a11 => ?_) (fun j10 hj10 => ?_)
          · refine s_iincL (pc := 60) (lf' := fun y12 => [some (.ref (ad 0)), some (.int x1), some (.int a11), some (.int y12)]) (dc dl_X5_friendsOf 41 rfl) rfl rfl (Nat.le_of_ble_eq_true rfl) (fun _ => rfl) (fun y12 => ?_)
            refine s_goto (pc := 63) (tgt := 4) (dc dl_X5_friendsOf 42 rfl) rfl ?_
            exact s_wk (hself1 (a11, y12)) rfl
          · refine s_icmp_ne (pc := 46) (tgt := 60) (dc dl_X5_friendsOf 31 rfl) rfl ?_ ?_
            · refine s_iload_n (pc := 49) (dc dl_X5_friendsOf 32 rfl) rfl rfl ?_
              refine s_iconst (pc := 50) (v := 1) (dc dl_X5_friendsOf 33 rfl) ic_1 ?_
              refine s_aload_n (pc := 51) (dc dl_X5_friendsOf 34 rfl) rfl rfl ?_
              refine s_getR (pc := 52) fl_X5_22 lk_Lines_0 kk_Lines_0_3 (dc dl_X5_friendsOf 35 rfl) ?_
              refine s_iload_n (pc := 55) (dc dl_X5_friendsOf 36 rfl) rfl rfl ?_
              refine s_iald (pc := 56) lk_Lines_3 (dc dl_X5_friendsOf 37 rfl) (fun v13 => ?_)
              refine s_ishl (pc := 57) (dc dl_X5_friendsOf 38 rfl) ?_
              refine s_ior (pc := 58) (dc dl_X5_friendsOf 39 rfl) ?_
              refine s_istore_nL (pc := 59) (lf' := fun y14 => [some (.ref (ad 0)), some (.int x1), some (.int y14), some (.int s2.2)]) (dc dl_X5_friendsOf 40 rfl) rfl (Nat.le_of_ble_eq_true rfl) (fun _ => rfl) (fun y14 => ?_)
              exact s_wk (hj10 y14) rfl
            · exact s_wk (hj10 a8) rfl
        · refine s_icmp_ne (pc := 25) (tgt := 39) (dc dl_X5_friendsOf 16 rfl) rfl ?_ ?_
          · refine s_iload_n (pc := 28) (dc dl_X5_friendsOf 17 rfl) rfl rfl ?_
            refine s_iconst (pc := 29) (v := 1) (dc dl_X5_friendsOf 18 rfl) ic_1 ?_
            refine s_aload_n (pc := 30) (dc dl_X5_friendsOf 19 rfl) rfl rfl ?_
            refine s_getR (pc := 31) fl_X5_25 lk_Lines_0 kk_Lines_0_4 (dc dl_X5_friendsOf 20 rfl) ?_
            refine s_iload_n (pc := 34) (dc dl_X5_friendsOf 21 rfl) rfl rfl ?_
            refine s_iald (pc := 35) lk_Lines_4 (dc dl_X5_friendsOf 22 rfl) (fun v15 => ?_)
            refine s_ishl (pc := 36) (dc dl_X5_friendsOf 23 rfl) ?_
            refine s_ior (pc := 37) (dc dl_X5_friendsOf 24 rfl) ?_
            refine s_istore_nL (pc := 38) (lf' := fun y16 => [some (.ref (ad 0)), some (.int x1), some (.int y16), some (.int s2.2)]) (dc dl_X5_friendsOf 25 rfl) rfl (Nat.le_of_ble_eq_true rfl) (fun _ => rfl) (fun y16 => ?_)
            exact s_wk (hj7 y16) rfl
          · exact s_wk (hj7 s2.1) rfl
def gX7_refuse (x1 : Int32) : MM Int32 :=
  bd (sv 0 6 x1) fun _ =>
  bd (ld 0 4) fun v1 =>
  bd (sv 0 7 v1) fun _ =>
  rz 0
set_option maxHeartbeats 4000000 in
theorem cn_X7_refuse (l : Launch) (G : Gl) (hG : gOk G) (ad : Nat → Nat) (x1 : Int32) : Cn l G mX7_refuse 0 lay_Tape ad [.ref (ad 0), .int x1] (gX7_refuse x1) := by
  refine cn_of (lv := [some (.ref (ad 0)), some (.int x1)]) (by decide +kernel) rfl (Nat.le_of_ble_eq_true rfl) rfl ?_
  unfold gX7_refuse
  refine s_aload_n (pc := 0) (dc dl_X7_refuse 0 rfl) rfl rfl ?_
  refine s_iload_n (pc := 1) (dc dl_X7_refuse 1 rfl) rfl rfl ?_
  refine s_putI (pc := 2) fw_X7_31 lk_Tape_0 kk_Tape_0_6 (dc dl_X7_refuse 2 rfl) ?_
  refine s_aload_n (pc := 5) (dc dl_X7_refuse 3 rfl) rfl rfl ?_
  refine s_aload_n (pc := 6) (dc dl_X7_refuse 4 rfl) rfl rfl ?_
  refine s_getI (pc := 7) fl_X7_25 lk_Tape_0 kk_Tape_0_4 (dc dl_X7_refuse 5 rfl) (fun v1 => ?_)
  refine s_putI (pc := 10) fw_X7_34 lk_Tape_0 kk_Tape_0_7 (dc dl_X7_refuse 6 rfl) ?_
  refine s_iconst (pc := 13) (v := 0) (dc dl_X7_refuse 7 rfl) ic_0 ?_
  exact s_zreturn (pc := 14) rfl (dc dl_X7_refuse 8 rfl)
def gX7_isNumber (x1 x2 : Int32) : MM Int32 :=
  bd (ld 0 2) fun v1 =>
  (if v1 = 257 then
  bd (ld 0 3) fun v2 =>
  bd (lf rh0 0 (gX10_isWithin v2 x1 x2)) fun r3 =>
  jn (fun (a5 : Int32) =>
  rz a5) (fun j4 =>
  jn (fun (a7 : Unit) =>
  j4 1) (fun j6 =>
  (if r3 = 0 then
  bd (gX7_refuse 2) fun r8 =>
  (if r8 = 0 then
  j4 0
  else
  j6 ())
  else
  j6 ())))
  else
  bd (gX7_refuse 1) fun r9 =>
  rz r9)
set_option maxHeartbeats 4000000 in
theorem cn_X7_isNumber (l : Launch) (G : Gl) (hG : gOk G) (ad : Nat → Nat) (x1 x2 : Int32) : Cn l G mX7_isNumber 1 lay_Tape ad [.ref (ad 0), .int x1, .int x2] (gX7_isNumber x1 x2) := by
  refine cn_of (lv := [some (.ref (ad 0)), some (.int x1), some (.int x2)]) (by decide +kernel) rfl (Nat.le_of_ble_eq_true rfl) rfl ?_
  unfold gX7_isNumber
  refine s_aload_n (pc := 0) (dc dl_X7_isNumber 0 rfl) rfl rfl ?_
  refine s_getI (pc := 1) fl_X7_19 lk_Tape_0 kk_Tape_0_2 (dc dl_X7_isNumber 1 rfl) (fun v1 => ?_)
  refine s_sipush (pc := 4) (v := 257) (dc dl_X7_isNumber 2 rfl) si_257 ?_
  refine s_icmp_eq (pc := 7) (tgt := 16) (dc dl_X7_isNumber 3 rfl) rfl ?_ ?_
  · refine s_aload_n (pc := 16) (dc dl_X7_isNumber 8 rfl) rfl rfl ?_
    refine s_getI (pc := 17) fl_X7_22 lk_Tape_0 kk_Tape_0_3 (dc dl_X7_isNumber 9 rfl) (fun v2 => ?_)
    refine s_iload_n (pc := 20) (dc dl_X7_isNumber 10 rfl) rfl rfl ?_
    refine s_iload_n (pc := 21) (dc dl_X7_isNumber 11 rfl) rfl rfl ?_
    refine s_calll (pc := 22) (ρ := rh0) (rest := []) hG (ss_Tape_E_rh0) (calls_SN (mi := mX7_isNumber) (As := [.int v2, .int x1, .int x2]) (rest := []) hG (dc dl_X7_isNumber 12 rfl) mo_X10_isWithin ms_X10_isWithin ml_X7_64 ⟨Nat.le_of_ble_eq_true rfl, Nat.le_of_ble_eq_true rfl⟩ rfl rfl (Nat.le_of_ble_eq_true rfl)) (cn_X10_isWithin l G hG (fun i => ad (rh0 i)) v2 x1 x2) rfl rfl (fun r3 => ?_)
    refine s_jn (pj := 41) (fun a5 : Int32 => [none, none, none]) (fun a5 : Int32 => [.int a5]) (fun a5 => ?_) (fun j4 hj4 => ?_)
    · exact s_zreturn (pc := 41) rfl (dc dl_X7_isNumber 21 rfl)
    · refine s_jn (pj := 36) (fun a7 : Unit => [none, none, none]) (fun a7 : Unit => []) (fun a7 => ?_) (fun j6 hj6 => ?_)
      · refine s_iconst (pc := 36) (v := 1) (dc dl_X7_isNumber 18 rfl) ic_1 ?_
        refine s_goto (pc := 37) (tgt := 41) (dc dl_X7_isNumber 19 rfl) rfl ?_
        exact s_wk (hj4 1) rfl
      · refine s_if_ne (pc := 25) (tgt := 36) (dc dl_X7_isNumber 13 rfl) rfl ?_ ?_
        · refine s_aload_n (pc := 28) (dc dl_X7_isNumber 14 rfl) rfl rfl ?_
          refine s_iconst (pc := 29) (v := 2) (dc dl_X7_isNumber 15 rfl) ic_2 ?_
          refine s_call (pc := 30) (rest := []) hG (calls_V (mi := mX7_isNumber) (o := 0) (As := [.int 2]) (rest := []) hG (dc dl_X7_isNumber 16 rfl) mo_X7_refuse mv_X7_refuse ml_X7_58 ⟨Nat.le_of_ble_eq_true rfl, Nat.le_of_ble_eq_true rfl⟩ rfl rfl (Nat.le_of_ble_eq_true rfl) lk_Tape_0 rfl) (cn_X7_refuse l G hG ad 2) rfl (fun r8 => ?_)
          refine s_if_eq (pc := 33) (tgt := 40) (dc dl_X7_isNumber 17 rfl) rfl ?_ ?_
          · refine s_iconst (pc := 40) (v := 0) (dc dl_X7_isNumber 20 rfl) ic_0 ?_
            exact s_wk (hj4 0) rfl
          · exact s_wk (hj6 ()) rfl
        · exact s_wk (hj6 ()) rfl
  · refine s_aload_n (pc := 10) (dc dl_X7_isNumber 4 rfl) rfl rfl ?_
    refine s_iconst (pc := 11) (v := 1) (dc dl_X7_isNumber 5 rfl) ic_1 ?_
    refine s_call (pc := 12) (rest := []) hG (calls_V (mi := mX7_isNumber) (o := 0) (As := [.int 1]) (rest := []) hG (dc dl_X7_isNumber 6 rfl) mo_X7_refuse mv_X7_refuse ml_X7_58 ⟨Nat.le_of_ble_eq_true rfl, Nat.le_of_ble_eq_true rfl⟩ rfl rfl (Nat.le_of_ble_eq_true rfl) lk_Tape_0 rfl) (cn_X7_refuse l G hG ad 1) rfl (fun r9 => ?_)
    exact s_zreturn (pc := 15) rfl (dc dl_X7_isNumber 7 rfl)
def gX7_isDigit (x0 : Int32) : MM Int32 :=
  jn (fun (a2 : Int32) =>
  rz a2) (fun j1 =>
  jn (fun (a4 : Unit) =>
  j1 0) (fun j3 =>
  (if x0 < 48 then
  j3 ()
  else
  (if 57 < x0 then
  j3 ()
  else
  j1 1))))
set_option maxHeartbeats 4000000 in
theorem cn_X7_isDigit (l : Launch) (G : Gl) (hG : gOk G) (ad : Nat → Nat) (x0 : Int32) : Cn l G mX7_isDigit 0 lay_E ad [.int x0] (gX7_isDigit x0) := by
  refine cn_of (lv := [some (.int x0)]) (by decide +kernel) rfl (Nat.le_of_ble_eq_true rfl) rfl ?_
  unfold gX7_isDigit
  refine s_iload_n (pc := 0) (dc dl_X7_isDigit 0 rfl) rfl rfl ?_
  refine s_bipush (pc := 1) (v := 48) (dc dl_X7_isDigit 1 rfl) bi_48 ?_
  refine s_jn (pj := 17) (fun a2 : Int32 => [none]) (fun a2 : Int32 => [.int a2]) (fun a2 => ?_) (fun j1 hj1 => ?_)
  · exact s_zreturn (pc := 17) rfl (dc dl_X7_isDigit 9 rfl)
  · refine s_jn (pj := 16) (fun a4 : Unit => [none]) (fun a4 : Unit => []) (fun a4 => ?_) (fun j3 hj3 => ?_)
    · refine s_iconst (pc := 16) (v := 0) (dc dl_X7_isDigit 8 rfl) ic_0 ?_
      exact s_wk (hj1 0) rfl
    · refine s_icmp_lt (pc := 3) (tgt := 16) (dc dl_X7_isDigit 2 rfl) rfl ?_ ?_
      · exact s_wk (hj3 ()) rfl
      · refine s_iload_n (pc := 6) (dc dl_X7_isDigit 3 rfl) rfl rfl ?_
        refine s_bipush (pc := 7) (v := 57) (dc dl_X7_isDigit 4 rfl) bi_57 ?_
        refine s_icmp_gt (pc := 9) (tgt := 16) (dc dl_X7_isDigit 5 rfl) rfl ?_ ?_
        · exact s_wk (hj3 ()) rfl
        · refine s_iconst (pc := 12) (v := 1) (dc dl_X7_isDigit 6 rfl) ic_1 ?_
          refine s_goto (pc := 13) (tgt := 17) (dc dl_X7_isDigit 7 rfl) rfl ?_
          exact s_wk (hj1 1) rfl
def gX7_isLetter (x0 : Int32) : MM Int32 :=
  jn (fun (a2 : Int32) =>
  rz a2) (fun j1 =>
  jn (fun (a4 : Unit) =>
  j1 1) (fun j3 =>
  jn (fun (a6 : Unit) =>
  jn (fun (a8 : Unit) =>
  j1 0) (fun j7 =>
  (if x0 < 65 then
  j7 ()
  else
  (if 90 < x0 then
  j7 ()
  else
  j3 ())))) (fun j5 =>
  (if x0 < 97 then
  j5 ()
  else
  (if x0 ≤ 122 then
  j3 ()
  else
  j5 ())))))
set_option maxHeartbeats 4000000 in
theorem cn_X7_isLetter (l : Launch) (G : Gl) (hG : gOk G) (ad : Nat → Nat) (x0 : Int32) : Cn l G mX7_isLetter 0 lay_E ad [.int x0] (gX7_isLetter x0) := by
  refine cn_of (lv := [some (.int x0)]) (by decide +kernel) rfl (Nat.le_of_ble_eq_true rfl) rfl ?_
  unfold gX7_isLetter
  refine s_iload_n (pc := 0) (dc dl_X7_isLetter 0 rfl) rfl rfl ?_
  refine s_bipush (pc := 1) (v := 97) (dc dl_X7_isLetter 1 rfl) bi_97 ?_
  refine s_jn (pj := 29) (fun a2 : Int32 => [none]) (fun a2 : Int32 => [.int a2]) (fun a2 => ?_) (fun j1 hj1 => ?_)
  · exact s_zreturn (pc := 29) rfl (dc dl_X7_isLetter 15 rfl)
  · refine s_jn (pj := 24) (fun a4 : Unit => [none]) (fun a4 : Unit => []) (fun a4 => ?_) (fun j3 hj3 => ?_)
    · refine s_iconst (pc := 24) (v := 1) (dc dl_X7_isLetter 12 rfl) ic_1 ?_
      refine s_goto (pc := 25) (tgt := 29) (dc dl_X7_isLetter 13 rfl) rfl ?_
      exact s_wk (hj1 1) rfl
    · refine s_jn (pj := 12) (fun a6 : Unit => [some (.int x0)]) (fun a6 : Unit => []) (fun a6 => ?_) (fun j5 hj5 => ?_)
      · refine s_iload_n (pc := 12) (dc dl_X7_isLetter 6 rfl) rfl rfl ?_
        refine s_bipush (pc := 13) (v := 65) (dc dl_X7_isLetter 7 rfl) bi_65 ?_
        refine s_jn (pj := 28) (fun a8 : Unit => [none]) (fun a8 : Unit => []) (fun a8 => ?_) (fun j7 hj7 => ?_)
        · refine s_iconst (pc := 28) (v := 0) (dc dl_X7_isLetter 14 rfl) ic_0 ?_
          exact s_wk (hj1 0) rfl
        · refine s_icmp_lt (pc := 15) (tgt := 28) (dc dl_X7_isLetter 8 rfl) rfl ?_ ?_
          · exact s_wk (hj7 ()) rfl
          · refine s_iload_n (pc := 18) (dc dl_X7_isLetter 9 rfl) rfl rfl ?_
            refine s_bipush (pc := 19) (v := 90) (dc dl_X7_isLetter 10 rfl) bi_90 ?_
            refine s_icmp_gt (pc := 21) (tgt := 28) (dc dl_X7_isLetter 11 rfl) rfl ?_ ?_
            · exact s_wk (hj7 ()) rfl
            · exact s_wk (hj3 ()) rfl
      · refine s_icmp_lt (pc := 3) (tgt := 12) (dc dl_X7_isLetter 2 rfl) rfl ?_ ?_
        · exact s_wk (hj5 ()) rfl
        · refine s_iload_n (pc := 6) (dc dl_X7_isLetter 3 rfl) rfl rfl ?_
          refine s_bipush (pc := 7) (v := 122) (dc dl_X7_isLetter 4 rfl) bi_122 ?_
          refine s_icmp_le (pc := 9) (tgt := 24) (dc dl_X7_isLetter 5 rfl) rfl ?_ ?_
          · exact s_wk (hj3 ()) rfl
          · exact s_wk (hj5 ()) rfl
def gX7_keyword : MM Int32 :=
  bd (ld 0 4) fun v1 =>
  loopC 100000 (fun (self2 : (Int32 × Int32 × Int32 × Int32) → MM Int32) (s3 : Int32 × Int32 × Int32 × Int32) =>
  bd (lf rh0 0 gJ0_length_8abf5) fun r4 =>
  (if r4 ≤ s3.2.2.2 then
  pr 258
  else
  bd (lf rh0 0 (gJ0_charAt_5068e s3.2.2.2)) fun r5 =>
  jn (fun (a7 : Int32 × Int32 × Int32) =>
  lt (s3.2.2.2 + 1) fun y8 =>
  self2 (a7.1, a7.2.1, a7.2.2, y8)) (fun j6 =>
  (if r5 = 32 then
  jn (fun (a10 : Unit) =>
  lt (s3.1 + 1) fun y11 =>
  bd (ld 0 4) fun v12 =>
  j6 (y11, v12, 1)) (fun j9 =>
  (if s3.2.2.1 = 0 then
  j9 ()
  else
  bd (ld 0 5) fun v13 =>
  (if s3.2.1 = v13 then
  pr s3.1
  else
  j9 ())))
  else
  jn (fun (a15 : Int32) =>
  lt (s3.2.1 + 1) fun y16 =>
  j6 (s3.1, y16, a15)) (fun j14 =>
  jn (fun (a18 : Unit) =>
  j14 0) (fun j17 =>
  (if s3.2.2.1 = 0 then
  j17 ()
  else
  bd (ld 0 5) fun v19 =>
  (if v19 ≤ s3.2.1 then
  j17 ()
  else
  (if 400 ≤ s3.2.1 then
  j17 ()
  else
  bd (la 1 s3.2.1) fun v20 =>
  (if v20 = r5 then
  j14 1
  else
  j17 ())))))))))) (300, v1, 1, 0)
set_option maxHeartbeats 4000000 in
theorem cn_X7_keyword (l : Launch) (G : Gl) (hG : gOk G) (ad : Nat → Nat) : Cn l G mX7_keyword 4 lay_Tape ad [.ref (ad 0)] (gX7_keyword) := by
  refine cn_of (lv := [some (.ref (ad 0)), none, none, none, none, none]) (by decide +kernel) rfl (Nat.le_of_ble_eq_true rfl) rfl ?_
  unfold gX7_keyword
  refine s_sipush (pc := 0) (v := 300) (dc dl_X7_keyword 0 rfl) si_300 ?_
  refine s_istore_n (pc := 3) (lv' := [some (.ref (ad 0)), some (.int 300), none, none, none, none]) (dc dl_X7_keyword 1 rfl) rfl (Nat.le_of_ble_eq_true rfl) rfl ?_
  refine s_aload_n (pc := 4) (dc dl_X7_keyword 2 rfl) rfl rfl ?_
  refine s_getI (pc := 5) fl_X7_25 lk_Tape_0 kk_Tape_0_4 (dc dl_X7_keyword 3 rfl) (fun v1 => ?_)
  refine s_istore_n (pc := 8) (lv' := [some (.ref (ad 0)), some (.int 300), some (.int v1), none, none, none]) (dc dl_X7_keyword 4 rfl) rfl (Nat.le_of_ble_eq_true rfl) rfl ?_
  refine s_iconst (pc := 9) (v := 1) (dc dl_X7_keyword 5 rfl) ic_1 ?_
  refine s_istore_n (pc := 10) (lv' := [some (.ref (ad 0)), some (.int 300), some (.int v1), some (.int 1), none, none]) (dc dl_X7_keyword 6 rfl) rfl (Nat.le_of_ble_eq_true rfl) rfl ?_
  refine s_iconst (pc := 11) (v := 0) (dc dl_X7_keyword 7 rfl) ic_0 ?_
  refine s_istore (pc := 12) (lv' := [some (.ref (ad 0)), some (.int 300), some (.int v1), some (.int 1), some (.int 0), none]) (dc dl_X7_keyword 8 rfl) (Nat.le_of_ble_eq_true rfl) rfl ?_
  refine s_weak (lv' := [some (.ref (ad 0)), some (.int 300), some (.int v1), some (.int 1), some (.int 0), none]) rfl ?_
  refine s_loop (pc := 14) (fun s3 : Int32 × Int32 × Int32 × Int32 => [some (.ref (ad 0)), some (.int s3.1), some (.int s3.2.1), some (.int s3.2.2.1), some (.int s3.2.2.2), none]) [] (fun self2 hself2 s3 => ?_) _ (300, v1, 1, 0)
  refine s_iload (pc := 14) (dc dl_X7_keyword 9 rfl) rfl ?_
  refine s_ldcS (pc := 16) rfl (dc dl_X7_keyword 10 rfl) ?_
  refine s_calll (pc := 18) (ρ := rh0) (rest := [.int s3.2.2.2]) hG (ss_Tape_E_rh0) (calls_VS (mi := mX7_keyword) (As := []) (rest := [.int s3.2.2.2]) (dc dl_X7_keyword 11 rfl) mo_J0_length_8abf5 mv_J0_length_8abf5 ml_X7_50 ⟨Nat.le_of_ble_eq_true rfl, Nat.le_of_ble_eq_true rfl⟩ rfl rfl (Nat.le_of_ble_eq_true rfl) rfl) (cn_J0_length_8abf5 l G hG (fun i => ad (rh0 i))) rfl rfl (fun r4 => ?_)
  refine s_icmp_ge (pc := 21) (tgt := 112) (dc dl_X7_keyword 12 rfl) rfl ?_ ?_
  · refine s_sipush (pc := 112) (v := 258) (dc dl_X7_keyword 57 rfl) si_258 ?_
    exact s_ireturn (pc := 115) rfl (dc dl_X7_keyword 58 rfl)
  · refine s_ldcS (pc := 24) rfl (dc dl_X7_keyword 13 rfl) ?_
    refine s_iload (pc := 26) (dc dl_X7_keyword 14 rfl) rfl ?_
    refine s_calll (pc := 28) (ρ := rh0) (rest := []) hG (ss_Tape_E_rh0) (calls_VS (mi := mX7_keyword) (As := [.int s3.2.2.2]) (rest := []) (dc dl_X7_keyword 15 rfl) mo_J0_charAt_5068e mv_J0_charAt_5068e ml_X7_54 ⟨Nat.le_of_ble_eq_true rfl, Nat.le_of_ble_eq_true rfl⟩ rfl rfl (Nat.le_of_ble_eq_true rfl) rfl) (cn_J0_charAt_5068e l G hG (fun i => ad (rh0 i)) s3.2.2.2) rfl rfl (fun r5 => ?_)
    refine s_istore (pc := 31) (lv' := [some (.ref (ad 0)), some (.int s3.1), some (.int s3.2.1), some (.int s3.2.2.1), some (.int s3.2.2.2), some (.int r5)]) (dc dl_X7_keyword 16 rfl) (Nat.le_of_ble_eq_true rfl) rfl ?_
    refine s_iload (pc := 33) (dc dl_X7_keyword 17 rfl) rfl ?_
    refine s_bipush (pc := 35) (v := 32) (dc dl_X7_keyword 18 rfl) bi_32 ?_
    refine s_jn (pj := 106) (fun a7 : Int32 × Int32 × Int32 => [some (.ref (ad 0)), some (.int a7.1), some (.int a7.2.1), some (.int a7.2.2), some (.int s3.2.2.2), none]) (fun a7 : Int32 × Int32 × Int32 => []) (fun a7 => ?_) (fun j6 hj6 => ?_)
    · refine s_iincL (pc := 106) (lf' := fun y8 => [some (.ref (ad 0)), some (.int a7.1), some (.int a7.2.1), some (.int a7.2.2), some (.int y8), none]) (dc dl_X7_keyword 55 rfl) rfl rfl (Nat.le_of_ble_eq_true rfl) (fun _ => rfl) (fun y8 => ?_)
      refine s_goto (pc := 109) (tgt := 14) (dc dl_X7_keyword 56 rfl) rfl ?_
      exact s_wk (hself2 (a7.1, a7.2.1, a7.2.2, y8)) rfl
    · refine s_icmp_eq (pc := 37) (tgt := 82) (dc dl_X7_keyword 19 rfl) rfl ?_ ?_
      · refine s_iload_n (pc := 82) (dc dl_X7_keyword 41 rfl) rfl rfl ?_
        refine s_jn (pj := 96) (fun a10 : Unit => [some (.ref (ad 0)), some (.int s3.1), none, none, some (.int s3.2.2.2), none]) (fun a10 : Unit => []) (fun a10 => ?_) (fun j9 hj9 => ?_)
        · refine s_iincL (pc := 96) (lf' := fun y11 => [some (.ref (ad 0)), some (.int y11), none, none, some (.int s3.2.2.2), none]) (dc dl_X7_keyword 49 rfl) rfl rfl (Nat.le_of_ble_eq_true rfl) (fun _ => rfl) (fun y11 => ?_)
          refine s_aload_n (pc := 99) (dc dl_X7_keyword 50 rfl) rfl rfl ?_
          refine s_getI (pc := 100) fl_X7_25 lk_Tape_0 kk_Tape_0_4 (dc dl_X7_keyword 51 rfl) (fun v12 => ?_)
          refine s_istore_n (pc := 103) (lv' := [some (.ref (ad 0)), some (.int y11), some (.int v12), none, some (.int s3.2.2.2), none]) (dc dl_X7_keyword 52 rfl) rfl (Nat.le_of_ble_eq_true rfl) rfl ?_
          refine s_iconst (pc := 104) (v := 1) (dc dl_X7_keyword 53 rfl) ic_1 ?_
          refine s_istore_n (pc := 105) (lv' := [some (.ref (ad 0)), some (.int y11), some (.int v12), some (.int 1), some (.int s3.2.2.2), none]) (dc dl_X7_keyword 54 rfl) rfl (Nat.le_of_ble_eq_true rfl) rfl ?_
          exact s_wk (hj6 (y11, v12, 1)) rfl
        · refine s_if_eq (pc := 83) (tgt := 96) (dc dl_X7_keyword 42 rfl) rfl ?_ ?_
          · exact s_wk (hj9 ()) rfl
          · refine s_iload_n (pc := 86) (dc dl_X7_keyword 43 rfl) rfl rfl ?_
            refine s_aload_n (pc := 87) (dc dl_X7_keyword 44 rfl) rfl rfl ?_
            refine s_getI (pc := 88) fl_X7_28 lk_Tape_0 kk_Tape_0_5 (dc dl_X7_keyword 45 rfl) (fun v13 => ?_)
            refine s_icmp_ne (pc := 91) (tgt := 96) (dc dl_X7_keyword 46 rfl) rfl ?_ ?_
            · refine s_iload_n (pc := 94) (dc dl_X7_keyword 47 rfl) rfl rfl ?_
              exact s_ireturn (pc := 95) rfl (dc dl_X7_keyword 48 rfl)
            · exact s_wk (hj9 ()) rfl
      · refine s_iload_n (pc := 40) (dc dl_X7_keyword 20 rfl) rfl rfl ?_
        refine s_jn (pj := 75) (fun a15 : Int32 => [some (.ref (ad 0)), some (.int s3.1), some (.int s3.2.1), none, some (.int s3.2.2.2), none]) (fun a15 : Int32 => [.int a15]) (fun a15 => ?_) (fun j14 hj14 => ?_)
        · refine s_istore_n (pc := 75) (lv' := [some (.ref (ad 0)), some (.int s3.1), some (.int s3.2.1), some (.int a15), some (.int s3.2.2.2), none]) (dc dl_X7_keyword 38 rfl) rfl (Nat.le_of_ble_eq_true rfl) rfl ?_
          refine s_iincL (pc := 76) (lf' := fun y16 => [some (.ref (ad 0)), some (.int s3.1), some (.int y16), some (.int a15), some (.int s3.2.2.2), none]) (dc dl_X7_keyword 39 rfl) rfl rfl (Nat.le_of_ble_eq_true rfl) (fun _ => rfl) (fun y16 => ?_)
          refine s_goto (pc := 79) (tgt := 106) (dc dl_X7_keyword 40 rfl) rfl ?_
          exact s_wk (hj6 (s3.1, y16, a15)) rfl
        · refine s_jn (pj := 74) (fun a18 : Unit => [some (.ref (ad 0)), some (.int s3.1), some (.int s3.2.1), none, some (.int s3.2.2.2), none]) (fun a18 : Unit => []) (fun a18 => ?_) (fun j17 hj17 => ?_)
          · refine s_iconst (pc := 74) (v := 0) (dc dl_X7_keyword 37 rfl) ic_0 ?_
            exact s_wk (hj14 0) rfl
          · refine s_if_eq (pc := 41) (tgt := 74) (dc dl_X7_keyword 21 rfl) rfl ?_ ?_
            · exact s_wk (hj17 ()) rfl
            · refine s_iload_n (pc := 44) (dc dl_X7_keyword 22 rfl) rfl rfl ?_
              refine s_aload_n (pc := 45) (dc dl_X7_keyword 23 rfl) rfl rfl ?_
              refine s_getI (pc := 46) fl_X7_28 lk_Tape_0 kk_Tape_0_5 (dc dl_X7_keyword 24 rfl) (fun v19 => ?_)
              refine s_icmp_ge (pc := 49) (tgt := 74) (dc dl_X7_keyword 25 rfl) rfl ?_ ?_
              · exact s_wk (hj17 ()) rfl
              · refine s_iload_n (pc := 52) (dc dl_X7_keyword 26 rfl) rfl rfl ?_
                refine s_sipush (pc := 53) (v := 400) (dc dl_X7_keyword 27 rfl) si_400 ?_
                refine s_icmp_ge (pc := 56) (tgt := 74) (dc dl_X7_keyword 28 rfl) rfl ?_ ?_
                · exact s_wk (hj17 ()) rfl
                · refine s_aload_n (pc := 59) (dc dl_X7_keyword 29 rfl) rfl rfl ?_
                  refine s_getR (pc := 60) fl_X7_15 lk_Tape_0 kk_Tape_0_1 (dc dl_X7_keyword 30 rfl) ?_
                  refine s_iload_n (pc := 63) (dc dl_X7_keyword 31 rfl) rfl rfl ?_
                  refine s_iald (pc := 64) lk_Tape_1 (dc dl_X7_keyword 32 rfl) (fun v20 => ?_)
                  refine s_iload (pc := 65) (dc dl_X7_keyword 33 rfl) rfl ?_
                  refine s_icmp_ne (pc := 67) (tgt := 74) (dc dl_X7_keyword 34 rfl) rfl ?_ ?_
                  · refine s_iconst (pc := 70) (v := 1) (dc dl_X7_keyword 35 rfl) ic_1 ?_
                    refine s_goto (pc := 71) (tgt := 75) (dc dl_X7_keyword 36 rfl) rfl ?_
                    exact s_wk (hj14 1) rfl
                  · exact s_wk (hj17 ()) rfl
def gX7_next : MM Int32 :=
  bd (ld 0 5) fun v1 =>
  bd (sv 0 4 v1) fun _ =>
  loopC 100000 (fun (self2 : Unit → MM Int32) (s3 : Unit) =>
  bd (ld 0 4) fun v4 =>
  bd (ld 0 0) fun v5 =>
  jn (fun (a7 : Unit) =>
  bd (ld 0 4) fun v8 =>
  bd (sv 0 5 v8) fun _ =>
  bd (ld 0 4) fun v9 =>
  bd (ld 0 0) fun v10 =>
  jn (fun (a12 : Unit) =>
  bd (sv 0 2 256) fun _ =>
  pr 0) (fun j11 =>
  (if v10 ≤ v9 then
  j11 ()
  else
  bd (ld 0 4) fun v13 =>
  (if v13 < 400 then
  bd (sv 0 3 0) fun _ =>
  loopC 100000 (fun (self14 : Unit → MM Int32) (s15 : Unit) =>
  bd (ld 0 5) fun v16 =>
  bd (ld 0 0) fun v17 =>
  jn (fun (a19 : Unit) =>
  bd (ld 0 5) fun v20 =>
  bd (ld 0 4) fun v21 =>
  (if v20 ≤ v21 then
  loopC 100000 (fun (self22 : Unit → MM Int32) (s23 : Unit) =>
  bd (ld 0 5) fun v24 =>
  bd (ld 0 0) fun v25 =>
  jn (fun (a27 : Unit) =>
  bd (ld 0 5) fun v28 =>
  bd (ld 0 4) fun v29 =>
  (if v28 ≤ v29 then
  bd (ld 0 4) fun v30 =>
  bd (la 1 v30) fun v31 =>
  bd (sv 0 2 v31) fun _ =>
  bd (ld 0 5) fun v32 =>
  bd (sv 0 5 (v32 + 1)) fun _ =>
  pr 0
  else
  bd gX7_keyword fun r33 =>
  bd (sv 0 2 r33) fun _ =>
  pr 0)) (fun j26 =>
  (if v25 ≤ v24 then
  j26 ()
  else
  bd (ld 0 5) fun v34 =>
  (if 400 ≤ v34 then
  j26 ()
  else
  bd (ld 0 5) fun v35 =>
  bd (la 1 v35) fun v36 =>
  bd (lf rh0 0 (gX7_isLetter v36)) fun r37 =>
  (if r37 = 0 then
  j26 ()
  else
  bd (ld 0 5) fun v38 =>
  bd (sv 0 5 (v38 + 1)) fun _ =>
  self22 ()))))) ()
  else
  bd (ld 0 5) fun v39 =>
  bd (ld 0 4) fun v40 =>
  jn (fun (a42 : Int32) =>
  bd (sv 0 2 a42) fun _ =>
  pr 0) (fun j41 =>
  (if 4 < (v39 - v40) then
  j41 258
  else
  j41 257)))) (fun j18 =>
  (if v17 ≤ v16 then
  j18 ()
  else
  bd (ld 0 5) fun v43 =>
  (if 400 ≤ v43 then
  j18 ()
  else
  bd (ld 0 5) fun v44 =>
  bd (la 1 v44) fun v45 =>
  bd (lf rh0 0 (gX7_isDigit v45)) fun r46 =>
  (if r46 = 0 then
  j18 ()
  else
  bd (ld 0 3) fun v47 =>
  bd (ld 0 5) fun v48 =>
  bd (la 1 v48) fun v49 =>
  bd (sv 0 3 (((10 * v47) + v49) - 48)) fun _ =>
  bd (ld 0 5) fun v50 =>
  bd (sv 0 5 (v50 + 1)) fun _ =>
  self14 ()))))) ()
  else
  j11 ())))) (fun j6 =>
  (if v5 ≤ v4 then
  j6 ()
  else
  bd (ld 0 4) fun v51 =>
  (if 400 ≤ v51 then
  j6 ()
  else
  bd (ld 0 4) fun v52 =>
  bd (la 1 v52) fun v53 =>
  jn (fun (a55 : Unit) =>
  bd (ld 0 4) fun v56 =>
  bd (sv 0 4 (v56 + 1)) fun _ =>
  self2 ()) (fun j54 =>
  (if v53 = 32 then
  j54 ()
  else
  bd (ld 0 4) fun v57 =>
  bd (la 1 v57) fun v58 =>
  (if v58 = 10 then
  j54 ()
  else
  j6 ()))))))) ()
set_option maxHeartbeats 4000000 in
theorem cn_X7_next (l : Launch) (G : Gl) (hG : gOk G) (ad : Nat → Nat) : Cn l G mX7_next 5 lay_Tape ad [.ref (ad 0)] (gX7_next) := by
  refine cn_of (lv := [some (.ref (ad 0))]) (by decide +kernel) rfl (Nat.le_of_ble_eq_true rfl) rfl ?_
  unfold gX7_next
  refine s_aload_n (pc := 0) (dc dl_X7_next 0 rfl) rfl rfl ?_
  refine s_aload_n (pc := 1) (dc dl_X7_next 1 rfl) rfl rfl ?_
  refine s_getI (pc := 2) fl_X7_28 lk_Tape_0 kk_Tape_0_5 (dc dl_X7_next 2 rfl) (fun v1 => ?_)
  refine s_putI (pc := 5) fw_X7_25 lk_Tape_0 kk_Tape_0_4 (dc dl_X7_next 3 rfl) ?_
  refine s_weak (lv' := [some (.ref (ad 0))]) rfl ?_
  refine s_loop (pc := 8) (fun s3 : Unit => [some (.ref (ad 0))]) [] (fun self2 hself2 s3 => ?_) _ ()
  refine s_aload_n (pc := 8) (dc dl_X7_next 4 rfl) rfl rfl ?_
  refine s_getI (pc := 9) fl_X7_25 lk_Tape_0 kk_Tape_0_4 (dc dl_X7_next 5 rfl) (fun v4 => ?_)
  refine s_aload_n (pc := 12) (dc dl_X7_next 6 rfl) rfl rfl ?_
  refine s_getI (pc := 13) fl_X7_9 lk_Tape_0 kk_Tape_0_0 (dc dl_X7_next 7 rfl) (fun v5 => ?_)
  refine s_jn (pj := 70) (fun a7 : Unit => [some (.ref (ad 0))]) (fun a7 : Unit => []) (fun a7 => ?_) (fun j6 hj6 => ?_)
  · refine s_aload_n (pc := 70) (dc dl_X7_next 34 rfl) rfl rfl ?_
    refine s_aload_n (pc := 71) (dc dl_X7_next 35 rfl) rfl rfl ?_
    refine s_getI (pc := 72) fl_X7_25 lk_Tape_0 kk_Tape_0_4 (dc dl_X7_next 36 rfl) (fun v8 => ?_)
    refine s_putI (pc := 75) fw_X7_28 lk_Tape_0 kk_Tape_0_5 (dc dl_X7_next 37 rfl) ?_
    refine s_aload_n (pc := 78) (dc dl_X7_next 38 rfl) rfl rfl ?_
    refine s_getI (pc := 79) fl_X7_25 lk_Tape_0 kk_Tape_0_4 (dc dl_X7_next 39 rfl) (fun v9 => ?_)
    refine s_aload_n (pc := 82) (dc dl_X7_next 40 rfl) rfl rfl ?_
    refine s_getI (pc := 83) fl_X7_9 lk_Tape_0 kk_Tape_0_0 (dc dl_X7_next 41 rfl) (fun v10 => ?_)
    refine s_jn (pj := 99) (fun a12 : Unit => [some (.ref (ad 0))]) (fun a12 : Unit => []) (fun a12 => ?_) (fun j11 hj11 => ?_)
    · refine s_aload_n (pc := 99) (dc dl_X7_next 47 rfl) rfl rfl ?_
      refine s_sipush (pc := 100) (v := 256) (dc dl_X7_next 48 rfl) si_256 ?_
      refine s_putI (pc := 103) fw_X7_19 lk_Tape_0 kk_Tape_0_2 (dc dl_X7_next 49 rfl) ?_
      exact s_return (pc := 106) rfl (dc dl_X7_next 50 rfl)
    · refine s_icmp_ge (pc := 86) (tgt := 99) (dc dl_X7_next 42 rfl) rfl ?_ ?_
      · exact s_wk (hj11 ()) rfl
      · refine s_aload_n (pc := 89) (dc dl_X7_next 43 rfl) rfl rfl ?_
        refine s_getI (pc := 90) fl_X7_25 lk_Tape_0 kk_Tape_0_4 (dc dl_X7_next 44 rfl) (fun v13 => ?_)
        refine s_sipush (pc := 93) (v := 400) (dc dl_X7_next 45 rfl) si_400 ?_
        refine s_icmp_lt (pc := 96) (tgt := 107) (dc dl_X7_next 46 rfl) rfl ?_ ?_
        · refine s_aload_n (pc := 107) (dc dl_X7_next 51 rfl) rfl rfl ?_
          refine s_iconst (pc := 108) (v := 0) (dc dl_X7_next 52 rfl) ic_0 ?_
          refine s_putI (pc := 109) fw_X7_22 lk_Tape_0 kk_Tape_0_3 (dc dl_X7_next 53 rfl) ?_
          refine s_weak (lv' := [some (.ref (ad 0))]) rfl ?_
          refine s_loop (pc := 112) (fun s15 : Unit => [some (.ref (ad 0))]) [] (fun self14 hself14 s15 => ?_) _ ()
          refine s_aload_n (pc := 112) (dc dl_X7_next 54 rfl) rfl rfl ?_
          refine s_getI (pc := 113) fl_X7_28 lk_Tape_0 kk_Tape_0_5 (dc dl_X7_next 55 rfl) (fun v16 => ?_)
          refine s_aload_n (pc := 116) (dc dl_X7_next 56 rfl) rfl rfl ?_
          refine s_getI (pc := 117) fl_X7_9 lk_Tape_0 kk_Tape_0_0 (dc dl_X7_next 57 rfl) (fun v17 => ?_)
          refine s_jn (pj := 185) (fun a19 : Unit => [some (.ref (ad 0))]) (fun a19 : Unit => []) (fun a19 => ?_) (fun j18 hj18 => ?_)
          · refine s_aload_n (pc := 185) (dc dl_X7_next 91 rfl) rfl rfl ?_
            refine s_getI (pc := 186) fl_X7_28 lk_Tape_0 kk_Tape_0_5 (dc dl_X7_next 92 rfl) (fun v20 => ?_)
            refine s_aload_n (pc := 189) (dc dl_X7_next 93 rfl) rfl rfl ?_
            refine s_getI (pc := 190) fl_X7_25 lk_Tape_0 kk_Tape_0_4 (dc dl_X7_next 94 rfl) (fun v21 => ?_)
            refine s_icmp_le (pc := 193) (tgt := 223) (dc dl_X7_next 95 rfl) rfl ?_ ?_
            · refine s_weak (lv' := [some (.ref (ad 0))]) rfl ?_
              refine s_loop (pc := 223) (fun s23 : Unit => [some (.ref (ad 0))]) [] (fun self22 hself22 s23 => ?_) _ ()
              refine s_aload_n (pc := 223) (dc dl_X7_next 109 rfl) rfl rfl ?_
              refine s_getI (pc := 224) fl_X7_28 lk_Tape_0 kk_Tape_0_5 (dc dl_X7_next 110 rfl) (fun v24 => ?_)
              refine s_aload_n (pc := 227) (dc dl_X7_next 111 rfl) rfl rfl ?_
              refine s_getI (pc := 228) fl_X7_9 lk_Tape_0 kk_Tape_0_0 (dc dl_X7_next 112 rfl) (fun v25 => ?_)
              refine s_jn (pj := 272) (fun a27 : Unit => [some (.ref (ad 0))]) (fun a27 : Unit => []) (fun a27 => ?_) (fun j26 hj26 => ?_)
              · refine s_aload_n (pc := 272) (dc dl_X7_next 132 rfl) rfl rfl ?_
                refine s_getI (pc := 273) fl_X7_28 lk_Tape_0 kk_Tape_0_5 (dc dl_X7_next 133 rfl) (fun v28 => ?_)
                refine s_aload_n (pc := 276) (dc dl_X7_next 134 rfl) rfl rfl ?_
                refine s_getI (pc := 277) fl_X7_25 lk_Tape_0 kk_Tape_0_4 (dc dl_X7_next 135 rfl) (fun v29 => ?_)
                refine s_icmp_le (pc := 280) (tgt := 292) (dc dl_X7_next 136 rfl) rfl ?_ ?_
                · refine s_aload_n (pc := 292) (dc dl_X7_next 142 rfl) rfl rfl ?_
                  refine s_aload_n (pc := 293) (dc dl_X7_next 143 rfl) rfl rfl ?_
                  refine s_getR (pc := 294) fl_X7_15 lk_Tape_0 kk_Tape_0_1 (dc dl_X7_next 144 rfl) ?_
                  refine s_aload_n (pc := 297) (dc dl_X7_next 145 rfl) rfl rfl ?_
                  refine s_getI (pc := 298) fl_X7_25 lk_Tape_0 kk_Tape_0_4 (dc dl_X7_next 146 rfl) (fun v30 => ?_)
                  refine s_iald (pc := 301) lk_Tape_1 (dc dl_X7_next 147 rfl) (fun v31 => ?_)
                  refine s_putI (pc := 302) fw_X7_19 lk_Tape_0 kk_Tape_0_2 (dc dl_X7_next 148 rfl) ?_
                  refine s_aload_n (pc := 305) (dc dl_X7_next 149 rfl) rfl rfl ?_
                  refine s_dup (pc := 306) (dc dl_X7_next 150 rfl) rfl ?_
                  refine s_getI (pc := 307) fl_X7_28 lk_Tape_0 kk_Tape_0_5 (dc dl_X7_next 151 rfl) (fun v32 => ?_)
                  refine s_iconst (pc := 310) (v := 1) (dc dl_X7_next 152 rfl) ic_1 ?_
                  refine s_iadd (pc := 311) (dc dl_X7_next 153 rfl) ?_
                  refine s_putI (pc := 312) fw_X7_28 lk_Tape_0 kk_Tape_0_5 (dc dl_X7_next 154 rfl) ?_
                  exact s_return (pc := 315) rfl (dc dl_X7_next 155 rfl)
                · refine s_aload_n (pc := 283) (dc dl_X7_next 137 rfl) rfl rfl ?_
                  refine s_aload_n (pc := 284) (dc dl_X7_next 138 rfl) rfl rfl ?_
                  refine s_call (pc := 285) (rest := [.ref (ad 0)]) hG (calls_V (mi := mX7_next) (o := 0) (As := []) (rest := [.ref (ad 0)]) hG (dc dl_X7_next 139 rfl) mo_X7_keyword mv_X7_keyword ml_X7_44 ⟨Nat.le_of_ble_eq_true rfl, Nat.le_of_ble_eq_true rfl⟩ rfl rfl (Nat.le_of_ble_eq_true rfl) lk_Tape_0 rfl) (cn_X7_keyword l G hG ad) rfl (fun r33 => ?_)
                  refine s_putI (pc := 288) fw_X7_19 lk_Tape_0 kk_Tape_0_2 (dc dl_X7_next 140 rfl) ?_
                  exact s_return (pc := 291) rfl (dc dl_X7_next 141 rfl)
              · refine s_icmp_ge (pc := 231) (tgt := 272) (dc dl_X7_next 113 rfl) rfl ?_ ?_
                · exact s_wk (hj26 ()) rfl
                · refine s_aload_n (pc := 234) (dc dl_X7_next 114 rfl) rfl rfl ?_
                  refine s_getI (pc := 235) fl_X7_28 lk_Tape_0 kk_Tape_0_5 (dc dl_X7_next 115 rfl) (fun v34 => ?_)
                  refine s_sipush (pc := 238) (v := 400) (dc dl_X7_next 116 rfl) si_400 ?_
                  refine s_icmp_ge (pc := 241) (tgt := 272) (dc dl_X7_next 117 rfl) rfl ?_ ?_
                  · exact s_wk (hj26 ()) rfl
                  · refine s_aload_n (pc := 244) (dc dl_X7_next 118 rfl) rfl rfl ?_
                    refine s_getR (pc := 245) fl_X7_15 lk_Tape_0 kk_Tape_0_1 (dc dl_X7_next 119 rfl) ?_
                    refine s_aload_n (pc := 248) (dc dl_X7_next 120 rfl) rfl rfl ?_
                    refine s_getI (pc := 249) fl_X7_28 lk_Tape_0 kk_Tape_0_5 (dc dl_X7_next 121 rfl) (fun v35 => ?_)
                    refine s_iald (pc := 252) lk_Tape_1 (dc dl_X7_next 122 rfl) (fun v36 => ?_)
                    refine s_calll (pc := 253) (ρ := rh0) (rest := []) hG (ss_Tape_E_rh0) (calls_S (mi := mX7_next) (As := [.int v36]) (rest := []) hG (dc dl_X7_next 123 rfl) mo_X7_isLetter ms_X7_isLetter ml_X7_41 ⟨Nat.le_of_ble_eq_true rfl, Nat.le_of_ble_eq_true rfl⟩ rfl rfl (Nat.le_of_ble_eq_true rfl)) (cn_X7_isLetter l G hG (fun i => ad (rh0 i)) v36) rfl rfl (fun r37 => ?_)
                    refine s_if_eq (pc := 256) (tgt := 272) (dc dl_X7_next 124 rfl) rfl ?_ ?_
                    · exact s_wk (hj26 ()) rfl
                    · refine s_aload_n (pc := 259) (dc dl_X7_next 125 rfl) rfl rfl ?_
                      refine s_dup (pc := 260) (dc dl_X7_next 126 rfl) rfl ?_
                      refine s_getI (pc := 261) fl_X7_28 lk_Tape_0 kk_Tape_0_5 (dc dl_X7_next 127 rfl) (fun v38 => ?_)
                      refine s_iconst (pc := 264) (v := 1) (dc dl_X7_next 128 rfl) ic_1 ?_
                      refine s_iadd (pc := 265) (dc dl_X7_next 129 rfl) ?_
                      refine s_putI (pc := 266) fw_X7_28 lk_Tape_0 kk_Tape_0_5 (dc dl_X7_next 130 rfl) ?_
                      refine s_goto (pc := 269) (tgt := 223) (dc dl_X7_next 131 rfl) rfl ?_
                      exact s_wk (hself22 ()) rfl
            · refine s_aload_n (pc := 196) (dc dl_X7_next 96 rfl) rfl rfl ?_
              refine s_aload_n (pc := 197) (dc dl_X7_next 97 rfl) rfl rfl ?_
              refine s_getI (pc := 198) fl_X7_28 lk_Tape_0 kk_Tape_0_5 (dc dl_X7_next 98 rfl) (fun v39 => ?_)
              refine s_aload_n (pc := 201) (dc dl_X7_next 99 rfl) rfl rfl ?_
              refine s_getI (pc := 202) fl_X7_25 lk_Tape_0 kk_Tape_0_4 (dc dl_X7_next 100 rfl) (fun v40 => ?_)
              refine s_isub (pc := 205) (dc dl_X7_next 101 rfl) ?_
              refine s_iconst (pc := 206) (v := 4) (dc dl_X7_next 102 rfl) ic_4 ?_
              refine s_jn (pj := 219) (fun a42 : Int32 => [none]) (fun a42 : Int32 => [.int a42, .ref (ad 0)]) (fun a42 => ?_) (fun j41 hj41 => ?_)
              · refine s_putI (pc := 219) fw_X7_19 lk_Tape_0 kk_Tape_0_2 (dc dl_X7_next 107 rfl) ?_
                exact s_return (pc := 222) rfl (dc dl_X7_next 108 rfl)
              · refine s_icmp_gt (pc := 207) (tgt := 216) (dc dl_X7_next 103 rfl) rfl ?_ ?_
                · refine s_sipush (pc := 216) (v := 258) (dc dl_X7_next 106 rfl) si_258 ?_
                  exact s_wk (hj41 258) rfl
                · refine s_sipush (pc := 210) (v := 257) (dc dl_X7_next 104 rfl) si_257 ?_
                  refine s_goto (pc := 213) (tgt := 219) (dc dl_X7_next 105 rfl) rfl ?_
                  exact s_wk (hj41 257) rfl
          · refine s_icmp_ge (pc := 120) (tgt := 185) (dc dl_X7_next 58 rfl) rfl ?_ ?_
            · exact s_wk (hj18 ()) rfl
            · refine s_aload_n (pc := 123) (dc dl_X7_next 59 rfl) rfl rfl ?_
              refine s_getI (pc := 124) fl_X7_28 lk_Tape_0 kk_Tape_0_5 (dc dl_X7_next 60 rfl) (fun v43 => ?_)
              refine s_sipush (pc := 127) (v := 400) (dc dl_X7_next 61 rfl) si_400 ?_
              refine s_icmp_ge (pc := 130) (tgt := 185) (dc dl_X7_next 62 rfl) rfl ?_ ?_
              · exact s_wk (hj18 ()) rfl
              · refine s_aload_n (pc := 133) (dc dl_X7_next 63 rfl) rfl rfl ?_
                refine s_getR (pc := 134) fl_X7_15 lk_Tape_0 kk_Tape_0_1 (dc dl_X7_next 64 rfl) ?_
                refine s_aload_n (pc := 137) (dc dl_X7_next 65 rfl) rfl rfl ?_
                refine s_getI (pc := 138) fl_X7_28 lk_Tape_0 kk_Tape_0_5 (dc dl_X7_next 66 rfl) (fun v44 => ?_)
                refine s_iald (pc := 141) lk_Tape_1 (dc dl_X7_next 67 rfl) (fun v45 => ?_)
                refine s_calll (pc := 142) (ρ := rh0) (rest := []) hG (ss_Tape_E_rh0) (calls_S (mi := mX7_next) (As := [.int v45]) (rest := []) hG (dc dl_X7_next 68 rfl) mo_X7_isDigit ms_X7_isDigit ml_X7_37 ⟨Nat.le_of_ble_eq_true rfl, Nat.le_of_ble_eq_true rfl⟩ rfl rfl (Nat.le_of_ble_eq_true rfl)) (cn_X7_isDigit l G hG (fun i => ad (rh0 i)) v45) rfl rfl (fun r46 => ?_)
                refine s_if_eq (pc := 145) (tgt := 185) (dc dl_X7_next 69 rfl) rfl ?_ ?_
                · exact s_wk (hj18 ()) rfl
                · refine s_aload_n (pc := 148) (dc dl_X7_next 70 rfl) rfl rfl ?_
                  refine s_bipush (pc := 149) (v := 10) (dc dl_X7_next 71 rfl) bi_10 ?_
                  refine s_aload_n (pc := 151) (dc dl_X7_next 72 rfl) rfl rfl ?_
                  refine s_getI (pc := 152) fl_X7_22 lk_Tape_0 kk_Tape_0_3 (dc dl_X7_next 73 rfl) (fun v47 => ?_)
                  refine s_imul (pc := 155) (dc dl_X7_next 74 rfl) ?_
                  refine s_aload_n (pc := 156) (dc dl_X7_next 75 rfl) rfl rfl ?_
                  refine s_getR (pc := 157) fl_X7_15 lk_Tape_0 kk_Tape_0_1 (dc dl_X7_next 76 rfl) ?_
                  refine s_aload_n (pc := 160) (dc dl_X7_next 77 rfl) rfl rfl ?_
                  refine s_getI (pc := 161) fl_X7_28 lk_Tape_0 kk_Tape_0_5 (dc dl_X7_next 78 rfl) (fun v48 => ?_)
                  refine s_iald (pc := 164) lk_Tape_1 (dc dl_X7_next 79 rfl) (fun v49 => ?_)
                  refine s_iadd (pc := 165) (dc dl_X7_next 80 rfl) ?_
                  refine s_bipush (pc := 166) (v := 48) (dc dl_X7_next 81 rfl) bi_48 ?_
                  refine s_isub (pc := 168) (dc dl_X7_next 82 rfl) ?_
                  refine s_putI (pc := 169) fw_X7_22 lk_Tape_0 kk_Tape_0_3 (dc dl_X7_next 83 rfl) ?_
                  refine s_aload_n (pc := 172) (dc dl_X7_next 84 rfl) rfl rfl ?_
                  refine s_dup (pc := 173) (dc dl_X7_next 85 rfl) rfl ?_
                  refine s_getI (pc := 174) fl_X7_28 lk_Tape_0 kk_Tape_0_5 (dc dl_X7_next 86 rfl) (fun v50 => ?_)
                  refine s_iconst (pc := 177) (v := 1) (dc dl_X7_next 87 rfl) ic_1 ?_
                  refine s_iadd (pc := 178) (dc dl_X7_next 88 rfl) ?_
                  refine s_putI (pc := 179) fw_X7_28 lk_Tape_0 kk_Tape_0_5 (dc dl_X7_next 89 rfl) ?_
                  refine s_goto (pc := 182) (tgt := 112) (dc dl_X7_next 90 rfl) rfl ?_
                  exact s_wk (hself14 ()) rfl
        · exact s_wk (hj11 ()) rfl
  · refine s_icmp_ge (pc := 16) (tgt := 70) (dc dl_X7_next 8 rfl) rfl ?_ ?_
    · exact s_wk (hj6 ()) rfl
    · refine s_aload_n (pc := 19) (dc dl_X7_next 9 rfl) rfl rfl ?_
      refine s_getI (pc := 20) fl_X7_25 lk_Tape_0 kk_Tape_0_4 (dc dl_X7_next 10 rfl) (fun v51 => ?_)
      refine s_sipush (pc := 23) (v := 400) (dc dl_X7_next 11 rfl) si_400 ?_
      refine s_icmp_ge (pc := 26) (tgt := 70) (dc dl_X7_next 12 rfl) rfl ?_ ?_
      · exact s_wk (hj6 ()) rfl
      · refine s_aload_n (pc := 29) (dc dl_X7_next 13 rfl) rfl rfl ?_
        refine s_getR (pc := 30) fl_X7_15 lk_Tape_0 kk_Tape_0_1 (dc dl_X7_next 14 rfl) ?_
        refine s_aload_n (pc := 33) (dc dl_X7_next 15 rfl) rfl rfl ?_
        refine s_getI (pc := 34) fl_X7_25 lk_Tape_0 kk_Tape_0_4 (dc dl_X7_next 16 rfl) (fun v52 => ?_)
        refine s_iald (pc := 37) lk_Tape_1 (dc dl_X7_next 17 rfl) (fun v53 => ?_)
        refine s_bipush (pc := 38) (v := 32) (dc dl_X7_next 18 rfl) bi_32 ?_
        refine s_jn (pj := 57) (fun a55 : Unit => [some (.ref (ad 0))]) (fun a55 : Unit => []) (fun a55 => ?_) (fun j54 hj54 => ?_)
        · refine s_aload_n (pc := 57) (dc dl_X7_next 27 rfl) rfl rfl ?_
          refine s_dup (pc := 58) (dc dl_X7_next 28 rfl) rfl ?_
          refine s_getI (pc := 59) fl_X7_25 lk_Tape_0 kk_Tape_0_4 (dc dl_X7_next 29 rfl) (fun v56 => ?_)
          refine s_iconst (pc := 62) (v := 1) (dc dl_X7_next 30 rfl) ic_1 ?_
          refine s_iadd (pc := 63) (dc dl_X7_next 31 rfl) ?_
          refine s_putI (pc := 64) fw_X7_25 lk_Tape_0 kk_Tape_0_4 (dc dl_X7_next 32 rfl) ?_
          refine s_goto (pc := 67) (tgt := 8) (dc dl_X7_next 33 rfl) rfl ?_
          exact s_wk (hself2 ()) rfl
        · refine s_icmp_eq (pc := 40) (tgt := 57) (dc dl_X7_next 19 rfl) rfl ?_ ?_
          · exact s_wk (hj54 ()) rfl
          · refine s_aload_n (pc := 43) (dc dl_X7_next 20 rfl) rfl rfl ?_
            refine s_getR (pc := 44) fl_X7_15 lk_Tape_0 kk_Tape_0_1 (dc dl_X7_next 21 rfl) ?_
            refine s_aload_n (pc := 47) (dc dl_X7_next 22 rfl) rfl rfl ?_
            refine s_getI (pc := 48) fl_X7_25 lk_Tape_0 kk_Tape_0_4 (dc dl_X7_next 23 rfl) (fun v57 => ?_)
            refine s_iald (pc := 51) lk_Tape_1 (dc dl_X7_next 24 rfl) (fun v58 => ?_)
            refine s_bipush (pc := 52) (v := 10) (dc dl_X7_next 25 rfl) bi_10 ?_
            refine s_icmp_ne (pc := 54) (tgt := 70) (dc dl_X7_next 26 rfl) rfl ?_ ?_
            · exact s_wk (hj54 ()) rfl
            · exact s_wk (hj6 ()) rfl
def gX7_take (x1 : Int32) : MM Int32 :=
  bd (ld 0 2) fun v1 =>
  (if v1 = x1 then
  bd gX7_next fun r2 =>
  rz 1
  else
  bd (gX7_refuse 1) fun r3 =>
  rz r3)
set_option maxHeartbeats 4000000 in
theorem cn_X7_take (l : Launch) (G : Gl) (hG : gOk G) (ad : Nat → Nat) (x1 : Int32) : Cn l G mX7_take 6 lay_Tape ad [.ref (ad 0), .int x1] (gX7_take x1) := by
  refine cn_of (lv := [some (.ref (ad 0)), some (.int x1)]) (by decide +kernel) rfl (Nat.le_of_ble_eq_true rfl) rfl ?_
  unfold gX7_take
  refine s_aload_n (pc := 0) (dc dl_X7_take 0 rfl) rfl rfl ?_
  refine s_getI (pc := 1) fl_X7_19 lk_Tape_0 kk_Tape_0_2 (dc dl_X7_take 1 rfl) (fun v1 => ?_)
  refine s_iload_n (pc := 4) (dc dl_X7_take 2 rfl) rfl rfl ?_
  refine s_icmp_eq (pc := 5) (tgt := 14) (dc dl_X7_take 3 rfl) rfl ?_ ?_
  · refine s_aload_n (pc := 14) (dc dl_X7_take 8 rfl) rfl rfl ?_
    refine s_callv (pc := 15) (rest := []) hG (calls_V (mi := mX7_take) (o := 0) (As := []) (rest := []) hG (dc dl_X7_take 9 rfl) mo_X7_next mv_X7_next ml_X7_61 ⟨Nat.le_of_ble_eq_true rfl, Nat.le_of_ble_eq_true rfl⟩ rfl rfl (Nat.le_of_ble_eq_true rfl) lk_Tape_0 rfl) (cn_X7_next l G hG ad) rfl (fun r2 => ?_)
    refine s_iconst (pc := 18) (v := 1) (dc dl_X7_take 10 rfl) ic_1 ?_
    exact s_zreturn (pc := 19) rfl (dc dl_X7_take 11 rfl)
  · refine s_aload_n (pc := 8) (dc dl_X7_take 4 rfl) rfl rfl ?_
    refine s_iconst (pc := 9) (v := 1) (dc dl_X7_take 5 rfl) ic_1 ?_
    refine s_call (pc := 10) (rest := []) hG (calls_V (mi := mX7_take) (o := 0) (As := [.int 1]) (rest := []) hG (dc dl_X7_take 6 rfl) mo_X7_refuse mv_X7_refuse ml_X7_58 ⟨Nat.le_of_ble_eq_true rfl, Nat.le_of_ble_eq_true rfl⟩ rfl rfl (Nat.le_of_ble_eq_true rfl) lk_Tape_0 rfl) (cn_X7_refuse l G hG ad 1) rfl (fun r3 => ?_)
    exact s_zreturn (pc := 13) rfl (dc dl_X7_take 7 rfl)
def gX5_add (x1 x2 x3 x4 : Int32) : MM Int32 :=
  bd (ld 0 0) fun v1 =>
  jn (fun (a3 : Unit) =>
  pr 0) (fun j2 =>
  (if 16 ≤ v1 then
  j2 ()
  else
  bd (ld 0 0) fun v4 =>
  bd (sa 1 v4 x1) fun _ =>
  bd (ld 0 0) fun v5 =>
  bd (sa 2 v5 x2) fun _ =>
  bd (ld 0 0) fun v6 =>
  bd (sa 3 v6 x3) fun _ =>
  bd (ld 0 0) fun v7 =>
  bd (sa 4 v7 x4) fun _ =>
  bd (ld 0 0) fun v8 =>
  bd (sv 0 0 (v8 + 1)) fun _ =>
  j2 ()))
set_option maxHeartbeats 4000000 in
theorem cn_X5_add (l : Launch) (G : Gl) (hG : gOk G) (ad : Nat → Nat) (x1 x2 x3 x4 : Int32) : Cn l G mX5_add 0 lay_Lines ad [.ref (ad 0), .int x1, .int x2, .int x3, .int x4] (gX5_add x1 x2 x3 x4) := by
  refine cn_of (lv := [some (.ref (ad 0)), some (.int x1), some (.int x2), some (.int x3), some (.int x4)]) (by decide +kernel) rfl (Nat.le_of_ble_eq_true rfl) rfl ?_
  unfold gX5_add
  refine s_aload_n (pc := 0) (dc dl_X5_add 0 rfl) rfl rfl ?_
  refine s_getI (pc := 1) fl_X5_9 lk_Lines_0 kk_Lines_0_0 (dc dl_X5_add 1 rfl) (fun v1 => ?_)
  refine s_bipush (pc := 4) (v := 16) (dc dl_X5_add 2 rfl) bi_16 ?_
  refine s_jn (pj := 60) (fun a3 : Unit => [none, none, none, none, none]) (fun a3 : Unit => []) (fun a3 => ?_) (fun j2 hj2 => ?_)
  · exact s_return (pc := 60) rfl (dc dl_X5_add 34 rfl)
  · refine s_icmp_ge (pc := 6) (tgt := 60) (dc dl_X5_add 3 rfl) rfl ?_ ?_
    · exact s_wk (hj2 ()) rfl
    · refine s_aload_n (pc := 9) (dc dl_X5_add 4 rfl) rfl rfl ?_
      refine s_getR (pc := 10) fl_X5_15 lk_Lines_0 kk_Lines_0_1 (dc dl_X5_add 5 rfl) ?_
      refine s_aload_n (pc := 13) (dc dl_X5_add 6 rfl) rfl rfl ?_
      refine s_getI (pc := 14) fl_X5_9 lk_Lines_0 kk_Lines_0_0 (dc dl_X5_add 7 rfl) (fun v4 => ?_)
      refine s_iload_n (pc := 17) (dc dl_X5_add 8 rfl) rfl rfl ?_
      refine s_iast (pc := 18) lk_Lines_1 (dc dl_X5_add 9 rfl) ?_
      refine s_aload_n (pc := 19) (dc dl_X5_add 10 rfl) rfl rfl ?_
      refine s_getR (pc := 20) fl_X5_19 lk_Lines_0 kk_Lines_0_2 (dc dl_X5_add 11 rfl) ?_
      refine s_aload_n (pc := 23) (dc dl_X5_add 12 rfl) rfl rfl ?_
      refine s_getI (pc := 24) fl_X5_9 lk_Lines_0 kk_Lines_0_0 (dc dl_X5_add 13 rfl) (fun v5 => ?_)
      refine s_iload_n (pc := 27) (dc dl_X5_add 14 rfl) rfl rfl ?_
      refine s_iast (pc := 28) lk_Lines_2 (dc dl_X5_add 15 rfl) ?_
      refine s_aload_n (pc := 29) (dc dl_X5_add 16 rfl) rfl rfl ?_
      refine s_getR (pc := 30) fl_X5_22 lk_Lines_0 kk_Lines_0_3 (dc dl_X5_add 17 rfl) ?_
      refine s_aload_n (pc := 33) (dc dl_X5_add 18 rfl) rfl rfl ?_
      refine s_getI (pc := 34) fl_X5_9 lk_Lines_0 kk_Lines_0_0 (dc dl_X5_add 19 rfl) (fun v6 => ?_)
      refine s_iload_n (pc := 37) (dc dl_X5_add 20 rfl) rfl rfl ?_
      refine s_iast (pc := 38) lk_Lines_3 (dc dl_X5_add 21 rfl) ?_
      refine s_aload_n (pc := 39) (dc dl_X5_add 22 rfl) rfl rfl ?_
      refine s_getR (pc := 40) fl_X5_25 lk_Lines_0 kk_Lines_0_4 (dc dl_X5_add 23 rfl) ?_
      refine s_aload_n (pc := 43) (dc dl_X5_add 24 rfl) rfl rfl ?_
      refine s_getI (pc := 44) fl_X5_9 lk_Lines_0 kk_Lines_0_0 (dc dl_X5_add 25 rfl) (fun v7 => ?_)
      refine s_iload (pc := 47) (dc dl_X5_add 26 rfl) rfl ?_
      refine s_iast (pc := 49) lk_Lines_4 (dc dl_X5_add 27 rfl) ?_
      refine s_aload_n (pc := 50) (dc dl_X5_add 28 rfl) rfl rfl ?_
      refine s_dup (pc := 51) (dc dl_X5_add 29 rfl) rfl ?_
      refine s_getI (pc := 52) fl_X5_9 lk_Lines_0 kk_Lines_0_0 (dc dl_X5_add 30 rfl) (fun v8 => ?_)
      refine s_iconst (pc := 55) (v := 1) (dc dl_X5_add 31 rfl) ic_1 ?_
      refine s_iadd (pc := 56) (dc dl_X5_add 32 rfl) ?_
      refine s_putI (pc := 57) fw_X5_9 lk_Lines_0 kk_Lines_0_0 (dc dl_X5_add 33 rfl) ?_
      exact s_wk (hj2 ()) rfl
def gX8_get (x1 : Int32) : MM Int32 :=
  jn (fun (a2 : Int32) =>
  pr a2) (fun j1 =>
  jn (fun (a4 : Unit) =>
  j1 0) (fun j3 =>
  (if x1 < 0 then
  j3 ()
  else
  bd (ln 1) fun v5 =>
  (if v5 ≤ x1 then
  j3 ()
  else
  bd (la 1 x1) fun v6 =>
  j1 v6))))
set_option maxHeartbeats 4000000 in
theorem cn_X8_get (l : Launch) (G : Gl) (hG : gOk G) (ad : Nat → Nat) (x1 : Int32) : Cn l G mX8_get 0 lay_Told ad [.ref (ad 0), .int x1] (gX8_get x1) := by
  refine cn_of (lv := [some (.ref (ad 0)), some (.int x1)]) (by decide +kernel) rfl (Nat.le_of_ble_eq_true rfl) rfl ?_
  unfold gX8_get
  refine s_iload_n (pc := 0) (dc dl_X8_get 0 rfl) rfl rfl ?_
  refine s_jn (pj := 23) (fun a2 : Int32 => [none, none]) (fun a2 : Int32 => [.int a2]) (fun a2 => ?_) (fun j1 hj1 => ?_)
  · exact s_ireturn (pc := 23) rfl (dc dl_X8_get 13 rfl)
  · refine s_jn (pj := 22) (fun a4 : Unit => [none, none]) (fun a4 : Unit => []) (fun a4 => ?_) (fun j3 hj3 => ?_)
    · refine s_iconst (pc := 22) (v := 0) (dc dl_X8_get 12 rfl) ic_0 ?_
      exact s_wk (hj1 0) rfl
    · refine s_if_lt (pc := 1) (tgt := 22) (dc dl_X8_get 1 rfl) rfl ?_ ?_
      · exact s_wk (hj3 ()) rfl
      · refine s_iload_n (pc := 4) (dc dl_X8_get 2 rfl) rfl rfl ?_
        refine s_aload_n (pc := 5) (dc dl_X8_get 3 rfl) rfl rfl ?_
        refine s_getR (pc := 6) fl_X8_21 lk_Told_0 kk_Told_0_1 (dc dl_X8_get 4 rfl) ?_
        refine s_alen (pc := 9) lk_Told_1 (dc dl_X8_get 5 rfl) (fun v5 => ?_)
        refine s_icmp_ge (pc := 10) (tgt := 22) (dc dl_X8_get 6 rfl) rfl ?_ ?_
        · exact s_wk (hj3 ()) rfl
        · refine s_aload_n (pc := 13) (dc dl_X8_get 7 rfl) rfl rfl ?_
          refine s_getR (pc := 14) fl_X8_21 lk_Told_0 kk_Told_0_1 (dc dl_X8_get 8 rfl) ?_
          refine s_iload_n (pc := 17) (dc dl_X8_get 9 rfl) rfl rfl ?_
          refine s_iald (pc := 18) lk_Told_1 (dc dl_X8_get 10 rfl) (fun v6 => ?_)
          refine s_goto (pc := 19) (tgt := 23) (dc dl_X8_get 11 rfl) rfl ?_
          exact s_wk (hj1 v6) rfl
def gX7_put (x1 : Int32) : MM Int32 :=
  loopC 100000 (fun (self1 : Int32 → MM Int32) (s2 : Int32) =>
  jn (fun (a4 : Unit) =>
  pr 0) (fun j3 =>
  (if s2 < 0 then
  j3 ()
  else
  bd (ld 0 0) fun v5 =>
  (if 400 ≤ v5 then
  j3 ()
  else
  bd (ld 0 0) fun v6 =>
  bd (sa 1 v6 ((ish x1 s2) &&& 255)) fun _ =>
  bd (ld 0 0) fun v7 =>
  bd (sv 0 0 (v7 + 1)) fun _ =>
  lt (s2 + (-8)) fun y8 =>
  self1 y8)))) 24
set_option maxHeartbeats 4000000 in
theorem cn_X7_put (l : Launch) (G : Gl) (hG : gOk G) (ad : Nat → Nat) (x1 : Int32) : Cn l G mX7_put 0 lay_Tape ad [.ref (ad 0), .int x1] (gX7_put x1) := by
  refine cn_of (lv := [some (.ref (ad 0)), some (.int x1), none]) (by decide +kernel) rfl (Nat.le_of_ble_eq_true rfl) rfl ?_
  unfold gX7_put
  refine s_bipush (pc := 0) (v := 24) (dc dl_X7_put 0 rfl) bi_24 ?_
  refine s_istore_n (pc := 2) (lv' := [some (.ref (ad 0)), some (.int x1), some (.int 24)]) (dc dl_X7_put 1 rfl) rfl (Nat.le_of_ble_eq_true rfl) rfl ?_
  refine s_weak (lv' := [some (.ref (ad 0)), some (.int x1), some (.int 24)]) rfl ?_
  refine s_loop (pc := 3) (fun s2 : Int32 => [some (.ref (ad 0)), some (.int x1), some (.int s2)]) [] (fun self1 hself1 s2 => ?_) _ 24
  refine s_iload_n (pc := 3) (dc dl_X7_put 2 rfl) rfl rfl ?_
  refine s_jn (pj := 49) (fun a4 : Unit => [none, none, none]) (fun a4 : Unit => []) (fun a4 => ?_) (fun j3 hj3 => ?_)
  · exact s_return (pc := 49) rfl (dc dl_X7_put 26 rfl)
  · refine s_if_lt (pc := 4) (tgt := 49) (dc dl_X7_put 3 rfl) rfl ?_ ?_
    · exact s_wk (hj3 ()) rfl
    · refine s_aload_n (pc := 7) (dc dl_X7_put 4 rfl) rfl rfl ?_
      refine s_getI (pc := 8) fl_X7_9 lk_Tape_0 kk_Tape_0_0 (dc dl_X7_put 5 rfl) (fun v5 => ?_)
      refine s_sipush (pc := 11) (v := 400) (dc dl_X7_put 6 rfl) si_400 ?_
      refine s_icmp_ge (pc := 14) (tgt := 49) (dc dl_X7_put 7 rfl) rfl ?_ ?_
      · exact s_wk (hj3 ()) rfl
      · refine s_aload_n (pc := 17) (dc dl_X7_put 8 rfl) rfl rfl ?_
        refine s_getR (pc := 18) fl_X7_15 lk_Tape_0 kk_Tape_0_1 (dc dl_X7_put 9 rfl) ?_
        refine s_aload_n (pc := 21) (dc dl_X7_put 10 rfl) rfl rfl ?_
        refine s_getI (pc := 22) fl_X7_9 lk_Tape_0 kk_Tape_0_0 (dc dl_X7_put 11 rfl) (fun v6 => ?_)
        refine s_iload_n (pc := 25) (dc dl_X7_put 12 rfl) rfl rfl ?_
        refine s_iload_n (pc := 26) (dc dl_X7_put 13 rfl) rfl rfl ?_
        refine s_iushr (pc := 27) (dc dl_X7_put 14 rfl) ?_
        refine s_sipush (pc := 28) (v := 255) (dc dl_X7_put 15 rfl) si_255 ?_
        refine s_iand (pc := 31) (dc dl_X7_put 16 rfl) ?_
        refine s_iast (pc := 32) lk_Tape_1 (dc dl_X7_put 17 rfl) ?_
        refine s_aload_n (pc := 33) (dc dl_X7_put 18 rfl) rfl rfl ?_
        refine s_dup (pc := 34) (dc dl_X7_put 19 rfl) rfl ?_
        refine s_getI (pc := 35) fl_X7_9 lk_Tape_0 kk_Tape_0_0 (dc dl_X7_put 20 rfl) (fun v7 => ?_)
        refine s_iconst (pc := 38) (v := 1) (dc dl_X7_put 21 rfl) ic_1 ?_
        refine s_iadd (pc := 39) (dc dl_X7_put 22 rfl) ?_
        refine s_putI (pc := 40) fw_X7_9 lk_Tape_0 kk_Tape_0_0 (dc dl_X7_put 23 rfl) ?_
        refine s_iincL (pc := 43) (lf' := fun y8 => [some (.ref (ad 0)), some (.int x1), some (.int y8)]) (dc dl_X7_put 24 rfl) rfl rfl (Nat.le_of_ble_eq_true rfl) (fun _ => rfl) (fun y8 => ?_)
        refine s_goto (pc := 46) (tgt := 3) (dc dl_X7_put 25 rfl) rfl ?_
        exact s_wk (hself1 y8) rfl
def gX7_rewind : MM Int32 :=
  bd (sv 0 5 0) fun _ =>
  bd (sv 0 6 0) fun _ =>
  bd (sv 0 7 ((-1))) fun _ =>
  pr 0
set_option maxHeartbeats 4000000 in
theorem cn_X7_rewind (l : Launch) (G : Gl) (hG : gOk G) (ad : Nat → Nat) : Cn l G mX7_rewind 0 lay_Tape ad [.ref (ad 0)] (gX7_rewind) := by
  refine cn_of (lv := [some (.ref (ad 0))]) (by decide +kernel) rfl (Nat.le_of_ble_eq_true rfl) rfl ?_
  unfold gX7_rewind
  refine s_aload_n (pc := 0) (dc dl_X7_rewind 0 rfl) rfl rfl ?_
  refine s_iconst (pc := 1) (v := 0) (dc dl_X7_rewind 1 rfl) ic_0 ?_
  refine s_putI (pc := 2) fw_X7_28 lk_Tape_0 kk_Tape_0_5 (dc dl_X7_rewind 2 rfl) ?_
  refine s_aload_n (pc := 5) (dc dl_X7_rewind 3 rfl) rfl rfl ?_
  refine s_iconst (pc := 6) (v := 0) (dc dl_X7_rewind 4 rfl) ic_0 ?_
  refine s_putI (pc := 7) fw_X7_31 lk_Tape_0 kk_Tape_0_6 (dc dl_X7_rewind 5 rfl) ?_
  refine s_aload_n (pc := 10) (dc dl_X7_rewind 6 rfl) rfl rfl ?_
  refine s_iconst (pc := 11) (v := (-1)) (dc dl_X7_rewind 7 rfl) ic_m1 ?_
  refine s_putI (pc := 12) fw_X7_34 lk_Tape_0 kk_Tape_0_7 (dc dl_X7_rewind 8 rfl) ?_
  exact s_return (pc := 15) rfl (dc dl_X7_rewind 9 rfl)
def gX8_empty : MM Int32 :=
  bd (sv 0 0 0) fun _ =>
  pr 0
set_option maxHeartbeats 4000000 in
theorem cn_X8_empty (l : Launch) (G : Gl) (hG : gOk G) (ad : Nat → Nat) : Cn l G mX8_empty 0 lay_Told ad [.ref (ad 0)] (gX8_empty) := by
  refine cn_of (lv := [some (.ref (ad 0))]) (by decide +kernel) rfl (Nat.le_of_ble_eq_true rfl) rfl ?_
  unfold gX8_empty
  refine s_aload_n (pc := 0) (dc dl_X8_empty 0 rfl) rfl rfl ?_
  refine s_iconst (pc := 1) (v := 0) (dc dl_X8_empty 1 rfl) ic_0 ?_
  refine s_putI (pc := 2) fw_X8_9 lk_Told_0 kk_Told_0_0 (dc dl_X8_empty 2 rfl) ?_
  refine s_iconst (pc := 5) (v := 0) (dc dl_X8_empty 3 rfl) ic_0 ?_
  exact s_ireturn (pc := 6) rfl (dc dl_X8_empty 4 rfl)
def gX8_tell (x1 : Int32) : MM Int32 :=
  bd (ld 0 0) fun v1 =>
  bd (ln 1) fun v2 =>
  (if v1 < v2 then
  bd (ld 0 0) fun v3 =>
  bd (sa 1 v3 x1) fun _ =>
  bd (ld 0 0) fun v4 =>
  bd (sv 0 0 (v4 + 1)) fun _ =>
  bd (ld 0 0) fun v5 =>
  pr v5
  else
  pr ((-1)))
set_option maxHeartbeats 4000000 in
theorem cn_X8_tell (l : Launch) (G : Gl) (hG : gOk G) (ad : Nat → Nat) (x1 : Int32) : Cn l G mX8_tell 0 lay_Told ad [.ref (ad 0), .int x1] (gX8_tell x1) := by
  refine cn_of (lv := [some (.ref (ad 0)), some (.int x1)]) (by decide +kernel) rfl (Nat.le_of_ble_eq_true rfl) rfl ?_
  unfold gX8_tell
  refine s_aload_n (pc := 0) (dc dl_X8_tell 0 rfl) rfl rfl ?_
  refine s_getI (pc := 1) fl_X8_9 lk_Told_0 kk_Told_0_0 (dc dl_X8_tell 1 rfl) (fun v1 => ?_)
  refine s_aload_n (pc := 4) (dc dl_X8_tell 2 rfl) rfl rfl ?_
  refine s_getR (pc := 5) fl_X8_21 lk_Told_0 kk_Told_0_1 (dc dl_X8_tell 3 rfl) ?_
  refine s_alen (pc := 8) lk_Told_1 (dc dl_X8_tell 4 rfl) (fun v2 => ?_)
  refine s_icmp_lt (pc := 9) (tgt := 14) (dc dl_X8_tell 5 rfl) rfl ?_ ?_
  · refine s_aload_n (pc := 14) (dc dl_X8_tell 8 rfl) rfl rfl ?_
    refine s_getR (pc := 15) fl_X8_21 lk_Told_0 kk_Told_0_1 (dc dl_X8_tell 9 rfl) ?_
    refine s_aload_n (pc := 18) (dc dl_X8_tell 10 rfl) rfl rfl ?_
    refine s_getI (pc := 19) fl_X8_9 lk_Told_0 kk_Told_0_0 (dc dl_X8_tell 11 rfl) (fun v3 => ?_)
    refine s_iload_n (pc := 22) (dc dl_X8_tell 12 rfl) rfl rfl ?_
    refine s_iast (pc := 23) lk_Told_1 (dc dl_X8_tell 13 rfl) ?_
    refine s_aload_n (pc := 24) (dc dl_X8_tell 14 rfl) rfl rfl ?_
    refine s_dup (pc := 25) (dc dl_X8_tell 15 rfl) rfl ?_
    refine s_getI (pc := 26) fl_X8_9 lk_Told_0 kk_Told_0_0 (dc dl_X8_tell 16 rfl) (fun v4 => ?_)
    refine s_iconst (pc := 29) (v := 1) (dc dl_X8_tell 17 rfl) ic_1 ?_
    refine s_iadd (pc := 30) (dc dl_X8_tell 18 rfl) ?_
    refine s_putI (pc := 31) fw_X8_9 lk_Told_0 kk_Told_0_0 (dc dl_X8_tell 19 rfl) ?_
    refine s_aload_n (pc := 34) (dc dl_X8_tell 20 rfl) rfl rfl ?_
    refine s_getI (pc := 35) fl_X8_9 lk_Told_0 kk_Told_0_0 (dc dl_X8_tell 21 rfl) (fun v5 => ?_)
    exact s_ireturn (pc := 38) rfl (dc dl_X8_tell 22 rfl)
  · refine s_iconst (pc := 12) (v := (-1)) (dc dl_X8_tell 6 rfl) ic_m1 ?_
    exact s_ireturn (pc := 13) rfl (dc dl_X8_tell 7 rfl)
