def gX0_read (x1 x2 : Int32) : MM Int32 :=
  bd (lf rh0 0 (gX10_isWithin x1 0 149)) fun r1 =>
  jn (fun (a3 : Unit) =>
  pr ((-2))) (fun j2 =>
  (if r1 = 0 then
  j2 ()
  else
  bd (lf rh0 0 (gX10_isWithin x2 0 3)) fun r4 =>
  (if r4 = 0 then
  j2 ()
  else
  bd (la 1 ((x1 * 4) + x2)) fun v5 =>
  pr v5)))
set_option maxHeartbeats 4000000 in
theorem cn_X0_read (l : Launch) (G : Gl) (hG : gOk G) (ad : Nat → Nat) (x1 x2 : Int32) : Cn l G mX0_read 1 lay_Book ad [.ref (ad 0), .int x1, .int x2] (gX0_read x1 x2) := by
  refine cn_of (lv := [some (.ref (ad 0)), some (.int x1), some (.int x2)]) (by decide +kernel) rfl (Nat.le_of_ble_eq_true rfl) rfl ?_
  unfold gX0_read
  refine s_iload_n (pc := 0) (dc dl_X0_read 0 rfl) rfl rfl ?_
  refine s_iconst (pc := 1) (v := 0) (dc dl_X0_read 1 rfl) ic_0 ?_
  refine s_sipush (pc := 2) (v := 149) (dc dl_X0_read 2 rfl) si_149 ?_
  refine s_calll (pc := 5) (ρ := rh0) (rest := []) hG ss_Book_E_rh0 (calls_SN (mi := mX0_read) (As := [.int x1, .int 0, .int 149]) (rest := []) hG (dc dl_X0_read 3 rfl) mo_X10_isWithin ms_X10_isWithin ml_X0_21 ⟨Nat.le_of_ble_eq_true rfl, Nat.le_of_ble_eq_true rfl⟩ rfl rfl (Nat.le_of_ble_eq_true rfl)) (cn_X10_isWithin l G hG (fun i => ad (rh0 i)) x1 0 149) rfl rfl (fun r1 => ?_)
  refine s_jn (pj := 20) (fun a3 : Unit => [none, none, none]) (fun a3 : Unit => []) (fun a3 => ?_) (fun j2 hj2 => ?_)
  · refine s_bipush (pc := 20) (v := (-2)) (dc dl_X0_read 10 rfl) bi_m2 ?_
    exact s_ireturn (pc := 22) rfl (dc dl_X0_read 11 rfl)
  · refine s_if_eq (pc := 8) (tgt := 20) (dc dl_X0_read 4 rfl) rfl ?_ ?_
    · exact s_wk (hj2 ()) rfl
    · refine s_iload_n (pc := 11) (dc dl_X0_read 5 rfl) rfl rfl ?_
      refine s_iconst (pc := 12) (v := 0) (dc dl_X0_read 6 rfl) ic_0 ?_
      refine s_iconst (pc := 13) (v := 3) (dc dl_X0_read 7 rfl) ic_3 ?_
      refine s_calll (pc := 14) (ρ := rh0) (rest := []) hG ss_Book_E_rh0 (calls_SN (mi := mX0_read) (As := [.int x2, .int 0, .int 3]) (rest := []) hG (dc dl_X0_read 8 rfl) mo_X10_isWithin ms_X10_isWithin ml_X0_21 ⟨Nat.le_of_ble_eq_true rfl, Nat.le_of_ble_eq_true rfl⟩ rfl rfl (Nat.le_of_ble_eq_true rfl)) (cn_X10_isWithin l G hG (fun i => ad (rh0 i)) x2 0 3) rfl rfl (fun r4 => ?_)
      refine s_if_ne (pc := 17) (tgt := 23) (dc dl_X0_read 9 rfl) rfl ?_ ?_
      · exact s_wk (hj2 ()) rfl
      · refine s_aload_n (pc := 23) (dc dl_X0_read 12 rfl) rfl rfl ?_
        refine s_getR (pc := 24) fl_X0_9 lk_Book_0 kk_Book_0_0 (dc dl_X0_read 13 rfl) ?_
        refine s_iload_n (pc := 27) (dc dl_X0_read 14 rfl) rfl rfl ?_
        refine s_iconst (pc := 28) (v := 4) (dc dl_X0_read 15 rfl) ic_4 ?_
        refine s_imul (pc := 29) (dc dl_X0_read 16 rfl) ?_
        refine s_iload_n (pc := 30) (dc dl_X0_read 17 rfl) rfl rfl ?_
        refine s_iadd (pc := 31) (dc dl_X0_read 18 rfl) ?_
        refine s_iald (pc := 32) lk_Book_1 (dc dl_X0_read 19 rfl) (fun v5 => ?_)
        exact s_ireturn (pc := 33) rfl (dc dl_X0_read 20 rfl)
def gX0_write (x2 x3 x4 : Int32) : MM Int32 :=
  bd (ld 2 0) fun v1 =>
  jn (fun (a3 : Unit) =>
  pr 0) (fun j2 =>
  (if v1 = 0 then
  bd (ld 2 3) fun v4 =>
  bd (lf rh0 0 (gX10_isWithin v4 0 149)) fun r5 =>
  (if r5 = 0 then
  j2 ()
  else
  bd (ld 2 3) fun v6 =>
  lt (v6 * 4) fun y7 =>
  bd (ld 2 2) fun v8 =>
  bd (sa 1 y7 v8) fun _ =>
  bd (sa 1 (y7 + 1) x2) fun _ =>
  bd (sa 1 (y7 + 2) x3) fun _ =>
  bd (sa 1 (y7 + 3) x4) fun _ =>
  bd (ld 2 3) fun v9 =>
  bd (sv 2 3 (v9 + 1)) fun _ =>
  pr 0)
  else
  j2 ()))
set_option maxHeartbeats 4000000 in
theorem cn_X0_write (l : Launch) (G : Gl) (hG : gOk G) (ad : Nat → Nat) (x2 x3 x4 : Int32) : Cn l G mX0_write 1 lay_BookW ad [.ref (ad 0), .ref (ad 2), .int x2, .int x3, .int x4] (gX0_write x2 x3 x4) := by
  refine cn_of (lv := [some (.ref (ad 0)), some (.ref (ad 2)), some (.int x2), some (.int x3), some (.int x4), none]) (by decide +kernel) rfl (Nat.le_of_ble_eq_true rfl) rfl ?_
  unfold gX0_write
  refine s_aload_n (pc := 0) (dc dl_X0_write 0 rfl) rfl rfl ?_
  refine s_getI (pc := 1) fl_X0_25 lk_BookW_2 kk_BookW_2_0 (dc dl_X0_write 1 rfl) (fun v1 => ?_)
  refine s_jn (pj := 21) (fun a3 : Unit => [none, none, none, none, none, none]) (fun a3 : Unit => []) (fun a3 => ?_) (fun j2 hj2 => ?_)
  · exact s_return (pc := 21) rfl (dc dl_X0_write 9 rfl)
  · refine s_if_ne (pc := 4) (tgt := 21) (dc dl_X0_write 2 rfl) rfl ?_ ?_
    · refine s_aload_n (pc := 7) (dc dl_X0_write 3 rfl) rfl rfl ?_
      refine s_getI (pc := 8) fl_X0_31 lk_BookW_2 kk_BookW_2_3 (dc dl_X0_write 4 rfl) (fun v4 => ?_)
      refine s_iconst (pc := 11) (v := 0) (dc dl_X0_write 5 rfl) ic_0 ?_
      refine s_sipush (pc := 12) (v := 149) (dc dl_X0_write 6 rfl) si_149 ?_
      refine s_calll (pc := 15) (ρ := rh0) (rest := []) hG ss_BookW_E_rh0 (calls_SN (mi := mX0_write) (As := [.int v4, .int 0, .int 149]) (rest := []) hG (dc dl_X0_write 7 rfl) mo_X10_isWithin ms_X10_isWithin ml_X0_21 ⟨Nat.le_of_ble_eq_true rfl, Nat.le_of_ble_eq_true rfl⟩ rfl rfl (Nat.le_of_ble_eq_true rfl)) (cn_X10_isWithin l G hG (fun i => ad (rh0 i)) v4 0 149) rfl rfl (fun r5 => ?_)
      refine s_if_ne (pc := 18) (tgt := 22) (dc dl_X0_write 8 rfl) rfl ?_ ?_
      · exact s_wk (hj2 ()) rfl
      · refine s_aload_n (pc := 22) (dc dl_X0_write 10 rfl) rfl rfl ?_
        refine s_getI (pc := 23) fl_X0_31 lk_BookW_2 kk_BookW_2_3 (dc dl_X0_write 11 rfl) (fun v6 => ?_)
        refine s_iconst (pc := 26) (v := 4) (dc dl_X0_write 12 rfl) ic_4 ?_
        refine s_imul (pc := 27) (dc dl_X0_write 13 rfl) ?_
        refine s_istoreL (pc := 28) (lf' := fun y7 => [some (.ref (ad 0)), some (.ref (ad 2)), some (.int x2), some (.int x3), some (.int x4), some (.int y7)]) (dc dl_X0_write 14 rfl) (Nat.le_of_ble_eq_true rfl) (fun _ => rfl) (fun y7 => ?_)
        refine s_aload_n (pc := 30) (dc dl_X0_write 15 rfl) rfl rfl ?_
        refine s_getR (pc := 31) fl_X0_9 lk_BookW_0 kk_BookW_0_0 (dc dl_X0_write 16 rfl) ?_
        refine s_iload (pc := 34) (dc dl_X0_write 17 rfl) rfl ?_
        refine s_aload_n (pc := 36) (dc dl_X0_write 18 rfl) rfl rfl ?_
        refine s_getI (pc := 37) fl_X0_35 lk_BookW_2 kk_BookW_2_2 (dc dl_X0_write 19 rfl) (fun v8 => ?_)
        refine s_iast (pc := 40) lk_BookW_1 (dc dl_X0_write 20 rfl) ?_
        refine s_aload_n (pc := 41) (dc dl_X0_write 21 rfl) rfl rfl ?_
        refine s_getR (pc := 42) fl_X0_9 lk_BookW_0 kk_BookW_0_0 (dc dl_X0_write 22 rfl) ?_
        refine s_iload (pc := 45) (dc dl_X0_write 23 rfl) rfl ?_
        refine s_iconst (pc := 47) (v := 1) (dc dl_X0_write 24 rfl) ic_1 ?_
        refine s_iadd (pc := 48) (dc dl_X0_write 25 rfl) ?_
        refine s_iload_n (pc := 49) (dc dl_X0_write 26 rfl) rfl rfl ?_
        refine s_iast (pc := 50) lk_BookW_1 (dc dl_X0_write 27 rfl) ?_
        refine s_aload_n (pc := 51) (dc dl_X0_write 28 rfl) rfl rfl ?_
        refine s_getR (pc := 52) fl_X0_9 lk_BookW_0 kk_BookW_0_0 (dc dl_X0_write 29 rfl) ?_
        refine s_iload (pc := 55) (dc dl_X0_write 30 rfl) rfl ?_
        refine s_iconst (pc := 57) (v := 2) (dc dl_X0_write 31 rfl) ic_2 ?_
        refine s_iadd (pc := 58) (dc dl_X0_write 32 rfl) ?_
        refine s_iload_n (pc := 59) (dc dl_X0_write 33 rfl) rfl rfl ?_
        refine s_iast (pc := 60) lk_BookW_1 (dc dl_X0_write 34 rfl) ?_
        refine s_aload_n (pc := 61) (dc dl_X0_write 35 rfl) rfl rfl ?_
        refine s_getR (pc := 62) fl_X0_9 lk_BookW_0 kk_BookW_0_0 (dc dl_X0_write 36 rfl) ?_
        refine s_iload (pc := 65) (dc dl_X0_write 37 rfl) rfl ?_
        refine s_iconst (pc := 67) (v := 3) (dc dl_X0_write 38 rfl) ic_3 ?_
        refine s_iadd (pc := 68) (dc dl_X0_write 39 rfl) ?_
        refine s_iload (pc := 69) (dc dl_X0_write 40 rfl) rfl ?_
        refine s_iast (pc := 71) lk_BookW_1 (dc dl_X0_write 41 rfl) ?_
        refine s_aload_n (pc := 72) (dc dl_X0_write 42 rfl) rfl rfl ?_
        refine s_dup (pc := 73) (dc dl_X0_write 43 rfl) rfl ?_
        refine s_getI (pc := 74) fl_X0_31 lk_BookW_2 kk_BookW_2_3 (dc dl_X0_write 44 rfl) (fun v9 => ?_)
        refine s_iconst (pc := 77) (v := 1) (dc dl_X0_write 45 rfl) ic_1 ?_
        refine s_iadd (pc := 78) (dc dl_X0_write 46 rfl) ?_
        refine s_putI (pc := 79) fw_X0_31 lk_BookW_2 kk_BookW_2_3 (dc dl_X0_write 47 rfl) ?_
        exact s_return (pc := 82) rfl (dc dl_X0_write 48 rfl)
    · exact s_wk (hj2 ()) rfl
def gX5_friendsOf (x1 : Int32) : MM Int32 :=
  loopC 100000 (fun (self1 : (Int32 × Int32) → MM Int32) (s2 : Int32 × Int32) =>
  bd (ld 0 0) fun v3 =>
  jn (fun (a5 : Unit) =>
  pr s2.1) (fun j4 =>
  (if v3 ≤ s2.2 then
  j4 ()
  else
  (if 16 ≤ s2.2 then
  j4 ()
  else
  bd (la 3 s2.2) fun v6 =>
  jn (fun (a8 : Int32) =>
  bd (la 4 s2.2) fun v9 =>
  jn (fun (a11 : Int32) =>
  lt (s2.2 + 1) fun y12 =>
  self1 (a11, y12)) (fun j10 =>
  (if v9 = x1 then
  bd (la 3 s2.2) fun v13 =>
  lt (a8 ||| (1 <<< (v13 &&& 31))) fun y14 =>
  j10 y14
  else
  j10 a8))) (fun j7 =>
  (if v6 = x1 then
  bd (la 4 s2.2) fun v15 =>
  lt (s2.1 ||| (1 <<< (v15 &&& 31))) fun y16 =>
  j7 y16
  else
  j7 s2.1)))))) (0, 0)
set_option maxHeartbeats 4000000 in
theorem cn_X5_friendsOf (l : Launch) (G : Gl) (hG : gOk G) (ad : Nat → Nat) (x1 : Int32) : Cn l G mX5_friendsOf 0 lay_Lines ad [.ref (ad 0), .int x1] (gX5_friendsOf x1) := by
  refine cn_of (lv := [some (.ref (ad 0)), some (.int x1), none, none]) (by decide +kernel) rfl (Nat.le_of_ble_eq_true rfl) rfl ?_
  unfold gX5_friendsOf
  refine s_iconst (pc := 0) (v := 0) (dc dl_X5_friendsOf 0 rfl) ic_0 ?_
  refine s_istore_n (pc := 1) (lv' := [some (.ref (ad 0)), some (.int x1), some (.int 0), none]) (dc dl_X5_friendsOf 1 rfl) rfl (Nat.le_of_ble_eq_true rfl) rfl ?_
  refine s_iconst (pc := 2) (v := 0) (dc dl_X5_friendsOf 2 rfl) ic_0 ?_
  refine s_istore_n (pc := 3) (lv' := [some (.ref (ad 0)), some (.int x1), some (.int 0), some (.int 0)]) (dc dl_X5_friendsOf 3 rfl) rfl (Nat.le_of_ble_eq_true rfl) rfl ?_
  refine s_weak (lv' := [some (.ref (ad 0)), some (.int x1), some (.int 0), some (.int 0)]) rfl ?_
  refine s_loop (pc := 4) (fun s2 : Int32 × Int32 => [some (.ref (ad 0)), some (.int x1), some (.int s2.1), some (.int s2.2)]) [] (fun self1 hself1 s2 => ?_) _ (0, 0)
  refine s_iload_n (pc := 4) (dc dl_X5_friendsOf 4 rfl) rfl rfl ?_
  refine s_aload_n (pc := 5) (dc dl_X5_friendsOf 5 rfl) rfl rfl ?_
  refine s_getI (pc := 6) fl_X5_9 lk_Lines_0 kk_Lines_0_0 (dc dl_X5_friendsOf 6 rfl) (fun v3 => ?_)
  refine s_jn (pj := 66) (fun a5 : Unit => [none, none, some (.int s2.1), none]) (fun a5 : Unit => []) (fun a5 => ?_) (fun j4 hj4 => ?_)
  · refine s_iload_n (pc := 66) (dc dl_X5_friendsOf 43 rfl) rfl rfl ?_
    exact s_ireturn (pc := 67) rfl (dc dl_X5_friendsOf 44 rfl)
  · refine s_icmp_ge (pc := 9) (tgt := 66) (dc dl_X5_friendsOf 7 rfl) rfl ?_ ?_
    · exact s_wk (hj4 ()) rfl
    · refine s_iload_n (pc := 12) (dc dl_X5_friendsOf 8 rfl) rfl rfl ?_
      refine s_bipush (pc := 13) (v := 16) (dc dl_X5_friendsOf 9 rfl) bi_16 ?_
      refine s_icmp_ge (pc := 15) (tgt := 66) (dc dl_X5_friendsOf 10 rfl) rfl ?_ ?_
      · exact s_wk (hj4 ()) rfl
      · refine s_aload_n (pc := 18) (dc dl_X5_friendsOf 11 rfl) rfl rfl ?_
        refine s_getR (pc := 19) fl_X5_22 lk_Lines_0 kk_Lines_0_3 (dc dl_X5_friendsOf 12 rfl) ?_
        refine s_iload_n (pc := 22) (dc dl_X5_friendsOf 13 rfl) rfl rfl ?_
        refine s_iald (pc := 23) lk_Lines_3 (dc dl_X5_friendsOf 14 rfl) (fun v6 => ?_)
        refine s_iload_n (pc := 24) (dc dl_X5_friendsOf 15 rfl) rfl rfl ?_
        refine s_jn (pj := 39) (fun a8 : Int32 => [some (.ref (ad 0)), some (.int x1), some (.int a8), some (.int s2.2)]) (fun a8 : Int32 => []) (fun a8 => ?_) (fun j7 hj7 => ?_)
        · refine s_aload_n (pc := 39) (dc dl_X5_friendsOf 26 rfl) rfl rfl ?_
          refine s_getR (pc := 40) fl_X5_25 lk_Lines_0 kk_Lines_0_4 (dc dl_X5_friendsOf 27 rfl) ?_
          refine s_iload_n (pc := 43) (dc dl_X5_friendsOf 28 rfl) rfl rfl ?_
          refine s_iald (pc := 44) lk_Lines_4 (dc dl_X5_friendsOf 29 rfl) (fun v9 => ?_)
          refine s_iload_n (pc := 45) (dc dl_X5_friendsOf 30 rfl) rfl rfl ?_
          refine s_jn (pj := 60) (fun a11 : Int32 => [some (.ref (ad 0)), some (.int x1), some (.int a11), some (.int s2.2)]) (fun a11 : Int32 => []) (fun a11 => ?_) (fun j10 hj10 => ?_)
          · refine s_iincL (pc := 60) (lf' := fun y12 => [some (.ref (ad 0)), some (.int x1), some (.int a11), some (.int y12)]) (dc dl_X5_friendsOf 41 rfl) rfl rfl (Nat.le_of_ble_eq_true rfl) (fun _ => rfl) (fun y12 => ?_)
            refine s_goto (pc := 63) (tgt := 4) (dc dl_X5_friendsOf 42 rfl) rfl ?_
            exact s_wk (hself1 (a11, y12)) rfl
          · refine s_icmp_ne (pc := 46) (tgt := 60) (dc dl_X5_friendsOf 31 rfl) rfl ?_ ?_
            · refine s_iload_n (pc := 49) (dc dl_X5_friendsOf 32 rfl) rfl rfl ?_
              refine s_iconst (pc := 50) (v := 1) (dc dl_X5_friendsOf 33 rfl) ic_1 ?_
              refine s_aload_n (pc := 51) (dc dl_X5_friendsOf 34 rfl) rfl rfl ?_
              refine s_getR (pc := 52) fl_X5_22 lk_Lines_0 kk_Lines_0_3 (dc dl_X5_friendsOf 35 rfl) ?_
              refine s_iload_n (pc := 55) (dc dl_X5_friendsOf 36 rfl) rfl rfl ?_
              refine s_iald (pc := 56) lk_Lines_3 (dc dl_X5_friendsOf 37 rfl) (fun v13 => ?_)
              refine s_ishl (pc := 57) (dc dl_X5_friendsOf 38 rfl) ?_
              refine s_ior (pc := 58) (dc dl_X5_friendsOf 39 rfl) ?_
              refine s_istore_nL (pc := 59) (lf' := fun y14 => [some (.ref (ad 0)), some (.int x1), some (.int y14), some (.int s2.2)]) (dc dl_X5_friendsOf 40 rfl) rfl (Nat.le_of_ble_eq_true rfl) (fun _ => rfl) (fun y14 => ?_)
              exact s_wk (hj10 y14) rfl
            · exact s_wk (hj10 a8) rfl
        · refine s_icmp_ne (pc := 25) (tgt := 39) (dc dl_X5_friendsOf 16 rfl) rfl ?_ ?_
          · refine s_iload_n (pc := 28) (dc dl_X5_friendsOf 17 rfl) rfl rfl ?_
            refine s_iconst (pc := 29) (v := 1) (dc dl_X5_friendsOf 18 rfl) ic_1 ?_
            refine s_aload_n (pc := 30) (dc dl_X5_friendsOf 19 rfl) rfl rfl ?_
            refine s_getR (pc := 31) fl_X5_25 lk_Lines_0 kk_Lines_0_4 (dc dl_X5_friendsOf 20 rfl) ?_
            refine s_iload_n (pc := 34) (dc dl_X5_friendsOf 21 rfl) rfl rfl ?_
            refine s_iald (pc := 35) lk_Lines_4 (dc dl_X5_friendsOf 22 rfl) (fun v15 => ?_)
            refine s_ishl (pc := 36) (dc dl_X5_friendsOf 23 rfl) ?_
            refine s_ior (pc := 37) (dc dl_X5_friendsOf 24 rfl) ?_
            refine s_istore_nL (pc := 38) (lf' := fun y16 => [some (.ref (ad 0)), some (.int x1), some (.int y16), some (.int s2.2)]) (dc dl_X5_friendsOf 25 rfl) rfl (Nat.le_of_ble_eq_true rfl) (fun _ => rfl) (fun y16 => ?_)
            exact s_wk (hj7 y16) rfl
          · exact s_wk (hj7 s2.1) rfl
def gX7_refuse (x1 : Int32) : MM Int32 :=
  bd (sv 0 6 x1) fun _ =>
  bd (ld 0 4) fun v1 =>
  bd (sv 0 7 v1) fun _ =>
  rz 0
set_option maxHeartbeats 4000000 in
theorem cn_X7_refuse (l : Launch) (G : Gl) (hG : gOk G) (ad : Nat → Nat) (x1 : Int32) : Cn l G mX7_refuse 0 lay_Tape ad [.ref (ad 0), .int x1] (gX7_refuse x1) := by
  refine cn_of (lv := [some (.ref (ad 0)), some (.int x1)]) (by decide +kernel) rfl (Nat.le_of_ble_eq_true rfl) rfl ?_
  unfold gX7_refuse
  refine s_aload_n (pc := 0) (dc dl_X7_refuse 0 rfl) rfl rfl ?_
  refine s_iload_n (pc := 1) (dc dl_X7_refuse 1 rfl) rfl rfl ?_
  refine s_putI (pc := 2) fw_X7_31 lk_Tape_0 kk_Tape_0_6 (dc dl_X7_refuse 2 rfl) ?_
  refine s_aload_n (pc := 5) (dc dl_X7_refuse 3 rfl) rfl rfl ?_
  refine s_aload_n (pc := 6) (dc dl_X7_refuse 4 rfl) rfl rfl ?_
  refine s_getI (pc := 7) fl_X7_25 lk_Tape_0 kk_Tape_0_4 (dc dl_X7_refuse 5 rfl) (fun v1 => ?_)
  refine s_putI (pc := 10) fw_X7_34 lk_Tape_0 kk_Tape_0_7 (dc dl_X7_refuse 6 rfl) ?_
  refine s_iconst (pc := 13) (v := 0) (dc dl_X7_refuse 7 rfl) ic_0 ?_
  exact s_zreturn (pc := 14) rfl (dc dl_X7_refuse 8 rfl)
def gX7_isNumber (x1 x2 : Int32) : MM Int32 :=
  bd (ld 0 2) fun v1 =>
  (if v1 = 257 then
  bd (ld 0 3) fun v2 =>
  bd (lf rh0 0 (gX10_isWithin v2 x1 x2)) fun r3 =>
  jn (fun (a5 : Int32) =>
  rz a5) (fun j4 =>
  jn (fun (a7 : Unit) =>
  j4 1) (fun j6 =>
  (if r3 = 0 then
  bd (gX7_refuse 2) fun r8 =>
  (if r8 = 0 then
  j4 0
  else
  j6 ())
  else
  j6 ())))
  else
  bd (gX7_refuse 1) fun r9 =>
  rz r9)
set_option maxHeartbeats 4000000 in
theorem cn_X7_isNumber (l : Launch) (G : Gl) (hG : gOk G) (ad : Nat → Nat) (x1 x2 : Int32) : Cn l G mX7_isNumber 1 lay_Tape ad [.ref (ad 0), .int x1, .int x2] (gX7_isNumber x1 x2) := by
  refine cn_of (lv := [some (.ref (ad 0)), some (.int x1), some (.int x2)]) (by decide +kernel) rfl (Nat.le_of_ble_eq_true rfl) rfl ?_
  unfold gX7_isNumber
  refine s_aload_n (pc := 0) (dc dl_X7_isNumber 0 rfl) rfl rfl ?_
  refine s_getI (pc := 1) fl_X7_19 lk_Tape_0 kk_Tape_0_2 (dc dl_X7_isNumber 1 rfl) (fun v1 => ?_)
  refine s_sipush (pc := 4) (v := 257) (dc dl_X7_isNumber 2 rfl) si_257 ?_
  refine s_icmp_eq (pc := 7) (tgt := 16) (dc dl_X7_isNumber 3 rfl) rfl ?_ ?_
  · refine s_aload_n (pc := 16) (dc dl_X7_isNumber 8 rfl) rfl rfl ?_
    refine s_getI (pc := 17) fl_X7_22 lk_Tape_0 kk_Tape_0_3 (dc dl_X7_isNumber 9 rfl) (fun v2 => ?_)
    refine s_iload_n (pc := 20) (dc dl_X7_isNumber 10 rfl) rfl rfl ?_
    refine s_iload_n (pc := 21) (dc dl_X7_isNumber 11 rfl) rfl rfl ?_
    refine s_calll (pc := 22) (ρ := rh0) (rest := []) hG ss_Tape_E_rh0 (calls_SN (mi := mX7_isNumber) (As := [.int v2, .int x1, .int x2]) (rest := []) hG (dc dl_X7_isNumber 12 rfl) mo_X10_isWithin ms_X10_isWithin ml_X7_64 ⟨Nat.le_of_ble_eq_true rfl, Nat.le_of_ble_eq_true rfl⟩ rfl rfl (Nat.le_of_ble_eq_true rfl)) (cn_X10_isWithin l G hG (fun i => ad (rh0 i)) v2 x1 x2) rfl rfl (fun r3 => ?_)
    refine s_jn (pj := 41) (fun a5 : Int32 => [none, none, none]) (fun a5 : Int32 => [.int a5]) (fun a5 => ?_) (fun j4 hj4 => ?_)
    · exact s_zreturn (pc := 41) rfl (dc dl_X7_isNumber 21 rfl)
    · refine s_jn (pj := 36) (fun a7 : Unit => [none, none, none]) (fun a7 : Unit => []) (fun a7 => ?_) (fun j6 hj6 => ?_)
      · refine s_iconst (pc := 36) (v := 1) (dc dl_X7_isNumber 18 rfl) ic_1 ?_
        refine s_goto (pc := 37) (tgt := 41) (dc dl_X7_isNumber 19 rfl) rfl ?_
        exact s_wk (hj4 1) rfl
      · refine s_if_ne (pc := 25) (tgt := 36) (dc dl_X7_isNumber 13 rfl) rfl ?_ ?_
        · refine s_aload_n (pc := 28) (dc dl_X7_isNumber 14 rfl) rfl rfl ?_
          refine s_iconst (pc := 29) (v := 2) (dc dl_X7_isNumber 15 rfl) ic_2 ?_
          refine s_call (pc := 30) (rest := []) hG (calls_V (mi := mX7_isNumber) (o := 0) (As := [.int 2]) (rest := []) hG (dc dl_X7_isNumber 16 rfl) mo_X7_refuse mv_X7_refuse ml_X7_58 ⟨Nat.le_of_ble_eq_true rfl, Nat.le_of_ble_eq_true rfl⟩ rfl rfl (Nat.le_of_ble_eq_true rfl) lk_Tape_0 rfl) (cn_X7_refuse l G hG ad 2) rfl (fun r8 => ?_)
          refine s_if_eq (pc := 33) (tgt := 40) (dc dl_X7_isNumber 17 rfl) rfl ?_ ?_
          · refine s_iconst (pc := 40) (v := 0) (dc dl_X7_isNumber 20 rfl) ic_0 ?_
            exact s_wk (hj4 0) rfl
          · exact s_wk (hj6 ()) rfl
        · exact s_wk (hj6 ()) rfl
  · refine s_aload_n (pc := 10) (dc dl_X7_isNumber 4 rfl) rfl rfl ?_
    refine s_iconst (pc := 11) (v := 1) (dc dl_X7_isNumber 5 rfl) ic_1 ?_
    refine s_call (pc := 12) (rest := []) hG (calls_V (mi := mX7_isNumber) (o := 0) (As := [.int 1]) (rest := []) hG (dc dl_X7_isNumber 6 rfl) mo_X7_refuse mv_X7_refuse ml_X7_58 ⟨Nat.le_of_ble_eq_true rfl, Nat.le_of_ble_eq_true rfl⟩ rfl rfl (Nat.le_of_ble_eq_true rfl) lk_Tape_0 rfl) (cn_X7_refuse l G hG ad 1) rfl (fun r9 => ?_)
    exact s_zreturn (pc := 15) rfl (dc dl_X7_isNumber 7 rfl)
def gX7_isDigit (x0 : Int32) : MM Int32 :=
  jn (fun (a2 : Int32) =>
  rz a2) (fun j1 =>
  jn (fun (a4 : Unit) =>
  j1 0) (fun j3 =>
  (if x0 < 48 then
  j3 ()
  else
  (if 57 < x0 then
  j3 ()
  else
  j1 1))))
set_option maxHeartbeats 4000000 in
theorem cn_X7_isDigit (l : Launch) (G : Gl) (hG : gOk G) (ad : Nat → Nat) (x0 : Int32) : Cn l G mX7_isDigit 0 lay_E ad [.int x0] (gX7_isDigit x0) := by
  refine cn_of (lv := [some (.int x0)]) (by decide +kernel) rfl (Nat.le_of_ble_eq_true rfl) rfl ?_
  unfold gX7_isDigit
  refine s_iload_n (pc := 0) (dc dl_X7_isDigit 0 rfl) rfl rfl ?_
  refine s_bipush (pc := 1) (v := 48) (dc dl_X7_isDigit 1 rfl) bi_48 ?_
  refine s_jn (pj := 17) (fun a2 : Int32 => [none]) (fun a2 : Int32 => [.int a2]) (fun a2 => ?_) (fun j1 hj1 => ?_)
  · exact s_zreturn (pc := 17) rfl (dc dl_X7_isDigit 9 rfl)
  · refine s_jn (pj := 16) (fun a4 : Unit => [none]) (fun a4 : Unit => []) (fun a4 => ?_) (fun j3 hj3 => ?_)
    · refine s_iconst (pc := 16) (v := 0) (dc dl_X7_isDigit 8 rfl) ic_0 ?_
      exact s_wk (hj1 0) rfl
    · refine s_icmp_lt (pc := 3) (tgt := 16) (dc dl_X7_isDigit 2 rfl) rfl ?_ ?_
      · exact s_wk (hj3 ()) rfl
      · refine s_iload_n (pc := 6) (dc dl_X7_isDigit 3 rfl) rfl rfl ?_
        refine s_bipush (pc := 7) (v := 57) (dc dl_X7_isDigit 4 rfl) bi_57 ?_
        refine s_icmp_gt (pc := 9) (tgt := 16) (dc dl_X7_isDigit 5 rfl) rfl ?_ ?_
        · exact s_wk (hj3 ()) rfl
        · refine s_iconst (pc := 12) (v := 1) (dc dl_X7_isDigit 6 rfl) ic_1 ?_
          refine s_goto (pc := 13) (tgt := 17) (dc dl_X7_isDigit 7 rfl) rfl ?_
          exact s_wk (hj1 1) rfl
def gX7_isLetter (x0 : Int32) : MM Int32 :=
  jn (fun (a2 : Int32) =>
  rz a2) (fun j1 =>
  jn (fun (a4 : Unit) =>
  j1 1) (fun j3 =>
  jn (fun (a6 : Unit) =>
  jn (fun (a8 : Unit) =>
  j1 0) (fun j7 =>
  (if x0 < 65 then
  j7 ()
  else
  (if 90 < x0 then
  j7 ()
  else
  j3 ())))) (fun j5 =>
  (if x0 < 97 then
  j5 ()
  else
  (if x0 ≤ 122 then
  j3 ()
  else
  j5 ())))))
set_option maxHeartbeats 4000000 in
theorem cn_X7_isLetter (l : Launch) (G : Gl) (hG : gOk G) (ad : Nat → Nat) (x0 : Int32) : Cn l G mX7_isLetter 0 lay_E ad [.int x0] (gX7_isLetter x0) := by
  refine cn_of (lv := [some (.int x0)]) (by decide +kernel) rfl (Nat.le_of_ble_eq_true rfl) rfl ?_
  unfold gX7_isLetter
  refine s_iload_n (pc := 0) (dc dl_X7_isLetter 0 rfl) rfl rfl ?_
  refine s_bipush (pc := 1) (v := 97) (dc dl_X7_isLetter 1 rfl) bi_97 ?_
  refine s_jn (pj := 29) (fun a2 : Int32 => [none]) (fun a2 : Int32 => [.int a2]) (fun a2 => ?_) (fun j1 hj1 => ?_)
  · exact s_zreturn (pc := 29) rfl (dc dl_X7_isLetter 15 rfl)
  · refine s_jn (pj := 24) (fun a4 : Unit => [none]) (fun a4 : Unit => []) (fun a4 => ?_) (fun j3 hj3 => ?_)
    · refine s_iconst (pc := 24) (v := 1) (dc dl_X7_isLetter 12 rfl) ic_1 ?_
      refine s_goto (pc := 25) (tgt := 29) (dc dl_X7_isLetter 13 rfl) rfl ?_
      exact s_wk (hj1 1) rfl
    · refine s_jn (pj := 12) (fun a6 : Unit => [some (.int x0)]) (fun a6 : Unit => []) (fun a6 => ?_) (fun j5 hj5 => ?_)
      · refine s_iload_n (pc := 12) (dc dl_X7_isLetter 6 rfl) rfl rfl ?_
        refine s_bipush (pc := 13) (v := 65) (dc dl_X7_isLetter 7 rfl) bi_65 ?_
        refine s_jn (pj := 28) (fun a8 : Unit => [none]) (fun a8 : Unit => []) (fun a8 => ?_) (fun j7 hj7 => ?_)
        · refine s_iconst (pc := 28) (v := 0) (dc dl_X7_isLetter 14 rfl) ic_0 ?_
          exact s_wk (hj1 0) rfl
        · refine s_icmp_lt (pc := 15) (tgt := 28) (dc dl_X7_isLetter 8 rfl) rfl ?_ ?_
          · exact s_wk (hj7 ()) rfl
          · refine s_iload_n (pc := 18) (dc dl_X7_isLetter 9 rfl) rfl rfl ?_
            refine s_bipush (pc := 19) (v := 90) (dc dl_X7_isLetter 10 rfl) bi_90 ?_
            refine s_icmp_gt (pc := 21) (tgt := 28) (dc dl_X7_isLetter 11 rfl) rfl ?_ ?_
            · exact s_wk (hj7 ()) rfl
            · exact s_wk (hj3 ()) rfl
      · refine s_icmp_lt (pc := 3) (tgt := 12) (dc dl_X7_isLetter 2 rfl) rfl ?_ ?_
        · exact s_wk (hj5 ()) rfl
        · refine s_iload_n (pc := 6) (dc dl_X7_isLetter 3 rfl) rfl rfl ?_
          refine s_bipush (pc := 7) (v := 122) (dc dl_X7_isLetter 4 rfl) bi_122 ?_
          refine s_icmp_le (pc := 9) (tgt := 24) (dc dl_X7_isLetter 5 rfl) rfl ?_ ?_
          · exact s_wk (hj3 ()) rfl
          · exact s_wk (hj5 ()) rfl
def gX5_add (x1 x2 x3 x4 : Int32) : MM Int32 :=
  bd (ld 0 0) fun v1 =>
  jn (fun (a3 : Unit) =>
  pr 0) (fun j2 =>
  (if 16 ≤ v1 then
  j2 ()
  else
  bd (ld 0 0) fun v4 =>
  bd (sa 1 v4 x1) fun _ =>
  bd (ld 0 0) fun v5 =>
  bd (sa 2 v5 x2) fun _ =>
  bd (ld 0 0) fun v6 =>
  bd (sa 3 v6 x3) fun _ =>
  bd (ld 0 0) fun v7 =>
  bd (sa 4 v7 x4) fun _ =>
  bd (ld 0 0) fun v8 =>
  bd (sv 0 0 (v8 + 1)) fun _ =>
  j2 ()))
set_option maxHeartbeats 4000000 in
theorem cn_X5_add (l : Launch) (G : Gl) (hG : gOk G) (ad : Nat → Nat) (x1 x2 x3 x4 : Int32) : Cn l G mX5_add 0 lay_Lines ad [.ref (ad 0), .int x1, .int x2, .int x3, .int x4] (gX5_add x1 x2 x3 x4) := by
  refine cn_of (lv := [some (.ref (ad 0)), some (.int x1), some (.int x2), some (.int x3), some (.int x4)]) (by decide +kernel) rfl (Nat.le_of_ble_eq_true rfl) rfl ?_
  unfold gX5_add
  refine s_aload_n (pc := 0) (dc dl_X5_add 0 rfl) rfl rfl ?_
  refine s_getI (pc := 1) fl_X5_9 lk_Lines_0 kk_Lines_0_0 (dc dl_X5_add 1 rfl) (fun v1 => ?_)
  refine s_bipush (pc := 4) (v := 16) (dc dl_X5_add 2 rfl) bi_16 ?_
  refine s_jn (pj := 60) (fun a3 : Unit => [none, none, none, none, none]) (fun a3 : Unit => []) (fun a3 => ?_) (fun j2 hj2 => ?_)
  · exact s_return (pc := 60) rfl (dc dl_X5_add 34 rfl)
  · refine s_icmp_ge (pc := 6) (tgt := 60) (dc dl_X5_add 3 rfl) rfl ?_ ?_
    · exact s_wk (hj2 ()) rfl
    · refine s_aload_n (pc := 9) (dc dl_X5_add 4 rfl) rfl rfl ?_
      refine s_getR (pc := 10) fl_X5_15 lk_Lines_0 kk_Lines_0_1 (dc dl_X5_add 5 rfl) ?_
      refine s_aload_n (pc := 13) (dc dl_X5_add 6 rfl) rfl rfl ?_
      refine s_getI (pc := 14) fl_X5_9 lk_Lines_0 kk_Lines_0_0 (dc dl_X5_add 7 rfl) (fun v4 => ?_)
      refine s_iload_n (pc := 17) (dc dl_X5_add 8 rfl) rfl rfl ?_
      refine s_iast (pc := 18) lk_Lines_1 (dc dl_X5_add 9 rfl) ?_
      refine s_aload_n (pc := 19) (dc dl_X5_add 10 rfl) rfl rfl ?_
      refine s_getR (pc := 20) fl_X5_19 lk_Lines_0 kk_Lines_0_2 (dc dl_X5_add 11 rfl) ?_
      refine s_aload_n (pc := 23) (dc dl_X5_add 12 rfl) rfl rfl ?_
      refine s_getI (pc := 24) fl_X5_9 lk_Lines_0 kk_Lines_0_0 (dc dl_X5_add 13 rfl) (fun v5 => ?_)
      refine s_iload_n (pc := 27) (dc dl_X5_add 14 rfl) rfl rfl ?_
      refine s_iast (pc := 28) lk_Lines_2 (dc dl_X5_add 15 rfl) ?_
      refine s_aload_n (pc := 29) (dc dl_X5_add 16 rfl) rfl rfl ?_
      refine s_getR (pc := 30) fl_X5_22 lk_Lines_0 kk_Lines_0_3 (dc dl_X5_add 17 rfl) ?_
      refine s_aload_n (pc := 33) (dc dl_X5_add 18 rfl) rfl rfl ?_
      refine s_getI (pc := 34) fl_X5_9 lk_Lines_0 kk_Lines_0_0 (dc dl_X5_add 19 rfl) (fun v6 => ?_)
      refine s_iload_n (pc := 37) (dc dl_X5_add 20 rfl) rfl rfl ?_
      refine s_iast (pc := 38) lk_Lines_3 (dc dl_X5_add 21 rfl) ?_
      refine s_aload_n (pc := 39) (dc dl_X5_add 22 rfl) rfl rfl ?_
      refine s_getR (pc := 40) fl_X5_25 lk_Lines_0 kk_Lines_0_4 (dc dl_X5_add 23 rfl) ?_
      refine s_aload_n (pc := 43) (dc dl_X5_add 24 rfl) rfl rfl ?_
      refine s_getI (pc := 44) fl_X5_9 lk_Lines_0 kk_Lines_0_0 (dc dl_X5_add 25 rfl) (fun v7 => ?_)
      refine s_iload (pc := 47) (dc dl_X5_add 26 rfl) rfl ?_
      refine s_iast (pc := 49) lk_Lines_4 (dc dl_X5_add 27 rfl) ?_
      refine s_aload_n (pc := 50) (dc dl_X5_add 28 rfl) rfl rfl ?_
      refine s_dup (pc := 51) (dc dl_X5_add 29 rfl) rfl ?_
      refine s_getI (pc := 52) fl_X5_9 lk_Lines_0 kk_Lines_0_0 (dc dl_X5_add 30 rfl) (fun v8 => ?_)
      refine s_iconst (pc := 55) (v := 1) (dc dl_X5_add 31 rfl) ic_1 ?_
      refine s_iadd (pc := 56) (dc dl_X5_add 32 rfl) ?_
      refine s_putI (pc := 57) fw_X5_9 lk_Lines_0 kk_Lines_0_0 (dc dl_X5_add 33 rfl) ?_
      exact s_wk (hj2 ()) rfl
def gX8_get (x1 : Int32) : MM Int32 :=
  jn (fun (a2 : Int32) =>
  pr a2) (fun j1 =>
  jn (fun (a4 : Unit) =>
  j1 0) (fun j3 =>
  (if x1 < 0 then
  j3 ()
  else
  bd (ln 1) fun v5 =>
  (if v5 ≤ x1 then
  j3 ()
  else
  bd (la 1 x1) fun v6 =>
  j1 v6))))
set_option maxHeartbeats 4000000 in
theorem cn_X8_get (l : Launch) (G : Gl) (hG : gOk G) (ad : Nat → Nat) (x1 : Int32) : Cn l G mX8_get 0 lay_Told ad [.ref (ad 0), .int x1] (gX8_get x1) := by
  refine cn_of (lv := [some (.ref (ad 0)), some (.int x1)]) (by decide +kernel) rfl (Nat.le_of_ble_eq_true rfl) rfl ?_
  unfold gX8_get
  refine s_iload_n (pc := 0) (dc dl_X8_get 0 rfl) rfl rfl ?_
  refine s_jn (pj := 23) (fun a2 : Int32 => [none, none]) (fun a2 : Int32 => [.int a2]) (fun a2 => ?_) (fun j1 hj1 => ?_)
  · exact s_ireturn (pc := 23) rfl (dc dl_X8_get 13 rfl)
  · refine s_jn (pj := 22) (fun a4 : Unit => [none, none]) (fun a4 : Unit => []) (fun a4 => ?_) (fun j3 hj3 => ?_)
    · refine s_iconst (pc := 22) (v := 0) (dc dl_X8_get 12 rfl) ic_0 ?_
      exact s_wk (hj1 0) rfl
    · refine s_if_lt (pc := 1) (tgt := 22) (dc dl_X8_get 1 rfl) rfl ?_ ?_
      · exact s_wk (hj3 ()) rfl
      · refine s_iload_n (pc := 4) (dc dl_X8_get 2 rfl) rfl rfl ?_
        refine s_aload_n (pc := 5) (dc dl_X8_get 3 rfl) rfl rfl ?_
        refine s_getR (pc := 6) fl_X8_21 lk_Told_0 kk_Told_0_1 (dc dl_X8_get 4 rfl) ?_
        refine s_alen (pc := 9) lk_Told_1 (dc dl_X8_get 5 rfl) (fun v5 => ?_)
        refine s_icmp_ge (pc := 10) (tgt := 22) (dc dl_X8_get 6 rfl) rfl ?_ ?_
        · exact s_wk (hj3 ()) rfl
        · refine s_aload_n (pc := 13) (dc dl_X8_get 7 rfl) rfl rfl ?_
          refine s_getR (pc := 14) fl_X8_21 lk_Told_0 kk_Told_0_1 (dc dl_X8_get 8 rfl) ?_
          refine s_iload_n (pc := 17) (dc dl_X8_get 9 rfl) rfl rfl ?_
          refine s_iald (pc := 18) lk_Told_1 (dc dl_X8_get 10 rfl) (fun v6 => ?_)
          refine s_goto (pc := 19) (tgt := 23) (dc dl_X8_get 11 rfl) rfl ?_
          exact s_wk (hj1 v6) rfl
def gX7_put (x1 : Int32) : MM Int32 :=
  loopC 100000 (fun (self1 : Int32 → MM Int32) (s2 : Int32) =>
  jn (fun (a4 : Unit) =>
  pr 0) (fun j3 =>
  (if s2 < 0 then
  j3 ()
  else
  bd (ld 0 0) fun v5 =>
  (if 400 ≤ v5 then
  j3 ()
  else
  bd (ld 0 0) fun v6 =>
  bd (sa 1 v6 ((ish x1 s2) &&& 255)) fun _ =>
  bd (ld 0 0) fun v7 =>
  bd (sv 0 0 (v7 + 1)) fun _ =>
  lt (s2 + (-8)) fun y8 =>
  self1 y8)))) 24
set_option maxHeartbeats 4000000 in
theorem cn_X7_put (l : Launch) (G : Gl) (hG : gOk G) (ad : Nat → Nat) (x1 : Int32) : Cn l G mX7_put 0 lay_Tape ad [.ref (ad 0), .int x1] (gX7_put x1) := by
  refine cn_of (lv := [some (.ref (ad 0)), some (.int x1), none]) (by decide +kernel) rfl (Nat.le_of_ble_eq_true rfl) rfl ?_
  unfold gX7_put
  refine s_bipush (pc := 0) (v := 24) (dc dl_X7_put 0 rfl) bi_24 ?_
  refine s_istore_n (pc := 2) (lv' := [some (.ref (ad 0)), some (.int x1), some (.int 24)]) (dc dl_X7_put 1 rfl) rfl (Nat.le_of_ble_eq_true rfl) rfl ?_
  refine s_weak (lv' := [some (.ref (ad 0)), some (.int x1), some (.int 24)]) rfl ?_
  refine s_loop (pc := 3) (fun s2 : Int32 => [some (.ref (ad 0)), some (.int x1), some (.int s2)]) [] (fun self1 hself1 s2 => ?_) _ 24
  refine s_iload_n (pc := 3) (dc dl_X7_put 2 rfl) rfl rfl ?_
  refine s_jn (pj := 49) (fun a4 : Unit => [none, none, none]) (fun a4 : Unit => []) (fun a4 => ?_) (fun j3 hj3 => ?_)
  · exact s_return (pc := 49) rfl (dc dl_X7_put 26 rfl)
  · refine s_if_lt (pc := 4) (tgt := 49) (dc dl_X7_put 3 rfl) rfl ?_ ?_
    · exact s_wk (hj3 ()) rfl
    · refine s_aload_n (pc := 7) (dc dl_X7_put 4 rfl) rfl rfl ?_
      refine s_getI (pc := 8) fl_X7_9 lk_Tape_0 kk_Tape_0_0 (dc dl_X7_put 5 rfl) (fun v5 => ?_)
      refine s_sipush (pc := 11) (v := 400) (dc dl_X7_put 6 rfl) si_400 ?_
      refine s_icmp_ge (pc := 14) (tgt := 49) (dc dl_X7_put 7 rfl) rfl ?_ ?_
      · exact s_wk (hj3 ()) rfl
      · refine s_aload_n (pc := 17) (dc dl_X7_put 8 rfl) rfl rfl ?_
        refine s_getR (pc := 18) fl_X7_15 lk_Tape_0 kk_Tape_0_1 (dc dl_X7_put 9 rfl) ?_
        refine s_aload_n (pc := 21) (dc dl_X7_put 10 rfl) rfl rfl ?_
        refine s_getI (pc := 22) fl_X7_9 lk_Tape_0 kk_Tape_0_0 (dc dl_X7_put 11 rfl) (fun v6 => ?_)
        refine s_iload_n (pc := 25) (dc dl_X7_put 12 rfl) rfl rfl ?_
        refine s_iload_n (pc := 26) (dc dl_X7_put 13 rfl) rfl rfl ?_
        refine s_iushr (pc := 27) (dc dl_X7_put 14 rfl) ?_
        refine s_sipush (pc := 28) (v := 255) (dc dl_X7_put 15 rfl) si_255 ?_
        refine s_iand (pc := 31) (dc dl_X7_put 16 rfl) ?_
        refine s_iast (pc := 32) lk_Tape_1 (dc dl_X7_put 17 rfl) ?_
        refine s_aload_n (pc := 33) (dc dl_X7_put 18 rfl) rfl rfl ?_
        refine s_dup (pc := 34) (dc dl_X7_put 19 rfl) rfl ?_
        refine s_getI (pc := 35) fl_X7_9 lk_Tape_0 kk_Tape_0_0 (dc dl_X7_put 20 rfl) (fun v7 => ?_)
        refine s_iconst (pc := 38) (v := 1) (dc dl_X7_put 21 rfl) ic_1 ?_
        refine s_iadd (pc := 39) (dc dl_X7_put 22 rfl) ?_
        refine s_putI (pc := 40) fw_X7_9 lk_Tape_0 kk_Tape_0_0 (dc dl_X7_put 23 rfl) ?_
        refine s_iincL (pc := 43) (lf' := fun y8 => [some (.ref (ad 0)), some (.int x1), some (.int y8)]) (dc dl_X7_put 24 rfl) rfl rfl (Nat.le_of_ble_eq_true rfl) (fun _ => rfl) (fun y8 => ?_)
        refine s_goto (pc := 46) (tgt := 3) (dc dl_X7_put 25 rfl) rfl ?_
        exact s_wk (hself1 y8) rfl
def gX7_rewind : MM Int32 :=
  bd (sv 0 5 0) fun _ =>
  bd (sv 0 6 0) fun _ =>
  bd (sv 0 7 ((-1))) fun _ =>
  pr 0
set_option maxHeartbeats 4000000 in
theorem cn_X7_rewind (l : Launch) (G : Gl) (hG : gOk G) (ad : Nat → Nat) : Cn l G mX7_rewind 0 lay_Tape ad [.ref (ad 0)] (gX7_rewind) := by
  refine cn_of (lv := [some (.ref (ad 0))]) (by decide +kernel) rfl (Nat.le_of_ble_eq_true rfl) rfl ?_
  unfold gX7_rewind
  refine s_aload_n (pc := 0) (dc dl_X7_rewind 0 rfl) rfl rfl ?_
  refine s_iconst (pc := 1) (v := 0) (dc dl_X7_rewind 1 rfl) ic_0 ?_
  refine s_putI (pc := 2) fw_X7_28 lk_Tape_0 kk_Tape_0_5 (dc dl_X7_rewind 2 rfl) ?_
  refine s_aload_n (pc := 5) (dc dl_X7_rewind 3 rfl) rfl rfl ?_
  refine s_iconst (pc := 6) (v := 0) (dc dl_X7_rewind 4 rfl) ic_0 ?_
  refine s_putI (pc := 7) fw_X7_31 lk_Tape_0 kk_Tape_0_6 (dc dl_X7_rewind 5 rfl) ?_
  refine s_aload_n (pc := 10) (dc dl_X7_rewind 6 rfl) rfl rfl ?_
  refine s_iconst (pc := 11) (v := (-1)) (dc dl_X7_rewind 7 rfl) ic_m1 ?_
  refine s_putI (pc := 12) fw_X7_34 lk_Tape_0 kk_Tape_0_7 (dc dl_X7_rewind 8 rfl) ?_
  exact s_return (pc := 15) rfl (dc dl_X7_rewind 9 rfl)
def gX8_empty : MM Int32 :=
  bd (sv 0 0 0) fun _ =>
  pr 0
set_option maxHeartbeats 4000000 in
theorem cn_X8_empty (l : Launch) (G : Gl) (hG : gOk G) (ad : Nat → Nat) : Cn l G mX8_empty 0 lay_Told ad [.ref (ad 0)] (gX8_empty) := by
  refine cn_of (lv := [some (.ref (ad 0))]) (by decide +kernel) rfl (Nat.le_of_ble_eq_true rfl) rfl ?_
  unfold gX8_empty
  refine s_aload_n (pc := 0) (dc dl_X8_empty 0 rfl) rfl rfl ?_
  refine s_iconst (pc := 1) (v := 0) (dc dl_X8_empty 1 rfl) ic_0 ?_
  refine s_putI (pc := 2) fw_X8_9 lk_Told_0 kk_Told_0_0 (dc dl_X8_empty 2 rfl) ?_
  refine s_iconst (pc := 5) (v := 0) (dc dl_X8_empty 3 rfl) ic_0 ?_
  exact s_ireturn (pc := 6) rfl (dc dl_X8_empty 4 rfl)
def gX8_tell (x1 : Int32) : MM Int32 :=
  bd (ld 0 0) fun v1 =>
  bd (ln 1) fun v2 =>
  (if v1 < v2 then
  bd (ld 0 0) fun v3 =>
  bd (sa 1 v3 x1) fun _ =>
  bd (ld 0 0) fun v4 =>
  bd (sv 0 0 (v4 + 1)) fun _ =>
  bd (ld 0 0) fun v5 =>
  pr v5
  else
  pr ((-1)))
set_option maxHeartbeats 4000000 in
theorem cn_X8_tell (l : Launch) (G : Gl) (hG : gOk G) (ad : Nat → Nat) (x1 : Int32) : Cn l G mX8_tell 0 lay_Told ad [.ref (ad 0), .int x1] (gX8_tell x1) := by
  refine cn_of (lv := [some (.ref (ad 0)), some (.int x1)]) (by decide +kernel) rfl (Nat.le_of_ble_eq_true rfl) rfl ?_
  unfold gX8_tell
  refine s_aload_n (pc := 0) (dc dl_X8_tell 0 rfl) rfl rfl ?_
  refine s_getI (pc := 1) fl_X8_9 lk_Told_0 kk_Told_0_0 (dc dl_X8_tell 1 rfl) (fun v1 => ?_)
  refine s_aload_n (pc := 4) (dc dl_X8_tell 2 rfl) rfl rfl ?_
  refine s_getR (pc := 5) fl_X8_21 lk_Told_0 kk_Told_0_1 (dc dl_X8_tell 3 rfl) ?_
  refine s_alen (pc := 8) lk_Told_1 (dc dl_X8_tell 4 rfl) (fun v2 => ?_)
  refine s_icmp_lt (pc := 9) (tgt := 14) (dc dl_X8_tell 5 rfl) rfl ?_ ?_
  · refine s_aload_n (pc := 14) (dc dl_X8_tell 8 rfl) rfl rfl ?_
    refine s_getR (pc := 15) fl_X8_21 lk_Told_0 kk_Told_0_1 (dc dl_X8_tell 9 rfl) ?_
    refine s_aload_n (pc := 18) (dc dl_X8_tell 10 rfl) rfl rfl ?_
    refine s_getI (pc := 19) fl_X8_9 lk_Told_0 kk_Told_0_0 (dc dl_X8_tell 11 rfl) (fun v3 => ?_)
    refine s_iload_n (pc := 22) (dc dl_X8_tell 12 rfl) rfl rfl ?_
    refine s_iast (pc := 23) lk_Told_1 (dc dl_X8_tell 13 rfl) ?_
    refine s_aload_n (pc := 24) (dc dl_X8_tell 14 rfl) rfl rfl ?_
    refine s_dup (pc := 25) (dc dl_X8_tell 15 rfl) rfl ?_
    refine s_getI (pc := 26) fl_X8_9 lk_Told_0 kk_Told_0_0 (dc dl_X8_tell 16 rfl) (fun v4 => ?_)
    refine s_iconst (pc := 29) (v := 1) (dc dl_X8_tell 17 rfl) ic_1 ?_
    refine s_iadd (pc := 30) (dc dl_X8_tell 18 rfl) ?_
    refine s_putI (pc := 31) fw_X8_9 lk_Told_0 kk_Told_0_0 (dc dl_X8_tell 19 rfl) ?_
    refine s_aload_n (pc := 34) (dc dl_X8_tell 20 rfl) rfl rfl ?_
    refine s_getI (pc := 35) fl_X8_9 lk_Told_0 kk_Told_0_0 (dc dl_X8_tell 21 rfl) (fun v5 => ?_)
    exact s_ireturn (pc := 38) rfl (dc dl_X8_tell 22 rfl)
  · refine s_iconst (pc := 12) (v := (-1)) (dc dl_X8_tell 6 rfl) ic_m1 ?_
    exact s_ireturn (pc := 13) rfl (dc dl_X8_tell 7 rfl)
