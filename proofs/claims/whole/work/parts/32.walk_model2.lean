def gX11_tellsOf (x1 : Int32) : MM Int32 :=
  bd (gX11_inCloth x1) fun r1 =>
  bd (gX11_asks x1 r1) fun r2 =>
  bd (la 20 4) fun v3 =>
  bd (la 20 0) fun v4 =>
  bd (gX11_lawTells 2 ((300 * v3) + (50 * v4)) 0 1000) fun r5 =>
  pr r5
set_option maxHeartbeats 4000000 in
theorem cn_X11_tellsOf (l : Launch) (G : Gl) (hG : gOk G) (ad : Nat → Nat) (x1 : Int32) : Cn l G mX11_tellsOf 4 lay_Mo ad [.ref (ad 0), .int x1] (gX11_tellsOf x1) := by
  refine cn_of (lv := [some (.ref (ad 0)), some (.int x1)]) (by decide +kernel) rfl (Nat.le_of_ble_eq_true rfl) rfl ?_
  unfold gX11_tellsOf
  refine s_aload_n (pc := 0) (dc dl_X11_tellsOf 0 rfl) rfl rfl ?_
  refine s_iload_n (pc := 1) (dc dl_X11_tellsOf 1 rfl) rfl rfl ?_
  refine s_aload_n (pc := 2) (dc dl_X11_tellsOf 2 rfl) rfl rfl ?_
  refine s_iload_n (pc := 3) (dc dl_X11_tellsOf 3 rfl) rfl rfl ?_
  refine s_call (pc := 4) (rest := [.int x1, .ref (ad 0)]) hG (calls_V (mi := mX11_tellsOf) (o := 0) (As := [.int x1]) (rest := [.int x1, .ref (ad 0)]) hG (dc dl_X11_tellsOf 4 rfl) mo_X11_inCloth mv_X11_inCloth ml_X11_167 ⟨Nat.le_of_ble_eq_true rfl, Nat.le_of_ble_eq_true rfl⟩ rfl rfl (Nat.le_of_ble_eq_true rfl) lk_Mo_0 rfl) (cn_X11_inCloth l G hG ad x1) rfl (fun r1 => ?_)
  refine s_callv (pc := 7) (rest := []) hG (calls_V (mi := mX11_tellsOf) (o := 0) (As := [.int x1, .int r1]) (rest := []) hG (dc dl_X11_tellsOf 5 rfl) mo_X11_asks mv_X11_asks ml_X11_345 ⟨Nat.le_of_ble_eq_true rfl, Nat.le_of_ble_eq_true rfl⟩ rfl rfl (Nat.le_of_ble_eq_true rfl) lk_Mo_0 rfl) (cn_X11_asks l G hG ad x1 r1) rfl (fun r2 => ?_)
  refine s_aload_n (pc := 10) (dc dl_X11_tellsOf 6 rfl) rfl rfl ?_
  refine s_iconst (pc := 11) (v := 2) (dc dl_X11_tellsOf 7 rfl) ic_2 ?_
  refine s_sipush (pc := 12) (v := 300) (dc dl_X11_tellsOf 8 rfl) si_300 ?_
  refine s_aload_n (pc := 15) (dc dl_X11_tellsOf 9 rfl) rfl rfl ?_
  refine s_getR (pc := 16) fl_X11_71 lk_Mo_0 kk_Mo_0_41 (dc dl_X11_tellsOf 10 rfl) ?_
  refine s_iconst (pc := 19) (v := 4) (dc dl_X11_tellsOf 11 rfl) ic_4 ?_
  refine s_iald (pc := 20) lk_Mo_20 (dc dl_X11_tellsOf 12 rfl) (fun v3 => ?_)
  refine s_imul (pc := 21) (dc dl_X11_tellsOf 13 rfl) ?_
  refine s_bipush (pc := 22) (v := 50) (dc dl_X11_tellsOf 14 rfl) bi_50 ?_
  refine s_aload_n (pc := 24) (dc dl_X11_tellsOf 15 rfl) rfl rfl ?_
  refine s_getR (pc := 25) fl_X11_71 lk_Mo_0 kk_Mo_0_41 (dc dl_X11_tellsOf 16 rfl) ?_
  refine s_iconst (pc := 28) (v := 0) (dc dl_X11_tellsOf 17 rfl) ic_0 ?_
  refine s_iald (pc := 29) lk_Mo_20 (dc dl_X11_tellsOf 18 rfl) (fun v4 => ?_)
  refine s_imul (pc := 30) (dc dl_X11_tellsOf 19 rfl) ?_
  refine s_iadd (pc := 31) (dc dl_X11_tellsOf 20 rfl) ?_
  refine s_iconst (pc := 32) (v := 0) (dc dl_X11_tellsOf 21 rfl) ic_0 ?_
  refine s_sipush (pc := 33) (v := 1000) (dc dl_X11_tellsOf 22 rfl) si_1000 ?_
  refine s_call (pc := 36) (rest := []) hG (calls_V (mi := mX11_tellsOf) (o := 0) (As := [.int 2, .int ((300 * v3) + (50 * v4)), .int 0, .int 1000]) (rest := []) hG (dc dl_X11_tellsOf 23 rfl) mo_X11_lawTells mv_X11_lawTells ml_X11_348 ⟨Nat.le_of_ble_eq_true rfl, Nat.le_of_ble_eq_true rfl⟩ rfl rfl (Nat.le_of_ble_eq_true rfl) lk_Mo_0 rfl) (cn_X11_lawTells l G hG ad 2 ((300 * v3) + (50 * v4)) 0 1000) rfl (fun r5 => ?_)
  exact s_ireturn (pc := 39) rfl (dc dl_X11_tellsOf 24 rfl)
def gX11_notes (x1 x2 x3 : Int32) : MM Int32 :=
  bd (ld 0 5) fun v1 =>
  jn (fun (a3 : Unit) =>
  pr 0) (fun j2 =>
  (if v1 = 0 then
  bd (la 1 2) fun v4 =>
  (if v4 = 150 then
  j2 ()
  else
  bd (la 1 2) fun v5 =>
  lt (4 * v5) fun y6 =>
  bd (la 1 0) fun v7 =>
  bd (sa 6 y6 v7) fun _ =>
  bd (sa 6 (y6 + 1) x1) fun _ =>
  bd (sa 6 (y6 + 2) x2) fun _ =>
  bd (sa 6 (y6 + 3) x3) fun _ =>
  bd (la 1 2) fun v8 =>
  bd (sa 1 2 (v8 + 1)) fun _ =>
  pr 0)
  else
  j2 ()))
set_option maxHeartbeats 4000000 in
theorem cn_X11_notes (l : Launch) (G : Gl) (hG : gOk G) (ad : Nat → Nat) (x1 x2 x3 : Int32) : Cn l G mX11_notes 0 lay_Mo ad [.ref (ad 0), .int x1, .int x2, .int x3] (gX11_notes x1 x2 x3) := by
  refine cn_of (lv := [some (.ref (ad 0)), some (.int x1), some (.int x2), some (.int x3), none]) (by decide +kernel) rfl (Nat.le_of_ble_eq_true rfl) rfl ?_
  unfold gX11_notes
  refine s_aload_n (pc := 0) (dc dl_X11_notes 0 rfl) rfl rfl ?_
  refine s_getI (pc := 1) fl_X11_131 lk_Mo_0 kk_Mo_0_5 (dc dl_X11_notes 1 rfl) (fun v1 => ?_)
  refine s_jn (pj := 19) (fun a3 : Unit => [none, none, none, none, none]) (fun a3 : Unit => []) (fun a3 => ?_) (fun j2 hj2 => ?_)
  · exact s_return (pc := 19) rfl (dc dl_X11_notes 9 rfl)
  · refine s_if_ne (pc := 4) (tgt := 19) (dc dl_X11_notes 2 rfl) rfl ?_ ?_
    · refine s_aload_n (pc := 7) (dc dl_X11_notes 3 rfl) rfl rfl ?_
      refine s_getR (pc := 8) fl_X11_7 lk_Mo_0 kk_Mo_0_1 (dc dl_X11_notes 4 rfl) ?_
      refine s_iconst (pc := 11) (v := 2) (dc dl_X11_notes 5 rfl) ic_2 ?_
      refine s_iald (pc := 12) lk_Mo_1 (dc dl_X11_notes 6 rfl) (fun v4 => ?_)
      refine s_sipush (pc := 13) (v := 150) (dc dl_X11_notes 7 rfl) si_150 ?_
      refine s_icmp_ne (pc := 16) (tgt := 20) (dc dl_X11_notes 8 rfl) rfl ?_ ?_
      · exact s_wk (hj2 ()) rfl
      · refine s_iconst (pc := 20) (v := 4) (dc dl_X11_notes 10 rfl) ic_4 ?_
        refine s_aload_n (pc := 21) (dc dl_X11_notes 11 rfl) rfl rfl ?_
        refine s_getR (pc := 22) fl_X11_7 lk_Mo_0 kk_Mo_0_1 (dc dl_X11_notes 12 rfl) ?_
        refine s_iconst (pc := 25) (v := 2) (dc dl_X11_notes 13 rfl) ic_2 ?_
        refine s_iald (pc := 26) lk_Mo_1 (dc dl_X11_notes 14 rfl) (fun v5 => ?_)
        refine s_imul (pc := 27) (dc dl_X11_notes 15 rfl) ?_
        refine s_istoreL (pc := 28) (lf' := fun y6 => [some (.ref (ad 0)), some (.int x1), some (.int x2), some (.int x3), some (.int y6)]) (dc dl_X11_notes 16 rfl) (Nat.le_of_ble_eq_true rfl) (fun _ => rfl) (fun y6 => ?_)
        refine s_aload_n (pc := 30) (dc dl_X11_notes 17 rfl) rfl rfl ?_
        refine s_getR (pc := 31) fl_X11_25 lk_Mo_0 kk_Mo_0_11 (dc dl_X11_notes 18 rfl) ?_
        refine s_iload (pc := 34) (dc dl_X11_notes 19 rfl) rfl ?_
        refine s_aload_n (pc := 36) (dc dl_X11_notes 20 rfl) rfl rfl ?_
        refine s_getR (pc := 37) fl_X11_7 lk_Mo_0 kk_Mo_0_1 (dc dl_X11_notes 21 rfl) ?_
        refine s_iconst (pc := 40) (v := 0) (dc dl_X11_notes 22 rfl) ic_0 ?_
        refine s_iald (pc := 41) lk_Mo_1 (dc dl_X11_notes 23 rfl) (fun v7 => ?_)
        refine s_iast (pc := 42) lk_Mo_6 (dc dl_X11_notes 24 rfl) ?_
        refine s_aload_n (pc := 43) (dc dl_X11_notes 25 rfl) rfl rfl ?_
        refine s_getR (pc := 44) fl_X11_25 lk_Mo_0 kk_Mo_0_11 (dc dl_X11_notes 26 rfl) ?_
        refine s_iload (pc := 47) (dc dl_X11_notes 27 rfl) rfl ?_
        refine s_iconst (pc := 49) (v := 1) (dc dl_X11_notes 28 rfl) ic_1 ?_
        refine s_iadd (pc := 50) (dc dl_X11_notes 29 rfl) ?_
        refine s_iload_n (pc := 51) (dc dl_X11_notes 30 rfl) rfl rfl ?_
        refine s_iast (pc := 52) lk_Mo_6 (dc dl_X11_notes 31 rfl) ?_
        refine s_aload_n (pc := 53) (dc dl_X11_notes 32 rfl) rfl rfl ?_
        refine s_getR (pc := 54) fl_X11_25 lk_Mo_0 kk_Mo_0_11 (dc dl_X11_notes 33 rfl) ?_
        refine s_iload (pc := 57) (dc dl_X11_notes 34 rfl) rfl ?_
        refine s_iconst (pc := 59) (v := 2) (dc dl_X11_notes 35 rfl) ic_2 ?_
        refine s_iadd (pc := 60) (dc dl_X11_notes 36 rfl) ?_
        refine s_iload_n (pc := 61) (dc dl_X11_notes 37 rfl) rfl rfl ?_
        refine s_iast (pc := 62) lk_Mo_6 (dc dl_X11_notes 38 rfl) ?_
        refine s_aload_n (pc := 63) (dc dl_X11_notes 39 rfl) rfl rfl ?_
        refine s_getR (pc := 64) fl_X11_25 lk_Mo_0 kk_Mo_0_11 (dc dl_X11_notes 40 rfl) ?_
        refine s_iload (pc := 67) (dc dl_X11_notes 41 rfl) rfl ?_
        refine s_iconst (pc := 69) (v := 3) (dc dl_X11_notes 42 rfl) ic_3 ?_
        refine s_iadd (pc := 70) (dc dl_X11_notes 43 rfl) ?_
        refine s_iload_n (pc := 71) (dc dl_X11_notes 44 rfl) rfl rfl ?_
        refine s_iast (pc := 72) lk_Mo_6 (dc dl_X11_notes 45 rfl) ?_
        refine s_aload_n (pc := 73) (dc dl_X11_notes 46 rfl) rfl rfl ?_
        refine s_getR (pc := 74) fl_X11_7 lk_Mo_0 kk_Mo_0_1 (dc dl_X11_notes 47 rfl) ?_
        refine s_iconst (pc := 77) (v := 2) (dc dl_X11_notes 48 rfl) ic_2 ?_
        refine s_aload_n (pc := 78) (dc dl_X11_notes 49 rfl) rfl rfl ?_
        refine s_getR (pc := 79) fl_X11_7 lk_Mo_0 kk_Mo_0_1 (dc dl_X11_notes 50 rfl) ?_
        refine s_iconst (pc := 82) (v := 2) (dc dl_X11_notes 51 rfl) ic_2 ?_
        refine s_iald (pc := 83) lk_Mo_1 (dc dl_X11_notes 52 rfl) (fun v8 => ?_)
        refine s_iconst (pc := 84) (v := 1) (dc dl_X11_notes 53 rfl) ic_1 ?_
        refine s_iadd (pc := 85) (dc dl_X11_notes 54 rfl) ?_
        refine s_iast (pc := 86) lk_Mo_1 (dc dl_X11_notes 55 rfl) ?_
        exact s_return (pc := 87) rfl (dc dl_X11_notes 56 rfl)
    · exact s_wk (hj2 ()) rfl
def gX11_canTie (x1 x2 : Int32) : MM Int32 :=
  bd (gX11_isOpen x1) fun r1 =>
  jn (fun (a3 : Int32) =>
  rz a3) (fun j2 =>
  jn (fun (a5 : Unit) =>
  j2 0) (fun j4 =>
  (if r1 = 0 then
  j4 ()
  else
  bd (gX11_inCloth x1) fun r6 =>
  (if r6 = ((-1)) then
  bd (gX11_knotsOf x2) fun r7 =>
  (if 4 ≤ r7 then
  j4 ()
  else
  j2 1)
  else
  j4 ()))))
set_option maxHeartbeats 4000000 in
theorem cn_X11_canTie (l : Launch) (G : Gl) (hG : gOk G) (ad : Nat → Nat) (x1 x2 : Int32) : Cn l G mX11_canTie 2 lay_Mo ad [.ref (ad 0), .int x1, .int x2] (gX11_canTie x1 x2) := by
  refine cn_of (lv := [some (.ref (ad 0)), some (.int x1), some (.int x2)]) (by decide +kernel) rfl (Nat.le_of_ble_eq_true rfl) rfl ?_
  unfold gX11_canTie
  refine s_aload_n (pc := 0) (dc dl_X11_canTie 0 rfl) rfl rfl ?_
  refine s_iload_n (pc := 1) (dc dl_X11_canTie 1 rfl) rfl rfl ?_
  refine s_call (pc := 2) (rest := []) hG (calls_V (mi := mX11_canTie) (o := 0) (As := [.int x1]) (rest := []) hG (dc dl_X11_canTie 2 rfl) mo_X11_isOpen mv_X11_isOpen ml_X11_164 ⟨Nat.le_of_ble_eq_true rfl, Nat.le_of_ble_eq_true rfl⟩ rfl rfl (Nat.le_of_ble_eq_true rfl) lk_Mo_0 rfl) (cn_X11_isOpen l G hG ad x1) rfl (fun r1 => ?_)
  refine s_jn (pj := 31) (fun a3 : Int32 => [none, none, none]) (fun a3 : Int32 => [.int a3]) (fun a3 => ?_) (fun j2 hj2 => ?_)
  · exact s_zreturn (pc := 31) rfl (dc dl_X11_canTie 17 rfl)
  · refine s_jn (pj := 30) (fun a5 : Unit => [none, none, none]) (fun a5 : Unit => []) (fun a5 => ?_) (fun j4 hj4 => ?_)
    · refine s_iconst (pc := 30) (v := 0) (dc dl_X11_canTie 16 rfl) ic_0 ?_
      exact s_wk (hj2 0) rfl
    · refine s_if_eq (pc := 5) (tgt := 30) (dc dl_X11_canTie 3 rfl) rfl ?_ ?_
      · exact s_wk (hj4 ()) rfl
      · refine s_aload_n (pc := 8) (dc dl_X11_canTie 4 rfl) rfl rfl ?_
        refine s_iload_n (pc := 9) (dc dl_X11_canTie 5 rfl) rfl rfl ?_
        refine s_call (pc := 10) (rest := []) hG (calls_V (mi := mX11_canTie) (o := 0) (As := [.int x1]) (rest := []) hG (dc dl_X11_canTie 6 rfl) mo_X11_inCloth mv_X11_inCloth ml_X11_167 ⟨Nat.le_of_ble_eq_true rfl, Nat.le_of_ble_eq_true rfl⟩ rfl rfl (Nat.le_of_ble_eq_true rfl) lk_Mo_0 rfl) (cn_X11_inCloth l G hG ad x1) rfl (fun r6 => ?_)
        refine s_iconst (pc := 13) (v := (-1)) (dc dl_X11_canTie 7 rfl) ic_m1 ?_
        refine s_icmp_ne (pc := 14) (tgt := 30) (dc dl_X11_canTie 8 rfl) rfl ?_ ?_
        · refine s_aload_n (pc := 17) (dc dl_X11_canTie 9 rfl) rfl rfl ?_
          refine s_iload_n (pc := 18) (dc dl_X11_canTie 10 rfl) rfl rfl ?_
          refine s_call (pc := 19) (rest := []) hG (calls_V (mi := mX11_canTie) (o := 0) (As := [.int x2]) (rest := []) hG (dc dl_X11_canTie 11 rfl) mo_X11_knotsOf mv_X11_knotsOf ml_X11_329 ⟨Nat.le_of_ble_eq_true rfl, Nat.le_of_ble_eq_true rfl⟩ rfl rfl (Nat.le_of_ble_eq_true rfl) lk_Mo_0 rfl) (cn_X11_knotsOf l G hG ad x2) rfl (fun r7 => ?_)
          refine s_iconst (pc := 22) (v := 4) (dc dl_X11_canTie 12 rfl) ic_4 ?_
          refine s_icmp_ge (pc := 23) (tgt := 30) (dc dl_X11_canTie 13 rfl) rfl ?_ ?_
          · exact s_wk (hj4 ()) rfl
          · refine s_iconst (pc := 26) (v := 1) (dc dl_X11_canTie 14 rfl) ic_1 ?_
            refine s_goto (pc := 27) (tgt := 31) (dc dl_X11_canTie 15 rfl) rfl ?_
            exact s_wk (hj2 1) rfl
        · exact s_wk (hj4 ()) rfl
def gX11_isTied (x1 x2 : Int32) : MM Int32 :=
  bd (gX11_tiesOf x1 x2) fun r1 =>
  bd (gX11_knotsOf x2) fun r2 =>
  bd (sa 1 ((67 + (4 * x2)) + r2) (x1 + 1)) fun _ =>
  bd (sa 1 (123 + x1) (x2 + 1)) fun _ =>
  bd (sa 1 (143 + x1) r1) fun _ =>
  bd (gX11_notes 0 x1 r1) fun r3 =>
  pr 0
set_option maxHeartbeats 4000000 in
theorem cn_X11_isTied (l : Launch) (G : Gl) (hG : gOk G) (ad : Nat → Nat) (x1 x2 : Int32) : Cn l G mX11_isTied 5 lay_Mo ad [.ref (ad 0), .int x1, .int x2] (gX11_isTied x1 x2) := by
  refine cn_of (lv := [some (.ref (ad 0)), some (.int x1), some (.int x2), none]) (by decide +kernel) rfl (Nat.le_of_ble_eq_true rfl) rfl ?_
  unfold gX11_isTied
  refine s_aload_n (pc := 0) (dc dl_X11_isTied 0 rfl) rfl rfl ?_
  refine s_iload_n (pc := 1) (dc dl_X11_isTied 1 rfl) rfl rfl ?_
  refine s_iload_n (pc := 2) (dc dl_X11_isTied 2 rfl) rfl rfl ?_
  refine s_call (pc := 3) (rest := []) hG (calls_V (mi := mX11_isTied) (o := 0) (As := [.int x1, .int x2]) (rest := []) hG (dc dl_X11_isTied 3 rfl) mo_X11_tiesOf mv_X11_tiesOf ml_X11_352 ⟨Nat.le_of_ble_eq_true rfl, Nat.le_of_ble_eq_true rfl⟩ rfl rfl (Nat.le_of_ble_eq_true rfl) lk_Mo_0 rfl) (cn_X11_tiesOf l G hG ad x1 x2) rfl (fun r1 => ?_)
  refine s_istore_n (pc := 6) (lv' := [some (.ref (ad 0)), some (.int x1), some (.int x2), some (.int r1)]) (dc dl_X11_isTied 4 rfl) rfl (Nat.le_of_ble_eq_true rfl) rfl ?_
  refine s_aload_n (pc := 7) (dc dl_X11_isTied 5 rfl) rfl rfl ?_
  refine s_getR (pc := 8) fl_X11_7 lk_Mo_0 kk_Mo_0_1 (dc dl_X11_isTied 6 rfl) ?_
  refine s_bipush (pc := 11) (v := 67) (dc dl_X11_isTied 7 rfl) bi_67 ?_
  refine s_iconst (pc := 13) (v := 4) (dc dl_X11_isTied 8 rfl) ic_4 ?_
  refine s_iload_n (pc := 14) (dc dl_X11_isTied 9 rfl) rfl rfl ?_
  refine s_imul (pc := 15) (dc dl_X11_isTied 10 rfl) ?_
  refine s_iadd (pc := 16) (dc dl_X11_isTied 11 rfl) ?_
  refine s_aload_n (pc := 17) (dc dl_X11_isTied 12 rfl) rfl rfl ?_
  refine s_iload_n (pc := 18) (dc dl_X11_isTied 13 rfl) rfl rfl ?_
  refine s_call (pc := 19) (rest := [.int (67 + (4 * x2)), .ref (ad 1)]) hG (calls_V (mi := mX11_isTied) (o := 0) (As := [.int x2]) (rest := [.int (67 + (4 * x2)), .ref (ad 1)]) hG (dc dl_X11_isTied 14 rfl) mo_X11_knotsOf mv_X11_knotsOf ml_X11_329 ⟨Nat.le_of_ble_eq_true rfl, Nat.le_of_ble_eq_true rfl⟩ rfl rfl (Nat.le_of_ble_eq_true rfl) lk_Mo_0 rfl) (cn_X11_knotsOf l G hG ad x2) rfl (fun r2 => ?_)
  refine s_iadd (pc := 22) (dc dl_X11_isTied 15 rfl) ?_
  refine s_iload_n (pc := 23) (dc dl_X11_isTied 16 rfl) rfl rfl ?_
  refine s_iconst (pc := 24) (v := 1) (dc dl_X11_isTied 17 rfl) ic_1 ?_
  refine s_iadd (pc := 25) (dc dl_X11_isTied 18 rfl) ?_
  refine s_iast (pc := 26) lk_Mo_1 (dc dl_X11_isTied 19 rfl) ?_
  refine s_aload_n (pc := 27) (dc dl_X11_isTied 20 rfl) rfl rfl ?_
  refine s_getR (pc := 28) fl_X11_7 lk_Mo_0 kk_Mo_0_1 (dc dl_X11_isTied 21 rfl) ?_
  refine s_bipush (pc := 31) (v := 123) (dc dl_X11_isTied 22 rfl) bi_123 ?_
  refine s_iload_n (pc := 33) (dc dl_X11_isTied 23 rfl) rfl rfl ?_
  refine s_iadd (pc := 34) (dc dl_X11_isTied 24 rfl) ?_
  refine s_iload_n (pc := 35) (dc dl_X11_isTied 25 rfl) rfl rfl ?_
  refine s_iconst (pc := 36) (v := 1) (dc dl_X11_isTied 26 rfl) ic_1 ?_
  refine s_iadd (pc := 37) (dc dl_X11_isTied 27 rfl) ?_
  refine s_iast (pc := 38) lk_Mo_1 (dc dl_X11_isTied 28 rfl) ?_
  refine s_aload_n (pc := 39) (dc dl_X11_isTied 29 rfl) rfl rfl ?_
  refine s_getR (pc := 40) fl_X11_7 lk_Mo_0 kk_Mo_0_1 (dc dl_X11_isTied 30 rfl) ?_
  refine s_sipush (pc := 43) (v := 143) (dc dl_X11_isTied 31 rfl) si_143 ?_
  refine s_iload_n (pc := 46) (dc dl_X11_isTied 32 rfl) rfl rfl ?_
  refine s_iadd (pc := 47) (dc dl_X11_isTied 33 rfl) ?_
  refine s_iload_n (pc := 48) (dc dl_X11_isTied 34 rfl) rfl rfl ?_
  refine s_iast (pc := 49) lk_Mo_1 (dc dl_X11_isTied 35 rfl) ?_
  refine s_aload_n (pc := 50) (dc dl_X11_isTied 36 rfl) rfl rfl ?_
  refine s_iconst (pc := 51) (v := 0) (dc dl_X11_isTied 37 rfl) ic_0 ?_
  refine s_iload_n (pc := 52) (dc dl_X11_isTied 38 rfl) rfl rfl ?_
  refine s_iload_n (pc := 53) (dc dl_X11_isTied 39 rfl) rfl rfl ?_
  refine s_callv (pc := 54) (rest := []) hG (calls_V (mi := mX11_isTied) (o := 0) (As := [.int 0, .int x1, .int r1]) (rest := []) hG (dc dl_X11_isTied 40 rfl) mo_X11_notes mv_X11_notes ml_X11_355 ⟨Nat.le_of_ble_eq_true rfl, Nat.le_of_ble_eq_true rfl⟩ rfl rfl (Nat.le_of_ble_eq_true rfl) lk_Mo_0 rfl) (cn_X11_notes l G hG ad 0 x1 r1) rfl (fun r3 => ?_)
  exact s_return (pc := 57) rfl (dc dl_X11_isTied 41 rfl)
def gX11_comesOut (x1 : Int32) : MM Int32 :=
  bd (gX11_inCloth x1) fun r1 =>
  (if r1 = ((-1)) then
  pr 0
  else
  loopC 100000 (fun (self2 : Int32 → MM Int32) (s3 : Int32) =>
  bd (gX11_knotOf r1 s3) fun r4 =>
  (if r4 = x1 then
  loopC 100000 (fun (self5 : Int32 → MM Int32) (s6 : Int32) =>
  (if 4 ≤ s6 then
  bd (sa 1 (123 + x1) 0) fun _ =>
  bd (sa 1 (143 + x1) 0) fun _ =>
  pr 0
  else
  jn (fun (a8 : Int32) =>
  bd (sa 1 ((67 + (4 * r1)) + s6) a8) fun _ =>
  lt (s6 + 1) fun y9 =>
  self5 y9) (fun j7 =>
  (if s6 = 3 then
  j7 0
  else
  bd (la 1 (((67 + (4 * r1)) + s6) + 1)) fun v10 =>
  j7 v10)))) s3
  else
  lt (s3 + 1) fun y11 =>
  self2 y11)) 0)
set_option maxHeartbeats 4000000 in
theorem cn_X11_comesOut (l : Launch) (G : Gl) (hG : gOk G) (ad : Nat → Nat) (x1 : Int32) : Cn l G mX11_comesOut 1 lay_Mo ad [.ref (ad 0), .int x1] (gX11_comesOut x1) := by
  refine cn_of (lv := [some (.ref (ad 0)), some (.int x1), none, none, none]) (by decide +kernel) rfl (Nat.le_of_ble_eq_true rfl) rfl ?_
  unfold gX11_comesOut
  refine s_aload_n (pc := 0) (dc dl_X11_comesOut 0 rfl) rfl rfl ?_
  refine s_iload_n (pc := 1) (dc dl_X11_comesOut 1 rfl) rfl rfl ?_
  refine s_call (pc := 2) (rest := []) hG (calls_V (mi := mX11_comesOut) (o := 0) (As := [.int x1]) (rest := []) hG (dc dl_X11_comesOut 2 rfl) mo_X11_inCloth mv_X11_inCloth ml_X11_167 ⟨Nat.le_of_ble_eq_true rfl, Nat.le_of_ble_eq_true rfl⟩ rfl rfl (Nat.le_of_ble_eq_true rfl) lk_Mo_0 rfl) (cn_X11_inCloth l G hG ad x1) rfl (fun r1 => ?_)
  refine s_istore_n (pc := 5) (lv' := [some (.ref (ad 0)), some (.int x1), some (.int r1), none, none]) (dc dl_X11_comesOut 3 rfl) rfl (Nat.le_of_ble_eq_true rfl) rfl ?_
  refine s_iload_n (pc := 6) (dc dl_X11_comesOut 4 rfl) rfl rfl ?_
  refine s_iconst (pc := 7) (v := (-1)) (dc dl_X11_comesOut 5 rfl) ic_m1 ?_
  refine s_icmp_ne (pc := 8) (tgt := 12) (dc dl_X11_comesOut 6 rfl) rfl ?_ ?_
  · exact s_return (pc := 11) rfl (dc dl_X11_comesOut 7 rfl)
  · refine s_iconst (pc := 12) (v := 0) (dc dl_X11_comesOut 8 rfl) ic_0 ?_
    refine s_istore_n (pc := 13) (lv' := [some (.ref (ad 0)), some (.int x1), some (.int r1), some (.int 0), none]) (dc dl_X11_comesOut 9 rfl) rfl (Nat.le_of_ble_eq_true rfl) rfl ?_
    refine s_weak (lv' := [some (.ref (ad 0)), some (.int x1), some (.int r1), some (.int 0), none]) rfl ?_
    refine s_loop (pc := 14) (fun s3 : Int32 => [some (.ref (ad 0)), some (.int x1), some (.int r1), some (.int s3), none]) [] (fun self2 hself2 s3 => ?_) _ 0
    refine s_aload_n (pc := 14) (dc dl_X11_comesOut 10 rfl) rfl rfl ?_
    refine s_iload_n (pc := 15) (dc dl_X11_comesOut 11 rfl) rfl rfl ?_
    refine s_iload_n (pc := 16) (dc dl_X11_comesOut 12 rfl) rfl rfl ?_
    refine s_call (pc := 17) (rest := []) hG (calls_V (mi := mX11_comesOut) (o := 0) (As := [.int r1, .int s3]) (rest := []) hG (dc dl_X11_comesOut 13 rfl) mo_X11_knotOf mv_X11_knotOf ml_X11_146 ⟨Nat.le_of_ble_eq_true rfl, Nat.le_of_ble_eq_true rfl⟩ rfl rfl (Nat.le_of_ble_eq_true rfl) lk_Mo_0 rfl) (cn_X11_knotOf l G hG ad r1 s3) rfl (fun r4 => ?_)
    refine s_iload_n (pc := 20) (dc dl_X11_comesOut 14 rfl) rfl rfl ?_
    refine s_icmp_eq (pc := 21) (tgt := 31) (dc dl_X11_comesOut 15 rfl) rfl ?_ ?_
    · refine s_iload_n (pc := 31) (dc dl_X11_comesOut 21 rfl) rfl rfl ?_
      refine s_istore (pc := 32) (lv' := [some (.ref (ad 0)), some (.int x1), some (.int r1), some (.int s3), some (.int s3)]) (dc dl_X11_comesOut 22 rfl) (Nat.le_of_ble_eq_true rfl) rfl ?_
      refine s_weak (lv' := [some (.ref (ad 0)), some (.int x1), some (.int r1), none, some (.int s3)]) rfl ?_
      refine s_loop (pc := 34) (fun s6 : Int32 => [some (.ref (ad 0)), some (.int x1), some (.int r1), none, some (.int s6)]) [] (fun self5 hself5 s6 => ?_) _ s3
      refine s_iload (pc := 34) (dc dl_X11_comesOut 23 rfl) rfl ?_
      refine s_iconst (pc := 36) (v := 4) (dc dl_X11_comesOut 24 rfl) ic_4 ?_
      refine s_icmp_ge (pc := 37) (tgt := 86) (dc dl_X11_comesOut 25 rfl) rfl ?_ ?_
      · refine s_aload_n (pc := 86) (dc dl_X11_comesOut 55 rfl) rfl rfl ?_
        refine s_getR (pc := 87) fl_X11_7 lk_Mo_0 kk_Mo_0_1 (dc dl_X11_comesOut 56 rfl) ?_
        refine s_bipush (pc := 90) (v := 123) (dc dl_X11_comesOut 57 rfl) bi_123 ?_
        refine s_iload_n (pc := 92) (dc dl_X11_comesOut 58 rfl) rfl rfl ?_
        refine s_iadd (pc := 93) (dc dl_X11_comesOut 59 rfl) ?_
        refine s_iconst (pc := 94) (v := 0) (dc dl_X11_comesOut 60 rfl) ic_0 ?_
        refine s_iast (pc := 95) lk_Mo_1 (dc dl_X11_comesOut 61 rfl) ?_
        refine s_aload_n (pc := 96) (dc dl_X11_comesOut 62 rfl) rfl rfl ?_
        refine s_getR (pc := 97) fl_X11_7 lk_Mo_0 kk_Mo_0_1 (dc dl_X11_comesOut 63 rfl) ?_
        refine s_sipush (pc := 100) (v := 143) (dc dl_X11_comesOut 64 rfl) si_143 ?_
        refine s_iload_n (pc := 103) (dc dl_X11_comesOut 65 rfl) rfl rfl ?_
        refine s_iadd (pc := 104) (dc dl_X11_comesOut 66 rfl) ?_
        refine s_iconst (pc := 105) (v := 0) (dc dl_X11_comesOut 67 rfl) ic_0 ?_
        refine s_iast (pc := 106) lk_Mo_1 (dc dl_X11_comesOut 68 rfl) ?_
        exact s_return (pc := 107) rfl (dc dl_X11_comesOut 69 rfl)
      · refine s_aload_n (pc := 40) (dc dl_X11_comesOut 26 rfl) rfl rfl ?_
        refine s_getR (pc := 41) fl_X11_7 lk_Mo_0 kk_Mo_0_1 (dc dl_X11_comesOut 27 rfl) ?_
        refine s_bipush (pc := 44) (v := 67) (dc dl_X11_comesOut 28 rfl) bi_67 ?_
        refine s_iconst (pc := 46) (v := 4) (dc dl_X11_comesOut 29 rfl) ic_4 ?_
        refine s_iload_n (pc := 47) (dc dl_X11_comesOut 30 rfl) rfl rfl ?_
        refine s_imul (pc := 48) (dc dl_X11_comesOut 31 rfl) ?_
        refine s_iadd (pc := 49) (dc dl_X11_comesOut 32 rfl) ?_
        refine s_iload (pc := 50) (dc dl_X11_comesOut 33 rfl) rfl ?_
        refine s_iadd (pc := 52) (dc dl_X11_comesOut 34 rfl) ?_
        refine s_iload (pc := 53) (dc dl_X11_comesOut 35 rfl) rfl ?_
        refine s_iconst (pc := 55) (v := 3) (dc dl_X11_comesOut 36 rfl) ic_3 ?_
        refine s_jn (pj := 79) (fun a8 : Int32 => [some (.ref (ad 0)), some (.int x1), some (.int r1), none, some (.int s6)]) (fun a8 : Int32 => [.int a8, .int ((67 + (4 * r1)) + s6), .ref (ad 1)]) (fun a8 => ?_) (fun j7 hj7 => ?_)
        · refine s_iast (pc := 79) lk_Mo_1 (dc dl_X11_comesOut 52 rfl) ?_
          refine s_iincL (pc := 80) (lf' := fun y9 => [some (.ref (ad 0)), some (.int x1), some (.int r1), none, some (.int y9)]) (dc dl_X11_comesOut 53 rfl) rfl rfl (Nat.le_of_ble_eq_true rfl) (fun _ => rfl) (fun y9 => ?_)
          refine s_goto (pc := 83) (tgt := 34) (dc dl_X11_comesOut 54 rfl) rfl ?_
          exact s_wk (hself5 y9) rfl
        · refine s_icmp_ne (pc := 56) (tgt := 63) (dc dl_X11_comesOut 37 rfl) rfl ?_ ?_
          · refine s_iconst (pc := 59) (v := 0) (dc dl_X11_comesOut 38 rfl) ic_0 ?_
            refine s_goto (pc := 60) (tgt := 79) (dc dl_X11_comesOut 39 rfl) rfl ?_
            exact s_wk (hj7 0) rfl
          · refine s_aload_n (pc := 63) (dc dl_X11_comesOut 40 rfl) rfl rfl ?_
            refine s_getR (pc := 64) fl_X11_7 lk_Mo_0 kk_Mo_0_1 (dc dl_X11_comesOut 41 rfl) ?_
            refine s_bipush (pc := 67) (v := 67) (dc dl_X11_comesOut 42 rfl) bi_67 ?_
            refine s_iconst (pc := 69) (v := 4) (dc dl_X11_comesOut 43 rfl) ic_4 ?_
            refine s_iload_n (pc := 70) (dc dl_X11_comesOut 44 rfl) rfl rfl ?_
            refine s_imul (pc := 71) (dc dl_X11_comesOut 45 rfl) ?_
            refine s_iadd (pc := 72) (dc dl_X11_comesOut 46 rfl) ?_
            refine s_iload (pc := 73) (dc dl_X11_comesOut 47 rfl) rfl ?_
            refine s_iadd (pc := 75) (dc dl_X11_comesOut 48 rfl) ?_
            refine s_iconst (pc := 76) (v := 1) (dc dl_X11_comesOut 49 rfl) ic_1 ?_
            refine s_iadd (pc := 77) (dc dl_X11_comesOut 50 rfl) ?_
            refine s_iald (pc := 78) lk_Mo_1 (dc dl_X11_comesOut 51 rfl) (fun v10 => ?_)
            exact s_wk (hj7 v10) rfl
    · refine s_iload_n (pc := 24) (dc dl_X11_comesOut 16 rfl) rfl rfl ?_
      refine s_iconst (pc := 25) (v := 1) (dc dl_X11_comesOut 17 rfl) ic_1 ?_
      refine s_iadd (pc := 26) (dc dl_X11_comesOut 18 rfl) ?_
      refine s_istore_nL (pc := 27) (lf' := fun y11 => [some (.ref (ad 0)), some (.int x1), some (.int r1), some (.int y11), none]) (dc dl_X11_comesOut 19 rfl) rfl (Nat.le_of_ble_eq_true rfl) (fun _ => rfl) (fun y11 => ?_)
      refine s_goto (pc := 28) (tgt := 14) (dc dl_X11_comesOut 20 rfl) rfl ?_
      exact s_wk (hself2 y11) rfl
def gX11_happens (x1 : Int32) : MM Int32 :=
  bd (ld 0 5) fun v1 =>
  jn (fun (a3 : Int32) =>
  rz a3) (fun j2 =>
  (if v1 = 0 then
  jn (fun (a5 : Unit) =>
  j2 0) (fun j4 =>
  (if x1 ≤ 0 then
  j4 ()
  else
  bd (gX11_draw 1000) fun r6 =>
  (if x1 ≤ r6 then
  j4 ()
  else
  j2 1)))
  else
  (if (2 * x1) < 1000 then
  j2 0
  else
  j2 1)))
set_option maxHeartbeats 4000000 in
theorem cn_X11_happens (l : Launch) (G : Gl) (hG : gOk G) (ad : Nat → Nat) (x1 : Int32) : Cn l G mX11_happens 1 lay_Mo ad [.ref (ad 0), .int x1] (gX11_happens x1) := by
  refine cn_of (lv := [some (.ref (ad 0)), some (.int x1)]) (by decide +kernel) rfl (Nat.le_of_ble_eq_true rfl) rfl ?_
  unfold gX11_happens
  refine s_aload_n (pc := 0) (dc dl_X11_happens 0 rfl) rfl rfl ?_
  refine s_getI (pc := 1) fl_X11_131 lk_Mo_0 kk_Mo_0_5 (dc dl_X11_happens 1 rfl) (fun v1 => ?_)
  refine s_jn (pj := 44) (fun a3 : Int32 => [none, none]) (fun a3 : Int32 => [.int a3]) (fun a3 => ?_) (fun j2 hj2 => ?_)
  · exact s_zreturn (pc := 44) rfl (dc dl_X11_happens 22 rfl)
  · refine s_if_eq (pc := 4) (tgt := 24) (dc dl_X11_happens 2 rfl) rfl ?_ ?_
    · refine s_iload_n (pc := 24) (dc dl_X11_happens 12 rfl) rfl rfl ?_
      refine s_jn (pj := 43) (fun a5 : Unit => [none, none]) (fun a5 : Unit => []) (fun a5 => ?_) (fun j4 hj4 => ?_)
      · refine s_iconst (pc := 43) (v := 0) (dc dl_X11_happens 21 rfl) ic_0 ?_
        exact s_wk (hj2 0) rfl
      · refine s_if_le (pc := 25) (tgt := 43) (dc dl_X11_happens 13 rfl) rfl ?_ ?_
        · exact s_wk (hj4 ()) rfl
        · refine s_aload_n (pc := 28) (dc dl_X11_happens 14 rfl) rfl rfl ?_
          refine s_sipush (pc := 29) (v := 1000) (dc dl_X11_happens 15 rfl) si_1000 ?_
          refine s_call (pc := 32) (rest := []) hG (calls_V (mi := mX11_happens) (o := 0) (As := [.int 1000]) (rest := []) hG (dc dl_X11_happens 16 rfl) mo_X11_draw mv_X11_draw ml_X11_359 ⟨Nat.le_of_ble_eq_true rfl, Nat.le_of_ble_eq_true rfl⟩ rfl rfl (Nat.le_of_ble_eq_true rfl) lk_Mo_0 rfl) (cn_X11_draw l G hG ad 1000) rfl (fun r6 => ?_)
          refine s_iload_n (pc := 35) (dc dl_X11_happens 17 rfl) rfl rfl ?_
          refine s_icmp_ge (pc := 36) (tgt := 43) (dc dl_X11_happens 18 rfl) rfl ?_ ?_
          · exact s_wk (hj4 ()) rfl
          · refine s_iconst (pc := 39) (v := 1) (dc dl_X11_happens 19 rfl) ic_1 ?_
            refine s_goto (pc := 40) (tgt := 44) (dc dl_X11_happens 20 rfl) rfl ?_
            exact s_wk (hj2 1) rfl
    · refine s_iconst (pc := 7) (v := 2) (dc dl_X11_happens 3 rfl) ic_2 ?_
      refine s_iload_n (pc := 8) (dc dl_X11_happens 4 rfl) rfl rfl ?_
      refine s_imul (pc := 9) (dc dl_X11_happens 5 rfl) ?_
      refine s_sipush (pc := 10) (v := 1000) (dc dl_X11_happens 6 rfl) si_1000 ?_
      refine s_icmp_lt (pc := 13) (tgt := 20) (dc dl_X11_happens 7 rfl) rfl ?_ ?_
      · refine s_iconst (pc := 20) (v := 0) (dc dl_X11_happens 10 rfl) ic_0 ?_
        refine s_goto (pc := 21) (tgt := 44) (dc dl_X11_happens 11 rfl) rfl ?_
        exact s_wk (hj2 0) rfl
      · refine s_iconst (pc := 16) (v := 1) (dc dl_X11_happens 8 rfl) ic_1 ?_
        refine s_goto (pc := 17) (tgt := 44) (dc dl_X11_happens 9 rfl) rfl ?_
        exact s_wk (hj2 1) rfl
def gX11_isWashed (x1 : Int32) : MM Int32 :=
  bd (la 1 (53 + x1)) fun v1 =>
  bd (gX11_lesser 99 (v1 + 1)) fun r2 =>
  bd (sa 1 (53 + x1) r2) fun _ =>
  loopC 100000 (fun (self3 : Int32 → MM Int32) (s4 : Int32) =>
  jn (fun (a6 : Unit) =>
  pr 0) (fun j5 =>
  (if 4 ≤ s4 then
  j5 ()
  else
  bd (gX11_knotOf x1 s4) fun r7 =>
  (if r7 = ((-1)) then
  j5 ()
  else
  bd (gX11_knotOf x1 s4) fun r8 =>
  bd (gX11_slipsOf r8) fun r9 =>
  bd (gX11_happens r9) fun r10 =>
  jn (fun (a12 : Int32) =>
  self3 a12) (fun j11 =>
  (if r10 = 0 then
  lt (s4 + 1) fun y13 =>
  j11 y13
  else
  bd (gX11_comesOut r8) fun r14 =>
  bd (gX11_notes 1 r8 x1) fun r15 =>
  j11 s4)))))) 0
set_option maxHeartbeats 4000000 in
theorem cn_X11_isWashed (l : Launch) (G : Gl) (hG : gOk G) (ad : Nat → Nat) (x1 : Int32) : Cn l G mX11_isWashed 5 lay_Mo ad [.ref (ad 0), .int x1] (gX11_isWashed x1) := by
  refine cn_of (lv := [some (.ref (ad 0)), some (.int x1), none, none]) (by decide +kernel) rfl (Nat.le_of_ble_eq_true rfl) rfl ?_
  unfold gX11_isWashed
  refine s_aload_n (pc := 0) (dc dl_X11_isWashed 0 rfl) rfl rfl ?_
  refine s_getR (pc := 1) fl_X11_7 lk_Mo_0 kk_Mo_0_1 (dc dl_X11_isWashed 1 rfl) ?_
  refine s_bipush (pc := 4) (v := 53) (dc dl_X11_isWashed 2 rfl) bi_53 ?_
  refine s_iload_n (pc := 6) (dc dl_X11_isWashed 3 rfl) rfl rfl ?_
  refine s_iadd (pc := 7) (dc dl_X11_isWashed 4 rfl) ?_
  refine s_aload_n (pc := 8) (dc dl_X11_isWashed 5 rfl) rfl rfl ?_
  refine s_bipush (pc := 9) (v := 99) (dc dl_X11_isWashed 6 rfl) bi_99 ?_
  refine s_aload_n (pc := 11) (dc dl_X11_isWashed 7 rfl) rfl rfl ?_
  refine s_getR (pc := 12) fl_X11_7 lk_Mo_0 kk_Mo_0_1 (dc dl_X11_isWashed 8 rfl) ?_
  refine s_bipush (pc := 15) (v := 53) (dc dl_X11_isWashed 9 rfl) bi_53 ?_
  refine s_iload_n (pc := 17) (dc dl_X11_isWashed 10 rfl) rfl rfl ?_
  refine s_iadd (pc := 18) (dc dl_X11_isWashed 11 rfl) ?_
  refine s_iald (pc := 19) lk_Mo_1 (dc dl_X11_isWashed 12 rfl) (fun v1 => ?_)
  refine s_iconst (pc := 20) (v := 1) (dc dl_X11_isWashed 13 rfl) ic_1 ?_
  refine s_iadd (pc := 21) (dc dl_X11_isWashed 14 rfl) ?_
  refine s_call (pc := 22) (rest := [.int (53 + x1), .ref (ad 1)]) hG (calls_V (mi := mX11_isWashed) (o := 0) (As := [.int 99, .int (v1 + 1)]) (rest := [.int (53 + x1), .ref (ad 1)]) hG (dc dl_X11_isWashed 15 rfl) mo_X11_lesser mv_X11_lesser ml_X11_362 ⟨Nat.le_of_ble_eq_true rfl, Nat.le_of_ble_eq_true rfl⟩ rfl rfl (Nat.le_of_ble_eq_true rfl) lk_Mo_0 rfl) (cn_X11_lesser l G hG ad 99 (v1 + 1)) rfl (fun r2 => ?_)
  refine s_iast (pc := 25) lk_Mo_1 (dc dl_X11_isWashed 16 rfl) ?_
  refine s_iconst (pc := 26) (v := 0) (dc dl_X11_isWashed 17 rfl) ic_0 ?_
  refine s_istore_n (pc := 27) (lv' := [some (.ref (ad 0)), some (.int x1), some (.int 0), none]) (dc dl_X11_isWashed 18 rfl) rfl (Nat.le_of_ble_eq_true rfl) rfl ?_
  refine s_weak (lv' := [some (.ref (ad 0)), some (.int x1), some (.int 0), none]) rfl ?_
  refine s_loop (pc := 28) (fun s4 : Int32 => [some (.ref (ad 0)), some (.int x1), some (.int s4), none]) [] (fun self3 hself3 s4 => ?_) _ 0
  refine s_iload_n (pc := 28) (dc dl_X11_isWashed 19 rfl) rfl rfl ?_
  refine s_iconst (pc := 29) (v := 4) (dc dl_X11_isWashed 20 rfl) ic_4 ?_
  refine s_jn (pj := 84) (fun a6 : Unit => [none, none, none, none]) (fun a6 : Unit => []) (fun a6 => ?_) (fun j5 hj5 => ?_)
  · exact s_return (pc := 84) rfl (dc dl_X11_isWashed 53 rfl)
  · refine s_icmp_ge (pc := 30) (tgt := 84) (dc dl_X11_isWashed 21 rfl) rfl ?_ ?_
    · exact s_wk (hj5 ()) rfl
    · refine s_aload_n (pc := 33) (dc dl_X11_isWashed 22 rfl) rfl rfl ?_
      refine s_iload_n (pc := 34) (dc dl_X11_isWashed 23 rfl) rfl rfl ?_
      refine s_iload_n (pc := 35) (dc dl_X11_isWashed 24 rfl) rfl rfl ?_
      refine s_call (pc := 36) (rest := []) hG (calls_V (mi := mX11_isWashed) (o := 0) (As := [.int x1, .int s4]) (rest := []) hG (dc dl_X11_isWashed 25 rfl) mo_X11_knotOf mv_X11_knotOf ml_X11_146 ⟨Nat.le_of_ble_eq_true rfl, Nat.le_of_ble_eq_true rfl⟩ rfl rfl (Nat.le_of_ble_eq_true rfl) lk_Mo_0 rfl) (cn_X11_knotOf l G hG ad x1 s4) rfl (fun r7 => ?_)
      refine s_iconst (pc := 39) (v := (-1)) (dc dl_X11_isWashed 26 rfl) ic_m1 ?_
      refine s_icmp_eq (pc := 40) (tgt := 84) (dc dl_X11_isWashed 27 rfl) rfl ?_ ?_
      · exact s_wk (hj5 ()) rfl
      · refine s_aload_n (pc := 43) (dc dl_X11_isWashed 28 rfl) rfl rfl ?_
        refine s_iload_n (pc := 44) (dc dl_X11_isWashed 29 rfl) rfl rfl ?_
        refine s_iload_n (pc := 45) (dc dl_X11_isWashed 30 rfl) rfl rfl ?_
        refine s_call (pc := 46) (rest := []) hG (calls_V (mi := mX11_isWashed) (o := 0) (As := [.int x1, .int s4]) (rest := []) hG (dc dl_X11_isWashed 31 rfl) mo_X11_knotOf mv_X11_knotOf ml_X11_146 ⟨Nat.le_of_ble_eq_true rfl, Nat.le_of_ble_eq_true rfl⟩ rfl rfl (Nat.le_of_ble_eq_true rfl) lk_Mo_0 rfl) (cn_X11_knotOf l G hG ad x1 s4) rfl (fun r8 => ?_)
        refine s_istore_n (pc := 49) (lv' := [some (.ref (ad 0)), some (.int x1), some (.int s4), some (.int r8)]) (dc dl_X11_isWashed 32 rfl) rfl (Nat.le_of_ble_eq_true rfl) rfl ?_
        refine s_aload_n (pc := 50) (dc dl_X11_isWashed 33 rfl) rfl rfl ?_
        refine s_aload_n (pc := 51) (dc dl_X11_isWashed 34 rfl) rfl rfl ?_
        refine s_iload_n (pc := 52) (dc dl_X11_isWashed 35 rfl) rfl rfl ?_
        refine s_call (pc := 53) (rest := [.ref (ad 0)]) hG (calls_V (mi := mX11_isWashed) (o := 0) (As := [.int r8]) (rest := [.ref (ad 0)]) hG (dc dl_X11_isWashed 36 rfl) mo_X11_slipsOf mv_X11_slipsOf ml_X11_365 ⟨Nat.le_of_ble_eq_true rfl, Nat.le_of_ble_eq_true rfl⟩ rfl rfl (Nat.le_of_ble_eq_true rfl) lk_Mo_0 rfl) (cn_X11_slipsOf l G hG ad r8) rfl (fun r9 => ?_)
        refine s_call (pc := 56) (rest := []) hG (calls_V (mi := mX11_isWashed) (o := 0) (As := [.int r9]) (rest := []) hG (dc dl_X11_isWashed 37 rfl) mo_X11_happens mv_X11_happens ml_X11_368 ⟨Nat.le_of_ble_eq_true rfl, Nat.le_of_ble_eq_true rfl⟩ rfl rfl (Nat.le_of_ble_eq_true rfl) lk_Mo_0 rfl) (cn_X11_happens l G hG ad r9) rfl (fun r10 => ?_)
        refine s_jn (pj := 81) (fun a12 : Int32 => [some (.ref (ad 0)), some (.int x1), some (.int a12), none]) (fun a12 : Int32 => []) (fun a12 => ?_) (fun j11 hj11 => ?_)
        · refine s_goto (pc := 81) (tgt := 28) (dc dl_X11_isWashed 52 rfl) rfl ?_
          exact s_wk (hself3 a12) rfl
        · refine s_if_eq (pc := 59) (tgt := 77) (dc dl_X11_isWashed 38 rfl) rfl ?_ ?_
          · refine s_iload_n (pc := 77) (dc dl_X11_isWashed 48 rfl) rfl rfl ?_
            refine s_iconst (pc := 78) (v := 1) (dc dl_X11_isWashed 49 rfl) ic_1 ?_
            refine s_iadd (pc := 79) (dc dl_X11_isWashed 50 rfl) ?_
            refine s_istore_nL (pc := 80) (lf' := fun y13 => [some (.ref (ad 0)), some (.int x1), some (.int y13), some (.int r8)]) (dc dl_X11_isWashed 51 rfl) rfl (Nat.le_of_ble_eq_true rfl) (fun _ => rfl) (fun y13 => ?_)
            exact s_wk (hj11 y13) rfl
          · refine s_aload_n (pc := 62) (dc dl_X11_isWashed 39 rfl) rfl rfl ?_
            refine s_iload_n (pc := 63) (dc dl_X11_isWashed 40 rfl) rfl rfl ?_
            refine s_callv (pc := 64) (rest := []) hG (calls_V (mi := mX11_isWashed) (o := 0) (As := [.int r8]) (rest := []) hG (dc dl_X11_isWashed 41 rfl) mo_X11_comesOut mv_X11_comesOut ml_X11_371 ⟨Nat.le_of_ble_eq_true rfl, Nat.le_of_ble_eq_true rfl⟩ rfl rfl (Nat.le_of_ble_eq_true rfl) lk_Mo_0 rfl) (cn_X11_comesOut l G hG ad r8) rfl (fun r14 => ?_)
            refine s_aload_n (pc := 67) (dc dl_X11_isWashed 42 rfl) rfl rfl ?_
            refine s_iconst (pc := 68) (v := 1) (dc dl_X11_isWashed 43 rfl) ic_1 ?_
            refine s_iload_n (pc := 69) (dc dl_X11_isWashed 44 rfl) rfl rfl ?_
            refine s_iload_n (pc := 70) (dc dl_X11_isWashed 45 rfl) rfl rfl ?_
            refine s_callv (pc := 71) (rest := []) hG (calls_V (mi := mX11_isWashed) (o := 0) (As := [.int 1, .int r8, .int x1]) (rest := []) hG (dc dl_X11_isWashed 46 rfl) mo_X11_notes mv_X11_notes ml_X11_355 ⟨Nat.le_of_ble_eq_true rfl, Nat.le_of_ble_eq_true rfl⟩ rfl rfl (Nat.le_of_ble_eq_true rfl) lk_Mo_0 rfl) (cn_X11_notes l G hG ad 1 r8 x1) rfl (fun r15 => ?_)
            refine s_goto (pc := 74) (tgt := 81) (dc dl_X11_isWashed 47 rfl) rfl ?_
            exact s_wk (hj11 s4) rfl
def gX11_isPulled (x1 : Int32) : MM Int32 :=
  bd (gX11_knotsOf x1) fun r1 =>
  (if r1 = 0 then
  pr 0
  else
  bd (gX11_knotsOf x1) fun r2 =>
  bd (gX11_knotOf x1 (r2 - 1)) fun r3 =>
  bd (la 1 (143 + r3)) fun v4 =>
  bd (sa 1 (143 + r3) (v4 - 1)) fun _ =>
  bd (la 1 (143 + r3)) fun v5 =>
  (if v5 ≤ 0 then
  bd (gX11_comesOut r3) fun r6 =>
  bd (gX11_notes 4 r3 x1) fun r7 =>
  pr 0
  else
  pr 0))
set_option maxHeartbeats 4000000 in
theorem cn_X11_isPulled (l : Launch) (G : Gl) (hG : gOk G) (ad : Nat → Nat) (x1 : Int32) : Cn l G mX11_isPulled 2 lay_Mo ad [.ref (ad 0), .int x1] (gX11_isPulled x1) := by
  refine cn_of (lv := [some (.ref (ad 0)), some (.int x1), none]) (by decide +kernel) rfl (Nat.le_of_ble_eq_true rfl) rfl ?_
  unfold gX11_isPulled
  refine s_aload_n (pc := 0) (dc dl_X11_isPulled 0 rfl) rfl rfl ?_
  refine s_iload_n (pc := 1) (dc dl_X11_isPulled 1 rfl) rfl rfl ?_
  refine s_call (pc := 2) (rest := []) hG (calls_V (mi := mX11_isPulled) (o := 0) (As := [.int x1]) (rest := []) hG (dc dl_X11_isPulled 2 rfl) mo_X11_knotsOf mv_X11_knotsOf ml_X11_329 ⟨Nat.le_of_ble_eq_true rfl, Nat.le_of_ble_eq_true rfl⟩ rfl rfl (Nat.le_of_ble_eq_true rfl) lk_Mo_0 rfl) (cn_X11_knotsOf l G hG ad x1) rfl (fun r1 => ?_)
  refine s_if_ne (pc := 5) (tgt := 9) (dc dl_X11_isPulled 3 rfl) rfl ?_ ?_
  · exact s_return (pc := 8) rfl (dc dl_X11_isPulled 4 rfl)
  · refine s_aload_n (pc := 9) (dc dl_X11_isPulled 5 rfl) rfl rfl ?_
    refine s_iload_n (pc := 10) (dc dl_X11_isPulled 6 rfl) rfl rfl ?_
    refine s_aload_n (pc := 11) (dc dl_X11_isPulled 7 rfl) rfl rfl ?_
    refine s_iload_n (pc := 12) (dc dl_X11_isPulled 8 rfl) rfl rfl ?_
    refine s_call (pc := 13) (rest := [.int x1, .ref (ad 0)]) hG (calls_V (mi := mX11_isPulled) (o := 0) (As := [.int x1]) (rest := [.int x1, .ref (ad 0)]) hG (dc dl_X11_isPulled 9 rfl) mo_X11_knotsOf mv_X11_knotsOf ml_X11_329 ⟨Nat.le_of_ble_eq_true rfl, Nat.le_of_ble_eq_true rfl⟩ rfl rfl (Nat.le_of_ble_eq_true rfl) lk_Mo_0 rfl) (cn_X11_knotsOf l G hG ad x1) rfl (fun r2 => ?_)
    refine s_iconst (pc := 16) (v := 1) (dc dl_X11_isPulled 10 rfl) ic_1 ?_
    refine s_isub (pc := 17) (dc dl_X11_isPulled 11 rfl) ?_
    refine s_call (pc := 18) (rest := []) hG (calls_V (mi := mX11_isPulled) (o := 0) (As := [.int x1, .int (r2 - 1)]) (rest := []) hG (dc dl_X11_isPulled 12 rfl) mo_X11_knotOf mv_X11_knotOf ml_X11_146 ⟨Nat.le_of_ble_eq_true rfl, Nat.le_of_ble_eq_true rfl⟩ rfl rfl (Nat.le_of_ble_eq_true rfl) lk_Mo_0 rfl) (cn_X11_knotOf l G hG ad x1 (r2 - 1)) rfl (fun r3 => ?_)
    refine s_istore_n (pc := 21) (lv' := [some (.ref (ad 0)), some (.int x1), some (.int r3)]) (dc dl_X11_isPulled 13 rfl) rfl (Nat.le_of_ble_eq_true rfl) rfl ?_
    refine s_aload_n (pc := 22) (dc dl_X11_isPulled 14 rfl) rfl rfl ?_
    refine s_getR (pc := 23) fl_X11_7 lk_Mo_0 kk_Mo_0_1 (dc dl_X11_isPulled 15 rfl) ?_
    refine s_sipush (pc := 26) (v := 143) (dc dl_X11_isPulled 16 rfl) si_143 ?_
    refine s_iload_n (pc := 29) (dc dl_X11_isPulled 17 rfl) rfl rfl ?_
    refine s_iadd (pc := 30) (dc dl_X11_isPulled 18 rfl) ?_
    refine s_aload_n (pc := 31) (dc dl_X11_isPulled 19 rfl) rfl rfl ?_
    refine s_getR (pc := 32) fl_X11_7 lk_Mo_0 kk_Mo_0_1 (dc dl_X11_isPulled 20 rfl) ?_
    refine s_sipush (pc := 35) (v := 143) (dc dl_X11_isPulled 21 rfl) si_143 ?_
    refine s_iload_n (pc := 38) (dc dl_X11_isPulled 22 rfl) rfl rfl ?_
    refine s_iadd (pc := 39) (dc dl_X11_isPulled 23 rfl) ?_
    refine s_iald (pc := 40) lk_Mo_1 (dc dl_X11_isPulled 24 rfl) (fun v4 => ?_)
    refine s_iconst (pc := 41) (v := 1) (dc dl_X11_isPulled 25 rfl) ic_1 ?_
    refine s_isub (pc := 42) (dc dl_X11_isPulled 26 rfl) ?_
    refine s_iast (pc := 43) lk_Mo_1 (dc dl_X11_isPulled 27 rfl) ?_
    refine s_aload_n (pc := 44) (dc dl_X11_isPulled 28 rfl) rfl rfl ?_
    refine s_getR (pc := 45) fl_X11_7 lk_Mo_0 kk_Mo_0_1 (dc dl_X11_isPulled 29 rfl) ?_
    refine s_sipush (pc := 48) (v := 143) (dc dl_X11_isPulled 30 rfl) si_143 ?_
    refine s_iload_n (pc := 51) (dc dl_X11_isPulled 31 rfl) rfl rfl ?_
    refine s_iadd (pc := 52) (dc dl_X11_isPulled 32 rfl) ?_
    refine s_iald (pc := 53) lk_Mo_1 (dc dl_X11_isPulled 33 rfl) (fun v5 => ?_)
    refine s_if_le (pc := 54) (tgt := 58) (dc dl_X11_isPulled 34 rfl) rfl ?_ ?_
    · refine s_aload_n (pc := 58) (dc dl_X11_isPulled 36 rfl) rfl rfl ?_
      refine s_iload_n (pc := 59) (dc dl_X11_isPulled 37 rfl) rfl rfl ?_
      refine s_callv (pc := 60) (rest := []) hG (calls_V (mi := mX11_isPulled) (o := 0) (As := [.int r3]) (rest := []) hG (dc dl_X11_isPulled 38 rfl) mo_X11_comesOut mv_X11_comesOut ml_X11_371 ⟨Nat.le_of_ble_eq_true rfl, Nat.le_of_ble_eq_true rfl⟩ rfl rfl (Nat.le_of_ble_eq_true rfl) lk_Mo_0 rfl) (cn_X11_comesOut l G hG ad r3) rfl (fun r6 => ?_)
      refine s_aload_n (pc := 63) (dc dl_X11_isPulled 39 rfl) rfl rfl ?_
      refine s_iconst (pc := 64) (v := 4) (dc dl_X11_isPulled 40 rfl) ic_4 ?_
      refine s_iload_n (pc := 65) (dc dl_X11_isPulled 41 rfl) rfl rfl ?_
      refine s_iload_n (pc := 66) (dc dl_X11_isPulled 42 rfl) rfl rfl ?_
      refine s_callv (pc := 67) (rest := []) hG (calls_V (mi := mX11_isPulled) (o := 0) (As := [.int 4, .int r3, .int x1]) (rest := []) hG (dc dl_X11_isPulled 43 rfl) mo_X11_notes mv_X11_notes ml_X11_355 ⟨Nat.le_of_ble_eq_true rfl, Nat.le_of_ble_eq_true rfl⟩ rfl rfl (Nat.le_of_ble_eq_true rfl) lk_Mo_0 rfl) (cn_X11_notes l G hG ad 4 r3 x1) rfl (fun r7 => ?_)
      exact s_return (pc := 70) rfl (dc dl_X11_isPulled 44 rfl)
    · exact s_return (pc := 57) rfl (dc dl_X11_isPulled 35 rfl)
def gX11_canAct (x1 x2 x3 : Int32) : MM Int32 :=
  (if x1 = 0 then
  bd (gX11_isThing x2) fun r13 =>
  jn (fun (a15 : Int32) =>
  rz a15) (fun j14 =>
  jn (fun (a17 : Unit) =>
  j14 0) (fun j16 =>
  (if r13 = 0 then
  j16 ()
  else
  bd (gX11_isCloth x3) fun r18 =>
  (if r18 = 0 then
  j16 ()
  else
  bd (gX11_canTie x2 x3) fun r19 =>
  (if r19 = 0 then
  j16 ()
  else
  j14 1)))))
  else
  bd (gX11_isCloth x2) fun r1 =>
  (if r1 = 0 then
  rz 0
  else
  jn (fun (a3 : Int32) =>
  rz a3) (fun j2 =>
  jn (fun (a5 : Unit) =>
  j2 1) (fun j4 =>
  jn (fun (a7 : Unit) =>
  (if x1 = 2 then
  j4 ()
  else
  jn (fun (a9 : Unit) =>
  j2 0) (fun j8 =>
  (if x1 = 3 then
  bd (gX11_knotsOf x2) fun r10 =>
  (if r10 ≤ 0 then
  j8 ()
  else
  j4 ())
  else
  j8 ())))) (fun j6 =>
  (if x1 = 1 then
  bd (gX11_isPerson x3) fun r11 =>
  (if r11 = 0 then
  j6 ()
  else
  bd (la 1 (39 + x2)) fun v12 =>
  (if v12 = x3 then
  j6 ()
  else
  j4 ()))
  else
  j6 ()))))))
set_option maxHeartbeats 4000000 in
theorem cn_X11_canAct (l : Launch) (G : Gl) (hG : gOk G) (ad : Nat → Nat) (x1 x2 x3 : Int32) : Cn l G mX11_canAct 3 lay_Mo ad [.ref (ad 0), .int x1, .int x2, .int x3] (gX11_canAct x1 x2 x3) := by
  refine cn_of (lv := [some (.ref (ad 0)), some (.int x1), some (.int x2), some (.int x3)]) (by decide +kernel) rfl (Nat.le_of_ble_eq_true rfl) rfl ?_
  unfold gX11_canAct
  refine s_iload_n (pc := 0) (dc dl_X11_canAct 0 rfl) rfl rfl ?_
  refine s_if_ne (pc := 1) (tgt := 35) (dc dl_X11_canAct 1 rfl) rfl ?_ ?_
  · refine s_aload_n (pc := 4) (dc dl_X11_canAct 2 rfl) rfl rfl ?_
    refine s_iload_n (pc := 5) (dc dl_X11_canAct 3 rfl) rfl rfl ?_
    refine s_call (pc := 6) (rest := []) hG (calls_V (mi := mX11_canAct) (o := 0) (As := [.int x2]) (rest := []) hG (dc dl_X11_canAct 4 rfl) mo_X11_isThing mv_X11_isThing ml_X11_161 ⟨Nat.le_of_ble_eq_true rfl, Nat.le_of_ble_eq_true rfl⟩ rfl rfl (Nat.le_of_ble_eq_true rfl) lk_Mo_0 rfl) (cn_X11_isThing l G hG ad x2) rfl (fun r13 => ?_)
    refine s_jn (pj := 34) (fun a15 : Int32 => [none, none, none, none]) (fun a15 : Int32 => [.int a15]) (fun a15 => ?_) (fun j14 hj14 => ?_)
    · exact s_zreturn (pc := 34) rfl (dc dl_X11_canAct 18 rfl)
    · refine s_jn (pj := 33) (fun a17 : Unit => [none, none, none, none]) (fun a17 : Unit => []) (fun a17 => ?_) (fun j16 hj16 => ?_)
      · refine s_iconst (pc := 33) (v := 0) (dc dl_X11_canAct 17 rfl) ic_0 ?_
        exact s_wk (hj14 0) rfl
      · refine s_if_eq (pc := 9) (tgt := 33) (dc dl_X11_canAct 5 rfl) rfl ?_ ?_
        · exact s_wk (hj16 ()) rfl
        · refine s_aload_n (pc := 12) (dc dl_X11_canAct 6 rfl) rfl rfl ?_
          refine s_iload_n (pc := 13) (dc dl_X11_canAct 7 rfl) rfl rfl ?_
          refine s_call (pc := 14) (rest := []) hG (calls_V (mi := mX11_canAct) (o := 0) (As := [.int x3]) (rest := []) hG (dc dl_X11_canAct 8 rfl) mo_X11_isCloth mv_X11_isCloth ml_X11_158 ⟨Nat.le_of_ble_eq_true rfl, Nat.le_of_ble_eq_true rfl⟩ rfl rfl (Nat.le_of_ble_eq_true rfl) lk_Mo_0 rfl) (cn_X11_isCloth l G hG ad x3) rfl (fun r18 => ?_)
          refine s_if_eq (pc := 17) (tgt := 33) (dc dl_X11_canAct 9 rfl) rfl ?_ ?_
          · exact s_wk (hj16 ()) rfl
          · refine s_aload_n (pc := 20) (dc dl_X11_canAct 10 rfl) rfl rfl ?_
            refine s_iload_n (pc := 21) (dc dl_X11_canAct 11 rfl) rfl rfl ?_
            refine s_iload_n (pc := 22) (dc dl_X11_canAct 12 rfl) rfl rfl ?_
            refine s_call (pc := 23) (rest := []) hG (calls_V (mi := mX11_canAct) (o := 0) (As := [.int x2, .int x3]) (rest := []) hG (dc dl_X11_canAct 13 rfl) mo_X11_canTie mv_X11_canTie ml_X11_374 ⟨Nat.le_of_ble_eq_true rfl, Nat.le_of_ble_eq_true rfl⟩ rfl rfl (Nat.le_of_ble_eq_true rfl) lk_Mo_0 rfl) (cn_X11_canTie l G hG ad x2 x3) rfl (fun r19 => ?_)
            refine s_if_eq (pc := 26) (tgt := 33) (dc dl_X11_canAct 14 rfl) rfl ?_ ?_
            · exact s_wk (hj16 ()) rfl
            · refine s_iconst (pc := 29) (v := 1) (dc dl_X11_canAct 15 rfl) ic_1 ?_
              refine s_goto (pc := 30) (tgt := 34) (dc dl_X11_canAct 16 rfl) rfl ?_
              exact s_wk (hj14 1) rfl
  · refine s_aload_n (pc := 35) (dc dl_X11_canAct 19 rfl) rfl rfl ?_
    refine s_iload_n (pc := 36) (dc dl_X11_canAct 20 rfl) rfl rfl ?_
    refine s_call (pc := 37) (rest := []) hG (calls_V (mi := mX11_canAct) (o := 0) (As := [.int x2]) (rest := []) hG (dc dl_X11_canAct 21 rfl) mo_X11_isCloth mv_X11_isCloth ml_X11_158 ⟨Nat.le_of_ble_eq_true rfl, Nat.le_of_ble_eq_true rfl⟩ rfl rfl (Nat.le_of_ble_eq_true rfl) lk_Mo_0 rfl) (cn_X11_isCloth l G hG ad x2) rfl (fun r1 => ?_)
    refine s_if_ne (pc := 40) (tgt := 45) (dc dl_X11_canAct 22 rfl) rfl ?_ ?_
    · refine s_iconst (pc := 43) (v := 0) (dc dl_X11_canAct 23 rfl) ic_0 ?_
      exact s_zreturn (pc := 44) rfl (dc dl_X11_canAct 24 rfl)
    · refine s_iload_n (pc := 45) (dc dl_X11_canAct 25 rfl) rfl rfl ?_
      refine s_iconst (pc := 46) (v := 1) (dc dl_X11_canAct 26 rfl) ic_1 ?_
      refine s_jn (pj := 94) (fun a3 : Int32 => [none, none, none, none]) (fun a3 : Int32 => [.int a3]) (fun a3 => ?_) (fun j2 hj2 => ?_)
      · exact s_zreturn (pc := 94) rfl (dc dl_X11_canAct 53 rfl)
      · refine s_jn (pj := 89) (fun a5 : Unit => [none, none, none, none]) (fun a5 : Unit => []) (fun a5 => ?_) (fun j4 hj4 => ?_)
        · refine s_iconst (pc := 89) (v := 1) (dc dl_X11_canAct 50 rfl) ic_1 ?_
          refine s_goto (pc := 90) (tgt := 94) (dc dl_X11_canAct 51 rfl) rfl ?_
          exact s_wk (hj2 1) rfl
        · refine s_jn (pj := 71) (fun a7 : Unit => [some (.ref (ad 0)), some (.int x1), some (.int x2), none]) (fun a7 : Unit => []) (fun a7 => ?_) (fun j6 hj6 => ?_)
          · refine s_iload_n (pc := 71) (dc dl_X11_canAct 40 rfl) rfl rfl ?_
            refine s_iconst (pc := 72) (v := 2) (dc dl_X11_canAct 41 rfl) ic_2 ?_
            refine s_icmp_eq (pc := 73) (tgt := 89) (dc dl_X11_canAct 42 rfl) rfl ?_ ?_
            · exact s_wk (hj4 ()) rfl
            · refine s_iload_n (pc := 76) (dc dl_X11_canAct 43 rfl) rfl rfl ?_
              refine s_iconst (pc := 77) (v := 3) (dc dl_X11_canAct 44 rfl) ic_3 ?_
              refine s_jn (pj := 93) (fun a9 : Unit => [none, none, none, none]) (fun a9 : Unit => []) (fun a9 => ?_) (fun j8 hj8 => ?_)
              · refine s_iconst (pc := 93) (v := 0) (dc dl_X11_canAct 52 rfl) ic_0 ?_
                exact s_wk (hj2 0) rfl
              · refine s_icmp_ne (pc := 78) (tgt := 93) (dc dl_X11_canAct 45 rfl) rfl ?_ ?_
                · refine s_aload_n (pc := 81) (dc dl_X11_canAct 46 rfl) rfl rfl ?_
                  refine s_iload_n (pc := 82) (dc dl_X11_canAct 47 rfl) rfl rfl ?_
                  refine s_call (pc := 83) (rest := []) hG (calls_V (mi := mX11_canAct) (o := 0) (As := [.int x2]) (rest := []) hG (dc dl_X11_canAct 48 rfl) mo_X11_knotsOf mv_X11_knotsOf ml_X11_329 ⟨Nat.le_of_ble_eq_true rfl, Nat.le_of_ble_eq_true rfl⟩ rfl rfl (Nat.le_of_ble_eq_true rfl) lk_Mo_0 rfl) (cn_X11_knotsOf l G hG ad x2) rfl (fun r10 => ?_)
                  refine s_if_le (pc := 86) (tgt := 93) (dc dl_X11_canAct 49 rfl) rfl ?_ ?_
                  · exact s_wk (hj8 ()) rfl
                  · exact s_wk (hj4 ()) rfl
                · exact s_wk (hj8 ()) rfl
          · refine s_icmp_ne (pc := 47) (tgt := 71) (dc dl_X11_canAct 27 rfl) rfl ?_ ?_
            · refine s_aload_n (pc := 50) (dc dl_X11_canAct 28 rfl) rfl rfl ?_
              refine s_iload_n (pc := 51) (dc dl_X11_canAct 29 rfl) rfl rfl ?_
              refine s_call (pc := 52) (rest := []) hG (calls_V (mi := mX11_canAct) (o := 0) (As := [.int x3]) (rest := []) hG (dc dl_X11_canAct 30 rfl) mo_X11_isPerson mv_X11_isPerson ml_X11_154 ⟨Nat.le_of_ble_eq_true rfl, Nat.le_of_ble_eq_true rfl⟩ rfl rfl (Nat.le_of_ble_eq_true rfl) lk_Mo_0 rfl) (cn_X11_isPerson l G hG ad x3) rfl (fun r11 => ?_)
              refine s_if_eq (pc := 55) (tgt := 71) (dc dl_X11_canAct 31 rfl) rfl ?_ ?_
              · exact s_wk (hj6 ()) rfl
              · refine s_aload_n (pc := 58) (dc dl_X11_canAct 32 rfl) rfl rfl ?_
                refine s_getR (pc := 59) fl_X11_7 lk_Mo_0 kk_Mo_0_1 (dc dl_X11_canAct 33 rfl) ?_
                refine s_bipush (pc := 62) (v := 39) (dc dl_X11_canAct 34 rfl) bi_39 ?_
                refine s_iload_n (pc := 64) (dc dl_X11_canAct 35 rfl) rfl rfl ?_
                refine s_iadd (pc := 65) (dc dl_X11_canAct 36 rfl) ?_
                refine s_iald (pc := 66) lk_Mo_1 (dc dl_X11_canAct 37 rfl) (fun v12 => ?_)
                refine s_iload_n (pc := 67) (dc dl_X11_canAct 38 rfl) rfl rfl ?_
                refine s_icmp_ne (pc := 68) (tgt := 89) (dc dl_X11_canAct 39 rfl) rfl ?_ ?_
                · exact s_wk (hj6 ()) rfl
                · exact s_wk (hj4 ()) rfl
            · exact s_wk (hj6 ()) rfl
def gX11_does (x1 x2 x3 : Int32) : MM Int32 :=
  jn (fun (a2 : Unit) =>
  jn (fun (a4 : Unit) =>
  jn (fun (a6 : Unit) =>
  jn (fun (a8 : Unit) =>
  pr 0) (fun j7 =>
  (if x1 = 3 then
  bd (gX11_isPulled x2) fun r9 =>
  j7 ()
  else
  j7 ()))) (fun j5 =>
  (if x1 = 2 then
  bd (gX11_isWashed x2) fun r10 =>
  j5 ()
  else
  j5 ()))) (fun j3 =>
  (if x1 = 1 then
  bd (sa 1 (39 + x2) x3) fun _ =>
  j3 ()
  else
  j3 ()))) (fun j1 =>
  (if x1 = 0 then
  bd (gX11_canTie x2 x3) fun r11 =>
  (if r11 = 0 then
  j1 ()
  else
  bd (gX11_isTied x2 x3) fun r12 =>
  j1 ())
  else
  j1 ()))
set_option maxHeartbeats 4000000 in
theorem cn_X11_does (l : Launch) (G : Gl) (hG : gOk G) (ad : Nat → Nat) (x1 x2 x3 : Int32) : Cn l G mX11_does 6 lay_Mo ad [.ref (ad 0), .int x1, .int x2, .int x3] (gX11_does x1 x2 x3) := by
  refine cn_of (lv := [some (.ref (ad 0)), some (.int x1), some (.int x2), some (.int x3)]) (by decide +kernel) rfl (Nat.le_of_ble_eq_true rfl) rfl ?_
  unfold gX11_does
  refine s_iload_n (pc := 0) (dc dl_X11_does 0 rfl) rfl rfl ?_
  refine s_jn (pj := 19) (fun a2 : Unit => [some (.ref (ad 0)), some (.int x1), some (.int x2), some (.int x3)]) (fun a2 : Unit => []) (fun a2 => ?_) (fun j1 hj1 => ?_)
  · refine s_iload_n (pc := 19) (dc dl_X11_does 11 rfl) rfl rfl ?_
    refine s_iconst (pc := 20) (v := 1) (dc dl_X11_does 12 rfl) ic_1 ?_
    refine s_jn (pj := 34) (fun a4 : Unit => [some (.ref (ad 0)), some (.int x1), some (.int x2), none]) (fun a4 : Unit => []) (fun a4 => ?_) (fun j3 hj3 => ?_)
    · refine s_iload_n (pc := 34) (dc dl_X11_does 21 rfl) rfl rfl ?_
      refine s_iconst (pc := 35) (v := 2) (dc dl_X11_does 22 rfl) ic_2 ?_
      refine s_jn (pj := 44) (fun a6 : Unit => [some (.ref (ad 0)), some (.int x1), some (.int x2), none]) (fun a6 : Unit => []) (fun a6 => ?_) (fun j5 hj5 => ?_)
      · refine s_iload_n (pc := 44) (dc dl_X11_does 27 rfl) rfl rfl ?_
        refine s_iconst (pc := 45) (v := 3) (dc dl_X11_does 28 rfl) ic_3 ?_
        refine s_jn (pj := 54) (fun a8 : Unit => [none, none, none, none]) (fun a8 : Unit => []) (fun a8 => ?_) (fun j7 hj7 => ?_)
        · exact s_return (pc := 54) rfl (dc dl_X11_does 33 rfl)
        · refine s_icmp_ne (pc := 46) (tgt := 54) (dc dl_X11_does 29 rfl) rfl ?_ ?_
          · refine s_aload_n (pc := 49) (dc dl_X11_does 30 rfl) rfl rfl ?_
            refine s_iload_n (pc := 50) (dc dl_X11_does 31 rfl) rfl rfl ?_
            refine s_callv (pc := 51) (rest := []) hG (calls_V (mi := mX11_does) (o := 0) (As := [.int x2]) (rest := []) hG (dc dl_X11_does 32 rfl) mo_X11_isPulled mv_X11_isPulled ml_X11_383 ⟨Nat.le_of_ble_eq_true rfl, Nat.le_of_ble_eq_true rfl⟩ rfl rfl (Nat.le_of_ble_eq_true rfl) lk_Mo_0 rfl) (cn_X11_isPulled l G hG ad x2) rfl (fun r9 => ?_)
            exact s_wk (hj7 ()) rfl
          · exact s_wk (hj7 ()) rfl
      · refine s_icmp_ne (pc := 36) (tgt := 44) (dc dl_X11_does 23 rfl) rfl ?_ ?_
        · refine s_aload_n (pc := 39) (dc dl_X11_does 24 rfl) rfl rfl ?_
          refine s_iload_n (pc := 40) (dc dl_X11_does 25 rfl) rfl rfl ?_
          refine s_callv (pc := 41) (rest := []) hG (calls_V (mi := mX11_does) (o := 0) (As := [.int x2]) (rest := []) hG (dc dl_X11_does 26 rfl) mo_X11_isWashed mv_X11_isWashed ml_X11_380 ⟨Nat.le_of_ble_eq_true rfl, Nat.le_of_ble_eq_true rfl⟩ rfl rfl (Nat.le_of_ble_eq_true rfl) lk_Mo_0 rfl) (cn_X11_isWashed l G hG ad x2) rfl (fun r10 => ?_)
          exact s_wk (hj5 ()) rfl
        · exact s_wk (hj5 ()) rfl
    · refine s_icmp_ne (pc := 21) (tgt := 34) (dc dl_X11_does 13 rfl) rfl ?_ ?_
      · refine s_aload_n (pc := 24) (dc dl_X11_does 14 rfl) rfl rfl ?_
        refine s_getR (pc := 25) fl_X11_7 lk_Mo_0 kk_Mo_0_1 (dc dl_X11_does 15 rfl) ?_
        refine s_bipush (pc := 28) (v := 39) (dc dl_X11_does 16 rfl) bi_39 ?_
        refine s_iload_n (pc := 30) (dc dl_X11_does 17 rfl) rfl rfl ?_
        refine s_iadd (pc := 31) (dc dl_X11_does 18 rfl) ?_
        refine s_iload_n (pc := 32) (dc dl_X11_does 19 rfl) rfl rfl ?_
        refine s_iast (pc := 33) lk_Mo_1 (dc dl_X11_does 20 rfl) ?_
        exact s_wk (hj3 ()) rfl
      · exact s_wk (hj3 ()) rfl
  · refine s_if_ne (pc := 1) (tgt := 19) (dc dl_X11_does 1 rfl) rfl ?_ ?_
    · refine s_aload_n (pc := 4) (dc dl_X11_does 2 rfl) rfl rfl ?_
      refine s_iload_n (pc := 5) (dc dl_X11_does 3 rfl) rfl rfl ?_
      refine s_iload_n (pc := 6) (dc dl_X11_does 4 rfl) rfl rfl ?_
      refine s_call (pc := 7) (rest := []) hG (calls_V (mi := mX11_does) (o := 0) (As := [.int x2, .int x3]) (rest := []) hG (dc dl_X11_does 5 rfl) mo_X11_canTie mv_X11_canTie ml_X11_374 ⟨Nat.le_of_ble_eq_true rfl, Nat.le_of_ble_eq_true rfl⟩ rfl rfl (Nat.le_of_ble_eq_true rfl) lk_Mo_0 rfl) (cn_X11_canTie l G hG ad x2 x3) rfl (fun r11 => ?_)
      refine s_if_eq (pc := 10) (tgt := 19) (dc dl_X11_does 6 rfl) rfl ?_ ?_
      · exact s_wk (hj1 ()) rfl
      · refine s_aload_n (pc := 13) (dc dl_X11_does 7 rfl) rfl rfl ?_
        refine s_iload_n (pc := 14) (dc dl_X11_does 8 rfl) rfl rfl ?_
        refine s_iload_n (pc := 15) (dc dl_X11_does 9 rfl) rfl rfl ?_
        refine s_callv (pc := 16) (rest := []) hG (calls_V (mi := mX11_does) (o := 0) (As := [.int x2, .int x3]) (rest := []) hG (dc dl_X11_does 10 rfl) mo_X11_isTied mv_X11_isTied ml_X11_377 ⟨Nat.le_of_ble_eq_true rfl, Nat.le_of_ble_eq_true rfl⟩ rfl rfl (Nat.le_of_ble_eq_true rfl) lk_Mo_0 rfl) (cn_X11_isTied l G hG ad x2 x3) rfl (fun r12 => ?_)
        exact s_wk (hj1 ()) rfl
    · exact s_wk (hj1 ()) rfl
def gX11_act (x1 x2 x3 : Int32) : MM Int32 :=
  bd (sv 0 0 0) fun _ =>
  bd (gX11_canAct x1 x2 x3) fun r1 =>
  (if r1 = 0 then
  rz 0
  else
  bd gX11_keepsAhead fun r2 =>
  bd (gX11_does x1 x2 x3) fun r3 =>
  rz 1)
set_option maxHeartbeats 4000000 in
theorem cn_X11_act (l : Launch) (G : Gl) (hG : gOk G) (ad : Nat → Nat) (x1 x2 x3 : Int32) : Cn l G mX11_act 7 lay_Mo ad [.ref (ad 0), .int x1, .int x2, .int x3] (gX11_act x1 x2 x3) := by
  refine cn_of (lv := [some (.ref (ad 0)), some (.int x1), some (.int x2), some (.int x3)]) (by decide +kernel) rfl (Nat.le_of_ble_eq_true rfl) rfl ?_
  unfold gX11_act
  refine s_aload_n (pc := 0) (dc dl_X11_act 0 rfl) rfl rfl ?_
  refine s_iconst (pc := 1) (v := 0) (dc dl_X11_act 1 rfl) ic_0 ?_
  refine s_putI (pc := 2) fw_X11_125 lk_Mo_0 kk_Mo_0_0 (dc dl_X11_act 2 rfl) ?_
  refine s_aload_n (pc := 5) (dc dl_X11_act 3 rfl) rfl rfl ?_
  refine s_iload_n (pc := 6) (dc dl_X11_act 4 rfl) rfl rfl ?_
  refine s_iload_n (pc := 7) (dc dl_X11_act 5 rfl) rfl rfl ?_
  refine s_iload_n (pc := 8) (dc dl_X11_act 6 rfl) rfl rfl ?_
  refine s_call (pc := 9) (rest := []) hG (calls_V (mi := mX11_act) (o := 0) (As := [.int x1, .int x2, .int x3]) (rest := []) hG (dc dl_X11_act 7 rfl) mo_X11_canAct mv_X11_canAct ml_X11_386 ⟨Nat.le_of_ble_eq_true rfl, Nat.le_of_ble_eq_true rfl⟩ rfl rfl (Nat.le_of_ble_eq_true rfl) lk_Mo_0 rfl) (cn_X11_canAct l G hG ad x1 x2 x3) rfl (fun r1 => ?_)
  refine s_if_ne (pc := 12) (tgt := 17) (dc dl_X11_act 8 rfl) rfl ?_ ?_
  · refine s_iconst (pc := 15) (v := 0) (dc dl_X11_act 9 rfl) ic_0 ?_
    exact s_zreturn (pc := 16) rfl (dc dl_X11_act 10 rfl)
  · refine s_aload_n (pc := 17) (dc dl_X11_act 11 rfl) rfl rfl ?_
    refine s_callv (pc := 18) (rest := []) hG (calls_V (mi := mX11_act) (o := 0) (As := []) (rest := []) hG (dc dl_X11_act 12 rfl) mo_X11_keepsAhead mv_X11_keepsAhead ml_X11_389 ⟨Nat.le_of_ble_eq_true rfl, Nat.le_of_ble_eq_true rfl⟩ rfl rfl (Nat.le_of_ble_eq_true rfl) lk_Mo_0 rfl) (cn_X11_keepsAhead l G hG ad) rfl (fun r2 => ?_)
    refine s_aload_n (pc := 21) (dc dl_X11_act 13 rfl) rfl rfl ?_
    refine s_iload_n (pc := 22) (dc dl_X11_act 14 rfl) rfl rfl ?_
    refine s_iload_n (pc := 23) (dc dl_X11_act 15 rfl) rfl rfl ?_
    refine s_iload_n (pc := 24) (dc dl_X11_act 16 rfl) rfl rfl ?_
    refine s_callv (pc := 25) (rest := []) hG (calls_V (mi := mX11_act) (o := 0) (As := [.int x1, .int x2, .int x3]) (rest := []) hG (dc dl_X11_act 17 rfl) mo_X11_does mv_X11_does ml_X11_392 ⟨Nat.le_of_ble_eq_true rfl, Nat.le_of_ble_eq_true rfl⟩ rfl rfl (Nat.le_of_ble_eq_true rfl) lk_Mo_0 rfl) (cn_X11_does l G hG ad x1 x2 x3) rfl (fun r3 => ?_)
    refine s_iconst (pc := 28) (v := 1) (dc dl_X11_act 18 rfl) ic_1 ?_
    exact s_zreturn (pc := 29) rfl (dc dl_X11_act 19 rfl)
def gX11_comesDue (x1 : Int32) : MM Int32 :=
  bd (gX11_inCloth x1) fun r1 =>
  jn (fun (a3 : Int32) =>
  bd (la 4 x1) fun v4 =>
  jn (fun (a6 : Int32) =>
  jn (fun (a8 : Int32) =>
  bd (gX11_notes a6 x1 a8) fun r9 =>
  jn (fun (a11 : Int32) =>
  bd (sa 1 (163 + x1) a11) fun _ =>
  bd (la 1 (15 + v4)) fun v12 =>
  jn (fun (a14 : Int32) =>
  bd (sa 1 (15 + v4) (v12 + a14)) fun _ =>
  bd (la 1 (27 + v4)) fun v15 =>
  jn (fun (a17 : Int32) =>
  bd (sa 1 (27 + v4) (v15 + a17)) fun _ =>
  bd (gX11_comesOut x1) fun r18 =>
  rz a3) (fun j16 =>
  (if a3 = 0 then
  j16 1
  else
  j16 0))) (fun j13 =>
  (if a3 = 0 then
  j13 0
  else
  j13 1))) (fun j10 =>
  (if a3 = 0 then
  j10 2
  else
  j10 1))) (fun j7 =>
  (if r1 = ((-1)) then
  j7 ((-1))
  else
  bd (la 1 (39 + r1)) fun v19 =>
  j7 v19))) (fun j5 =>
  (if a3 = 0 then
  j5 3
  else
  j5 2))) (fun j2 =>
  jn (fun (a21 : Unit) =>
  j2 0) (fun j20 =>
  (if r1 = ((-1)) then
  j20 ()
  else
  bd (la 1 (39 + r1)) fun v22 =>
  bd (la 4 x1) fun v23 =>
  jn (fun (a25 : Unit) =>
  j2 1) (fun j24 =>
  (if v22 = v23 then
  j24 ()
  else
  bd (gX11_tellsOf x1) fun r26 =>
  bd (gX11_happens r26) fun r27 =>
  (if r27 = 0 then
  j20 ()
  else
  j24 ()))))))
set_option maxHeartbeats 4000000 in
theorem cn_X11_comesDue (l : Launch) (G : Gl) (hG : gOk G) (ad : Nat → Nat) (x1 : Int32) : Cn l G mX11_comesDue 5 lay_Mo ad [.ref (ad 0), .int x1] (gX11_comesDue x1) := by
  refine cn_of (lv := [some (.ref (ad 0)), some (.int x1), none, none, none]) (by decide +kernel) rfl (Nat.le_of_ble_eq_true rfl) rfl ?_
  unfold gX11_comesDue
  refine s_aload_n (pc := 0) (dc dl_X11_comesDue 0 rfl) rfl rfl ?_
  refine s_iload_n (pc := 1) (dc dl_X11_comesDue 1 rfl) rfl rfl ?_
  refine s_call (pc := 2) (rest := []) hG (calls_V (mi := mX11_comesDue) (o := 0) (As := [.int x1]) (rest := []) hG (dc dl_X11_comesDue 2 rfl) mo_X11_inCloth mv_X11_inCloth ml_X11_167 ⟨Nat.le_of_ble_eq_true rfl, Nat.le_of_ble_eq_true rfl⟩ rfl rfl (Nat.le_of_ble_eq_true rfl) lk_Mo_0 rfl) (cn_X11_inCloth l G hG ad x1) rfl (fun r1 => ?_)
  refine s_istore_n (pc := 5) (lv' := [some (.ref (ad 0)), some (.int x1), some (.int r1), none, none]) (dc dl_X11_comesDue 3 rfl) rfl (Nat.le_of_ble_eq_true rfl) rfl ?_
  refine s_iload_n (pc := 6) (dc dl_X11_comesDue 4 rfl) rfl rfl ?_
  refine s_iconst (pc := 7) (v := (-1)) (dc dl_X11_comesDue 5 rfl) ic_m1 ?_
  refine s_jn (pj := 46) (fun a3 : Int32 => [some (.ref (ad 0)), some (.int x1), some (.int r1), none, none]) (fun a3 : Int32 => [.int a3]) (fun a3 => ?_) (fun j2 hj2 => ?_)
  · refine s_istore_n (pc := 46) (lv' := [some (.ref (ad 0)), some (.int x1), some (.int r1), some (.int a3), none]) (dc dl_X11_comesDue 27 rfl) rfl (Nat.le_of_ble_eq_true rfl) rfl ?_
    refine s_aload_n (pc := 47) (dc dl_X11_comesDue 28 rfl) rfl rfl ?_
    refine s_getR (pc := 48) fl_X11_19 lk_Mo_0 kk_Mo_0_9 (dc dl_X11_comesDue 29 rfl) ?_
    refine s_iload_n (pc := 51) (dc dl_X11_comesDue 30 rfl) rfl rfl ?_
    refine s_iald (pc := 52) lk_Mo_4 (dc dl_X11_comesDue 31 rfl) (fun v4 => ?_)
    refine s_istore (pc := 53) (lv' := [some (.ref (ad 0)), some (.int x1), some (.int r1), some (.int a3), some (.int v4)]) (dc dl_X11_comesDue 32 rfl) (Nat.le_of_ble_eq_true rfl) rfl ?_
    refine s_aload_n (pc := 55) (dc dl_X11_comesDue 33 rfl) rfl rfl ?_
    refine s_iload_n (pc := 56) (dc dl_X11_comesDue 34 rfl) rfl rfl ?_
    refine s_jn (pj := 65) (fun a6 : Int32 => [some (.ref (ad 0)), some (.int x1), some (.int r1), some (.int a3), some (.int v4)]) (fun a6 : Int32 => [.int a6, .ref (ad 0)]) (fun a6 => ?_) (fun j5 hj5 => ?_)
    · refine s_iload_n (pc := 65) (dc dl_X11_comesDue 39 rfl) rfl rfl ?_
      refine s_iload_n (pc := 66) (dc dl_X11_comesDue 40 rfl) rfl rfl ?_
      refine s_iconst (pc := 67) (v := (-1)) (dc dl_X11_comesDue 41 rfl) ic_m1 ?_
      refine s_jn (pj := 84) (fun a8 : Int32 => [some (.ref (ad 0)), some (.int x1), none, some (.int a3), some (.int v4)]) (fun a8 : Int32 => [.int a8, .int x1, .int a6, .ref (ad 0)]) (fun a8 => ?_) (fun j7 hj7 => ?_)
      · refine s_callv (pc := 84) (rest := []) hG (calls_V (mi := mX11_comesDue) (o := 0) (As := [.int a6, .int x1, .int a8]) (rest := []) hG (dc dl_X11_comesDue 51 rfl) mo_X11_notes mv_X11_notes ml_X11_355 ⟨Nat.le_of_ble_eq_true rfl, Nat.le_of_ble_eq_true rfl⟩ rfl rfl (Nat.le_of_ble_eq_true rfl) lk_Mo_0 rfl) (cn_X11_notes l G hG ad a6 x1 a8) rfl (fun r9 => ?_)
        refine s_aload_n (pc := 87) (dc dl_X11_comesDue 52 rfl) rfl rfl ?_
        refine s_getR (pc := 88) fl_X11_7 lk_Mo_0 kk_Mo_0_1 (dc dl_X11_comesDue 53 rfl) ?_
        refine s_sipush (pc := 91) (v := 163) (dc dl_X11_comesDue 54 rfl) si_163 ?_
        refine s_iload_n (pc := 94) (dc dl_X11_comesDue 55 rfl) rfl rfl ?_
        refine s_iadd (pc := 95) (dc dl_X11_comesDue 56 rfl) ?_
        refine s_iload_n (pc := 96) (dc dl_X11_comesDue 57 rfl) rfl rfl ?_
        refine s_jn (pj := 105) (fun a11 : Int32 => [some (.ref (ad 0)), some (.int x1), none, some (.int a3), some (.int v4)]) (fun a11 : Int32 => [.int a11, .int (163 + x1), .ref (ad 1)]) (fun a11 => ?_) (fun j10 hj10 => ?_)
        · refine s_iast (pc := 105) lk_Mo_1 (dc dl_X11_comesDue 62 rfl) ?_
          refine s_aload_n (pc := 106) (dc dl_X11_comesDue 63 rfl) rfl rfl ?_
          refine s_getR (pc := 107) fl_X11_7 lk_Mo_0 kk_Mo_0_1 (dc dl_X11_comesDue 64 rfl) ?_
          refine s_bipush (pc := 110) (v := 15) (dc dl_X11_comesDue 65 rfl) bi_15 ?_
          refine s_iload (pc := 112) (dc dl_X11_comesDue 66 rfl) rfl ?_
          refine s_iadd (pc := 114) (dc dl_X11_comesDue 67 rfl) ?_
          refine s_aload_n (pc := 115) (dc dl_X11_comesDue 68 rfl) rfl rfl ?_
          refine s_getR (pc := 116) fl_X11_7 lk_Mo_0 kk_Mo_0_1 (dc dl_X11_comesDue 69 rfl) ?_
          refine s_bipush (pc := 119) (v := 15) (dc dl_X11_comesDue 70 rfl) bi_15 ?_
          refine s_iload (pc := 121) (dc dl_X11_comesDue 71 rfl) rfl ?_
          refine s_iadd (pc := 123) (dc dl_X11_comesDue 72 rfl) ?_
          refine s_iald (pc := 124) lk_Mo_1 (dc dl_X11_comesDue 73 rfl) (fun v12 => ?_)
          refine s_iload_n (pc := 125) (dc dl_X11_comesDue 74 rfl) rfl rfl ?_
          refine s_jn (pj := 134) (fun a14 : Int32 => [some (.ref (ad 0)), some (.int x1), none, some (.int a3), some (.int v4)]) (fun a14 : Int32 => [.int a14, .int v12, .int (15 + v4), .ref (ad 1)]) (fun a14 => ?_) (fun j13 hj13 => ?_)
          · refine s_iadd (pc := 134) (dc dl_X11_comesDue 79 rfl) ?_
            refine s_iast (pc := 135) lk_Mo_1 (dc dl_X11_comesDue 80 rfl) ?_
            refine s_aload_n (pc := 136) (dc dl_X11_comesDue 81 rfl) rfl rfl ?_
            refine s_getR (pc := 137) fl_X11_7 lk_Mo_0 kk_Mo_0_1 (dc dl_X11_comesDue 82 rfl) ?_
            refine s_bipush (pc := 140) (v := 27) (dc dl_X11_comesDue 83 rfl) bi_27 ?_
            refine s_iload (pc := 142) (dc dl_X11_comesDue 84 rfl) rfl ?_
            refine s_iadd (pc := 144) (dc dl_X11_comesDue 85 rfl) ?_
            refine s_aload_n (pc := 145) (dc dl_X11_comesDue 86 rfl) rfl rfl ?_
            refine s_getR (pc := 146) fl_X11_7 lk_Mo_0 kk_Mo_0_1 (dc dl_X11_comesDue 87 rfl) ?_
            refine s_bipush (pc := 149) (v := 27) (dc dl_X11_comesDue 88 rfl) bi_27 ?_
            refine s_iload (pc := 151) (dc dl_X11_comesDue 89 rfl) rfl ?_
            refine s_iadd (pc := 153) (dc dl_X11_comesDue 90 rfl) ?_
            refine s_iald (pc := 154) lk_Mo_1 (dc dl_X11_comesDue 91 rfl) (fun v15 => ?_)
            refine s_iload_n (pc := 155) (dc dl_X11_comesDue 92 rfl) rfl rfl ?_
            refine s_jn (pj := 164) (fun a17 : Int32 => [some (.ref (ad 0)), some (.int x1), none, some (.int a3), none]) (fun a17 : Int32 => [.int a17, .int v15, .int (27 + v4), .ref (ad 1)]) (fun a17 => ?_) (fun j16 hj16 => ?_)
            · refine s_iadd (pc := 164) (dc dl_X11_comesDue 97 rfl) ?_
              refine s_iast (pc := 165) lk_Mo_1 (dc dl_X11_comesDue 98 rfl) ?_
              refine s_aload_n (pc := 166) (dc dl_X11_comesDue 99 rfl) rfl rfl ?_
              refine s_iload_n (pc := 167) (dc dl_X11_comesDue 100 rfl) rfl rfl ?_
              refine s_callv (pc := 168) (rest := []) hG (calls_V (mi := mX11_comesDue) (o := 0) (As := [.int x1]) (rest := []) hG (dc dl_X11_comesDue 101 rfl) mo_X11_comesOut mv_X11_comesOut ml_X11_371 ⟨Nat.le_of_ble_eq_true rfl, Nat.le_of_ble_eq_true rfl⟩ rfl rfl (Nat.le_of_ble_eq_true rfl) lk_Mo_0 rfl) (cn_X11_comesOut l G hG ad x1) rfl (fun r18 => ?_)
              refine s_iload_n (pc := 171) (dc dl_X11_comesDue 102 rfl) rfl rfl ?_
              exact s_zreturn (pc := 172) rfl (dc dl_X11_comesDue 103 rfl)
            · refine s_if_eq (pc := 156) (tgt := 163) (dc dl_X11_comesDue 93 rfl) rfl ?_ ?_
              · refine s_iconst (pc := 163) (v := 1) (dc dl_X11_comesDue 96 rfl) ic_1 ?_
                exact s_wk (hj16 1) rfl
              · refine s_iconst (pc := 159) (v := 0) (dc dl_X11_comesDue 94 rfl) ic_0 ?_
                refine s_goto (pc := 160) (tgt := 164) (dc dl_X11_comesDue 95 rfl) rfl ?_
                exact s_wk (hj16 0) rfl
          · refine s_if_eq (pc := 126) (tgt := 133) (dc dl_X11_comesDue 75 rfl) rfl ?_ ?_
            · refine s_iconst (pc := 133) (v := 0) (dc dl_X11_comesDue 78 rfl) ic_0 ?_
              exact s_wk (hj13 0) rfl
            · refine s_iconst (pc := 129) (v := 1) (dc dl_X11_comesDue 76 rfl) ic_1 ?_
              refine s_goto (pc := 130) (tgt := 134) (dc dl_X11_comesDue 77 rfl) rfl ?_
              exact s_wk (hj13 1) rfl
        · refine s_if_eq (pc := 97) (tgt := 104) (dc dl_X11_comesDue 58 rfl) rfl ?_ ?_
          · refine s_iconst (pc := 104) (v := 2) (dc dl_X11_comesDue 61 rfl) ic_2 ?_
            exact s_wk (hj10 2) rfl
          · refine s_iconst (pc := 100) (v := 1) (dc dl_X11_comesDue 59 rfl) ic_1 ?_
            refine s_goto (pc := 101) (tgt := 105) (dc dl_X11_comesDue 60 rfl) rfl ?_
            exact s_wk (hj10 1) rfl
      · refine s_icmp_ne (pc := 68) (tgt := 75) (dc dl_X11_comesDue 42 rfl) rfl ?_ ?_
        · refine s_iconst (pc := 71) (v := (-1)) (dc dl_X11_comesDue 43 rfl) ic_m1 ?_
          refine s_goto (pc := 72) (tgt := 84) (dc dl_X11_comesDue 44 rfl) rfl ?_
          exact s_wk (hj7 ((-1))) rfl
        · refine s_aload_n (pc := 75) (dc dl_X11_comesDue 45 rfl) rfl rfl ?_
          refine s_getR (pc := 76) fl_X11_7 lk_Mo_0 kk_Mo_0_1 (dc dl_X11_comesDue 46 rfl) ?_
          refine s_bipush (pc := 79) (v := 39) (dc dl_X11_comesDue 47 rfl) bi_39 ?_
          refine s_iload_n (pc := 81) (dc dl_X11_comesDue 48 rfl) rfl rfl ?_
          refine s_iadd (pc := 82) (dc dl_X11_comesDue 49 rfl) ?_
          refine s_iald (pc := 83) lk_Mo_1 (dc dl_X11_comesDue 50 rfl) (fun v19 => ?_)
          exact s_wk (hj7 v19) rfl
    · refine s_if_eq (pc := 57) (tgt := 64) (dc dl_X11_comesDue 35 rfl) rfl ?_ ?_
      · refine s_iconst (pc := 64) (v := 3) (dc dl_X11_comesDue 38 rfl) ic_3 ?_
        exact s_wk (hj5 3) rfl
      · refine s_iconst (pc := 60) (v := 2) (dc dl_X11_comesDue 36 rfl) ic_2 ?_
        refine s_goto (pc := 61) (tgt := 65) (dc dl_X11_comesDue 37 rfl) rfl ?_
        exact s_wk (hj5 2) rfl
  · refine s_jn (pj := 45) (fun a21 : Unit => [some (.ref (ad 0)), some (.int x1), some (.int r1), none, none]) (fun a21 : Unit => []) (fun a21 => ?_) (fun j20 hj20 => ?_)
    · refine s_iconst (pc := 45) (v := 0) (dc dl_X11_comesDue 26 rfl) ic_0 ?_
      exact s_wk (hj2 0) rfl
    · refine s_icmp_eq (pc := 8) (tgt := 45) (dc dl_X11_comesDue 6 rfl) rfl ?_ ?_
      · exact s_wk (hj20 ()) rfl
      · refine s_aload_n (pc := 11) (dc dl_X11_comesDue 7 rfl) rfl rfl ?_
        refine s_getR (pc := 12) fl_X11_7 lk_Mo_0 kk_Mo_0_1 (dc dl_X11_comesDue 8 rfl) ?_
        refine s_bipush (pc := 15) (v := 39) (dc dl_X11_comesDue 9 rfl) bi_39 ?_
        refine s_iload_n (pc := 17) (dc dl_X11_comesDue 10 rfl) rfl rfl ?_
        refine s_iadd (pc := 18) (dc dl_X11_comesDue 11 rfl) ?_
        refine s_iald (pc := 19) lk_Mo_1 (dc dl_X11_comesDue 12 rfl) (fun v22 => ?_)
        refine s_aload_n (pc := 20) (dc dl_X11_comesDue 13 rfl) rfl rfl ?_
        refine s_getR (pc := 21) fl_X11_19 lk_Mo_0 kk_Mo_0_9 (dc dl_X11_comesDue 14 rfl) ?_
        refine s_iload_n (pc := 24) (dc dl_X11_comesDue 15 rfl) rfl rfl ?_
        refine s_iald (pc := 25) lk_Mo_4 (dc dl_X11_comesDue 16 rfl) (fun v23 => ?_)
        refine s_jn (pj := 41) (fun a25 : Unit => [some (.ref (ad 0)), some (.int x1), some (.int r1), none, none]) (fun a25 : Unit => []) (fun a25 => ?_) (fun j24 hj24 => ?_)
        · refine s_iconst (pc := 41) (v := 1) (dc dl_X11_comesDue 24 rfl) ic_1 ?_
          refine s_goto (pc := 42) (tgt := 46) (dc dl_X11_comesDue 25 rfl) rfl ?_
          exact s_wk (hj2 1) rfl
        · refine s_icmp_eq (pc := 26) (tgt := 41) (dc dl_X11_comesDue 17 rfl) rfl ?_ ?_
          · exact s_wk (hj24 ()) rfl
          · refine s_aload_n (pc := 29) (dc dl_X11_comesDue 18 rfl) rfl rfl ?_
            refine s_aload_n (pc := 30) (dc dl_X11_comesDue 19 rfl) rfl rfl ?_
            refine s_iload_n (pc := 31) (dc dl_X11_comesDue 20 rfl) rfl rfl ?_
            refine s_call (pc := 32) (rest := [.ref (ad 0)]) hG (calls_V (mi := mX11_comesDue) (o := 0) (As := [.int x1]) (rest := [.ref (ad 0)]) hG (dc dl_X11_comesDue 21 rfl) mo_X11_tellsOf mv_X11_tellsOf ml_X11_395 ⟨Nat.le_of_ble_eq_true rfl, Nat.le_of_ble_eq_true rfl⟩ rfl rfl (Nat.le_of_ble_eq_true rfl) lk_Mo_0 rfl) (cn_X11_tellsOf l G hG ad x1) rfl (fun r26 => ?_)
            refine s_call (pc := 35) (rest := []) hG (calls_V (mi := mX11_comesDue) (o := 0) (As := [.int r26]) (rest := []) hG (dc dl_X11_comesDue 22 rfl) mo_X11_happens mv_X11_happens ml_X11_368 ⟨Nat.le_of_ble_eq_true rfl, Nat.le_of_ble_eq_true rfl⟩ rfl rfl (Nat.le_of_ble_eq_true rfl) lk_Mo_0 rfl) (cn_X11_happens l G hG ad r26) rfl (fun r27 => ?_)
            refine s_if_eq (pc := 38) (tgt := 45) (dc dl_X11_comesDue 23 rfl) rfl ?_ ?_
            · exact s_wk (hj20 ()) rfl
            · exact s_wk (hj24 ()) rfl
def gX11_goesBy : MM Int32 :=
  loopC 100000 (fun (self1 : Int32 → MM Int32) (s2 : Int32) =>
  bd (ld 0 37) fun v3 =>
  (if (3 * v3) ≤ s2 then
  loopC 100000 (fun (self4 : Int32 → MM Int32) (s5 : Int32) =>
  bd (ld 0 35) fun v6 =>
  (if (4 * v6) ≤ s5 then
  loopC 100000 (fun (self7 : (Int32 × Int32) → MM Int32) (s8 : Int32 × Int32) =>
  bd (ld 0 8) fun v9 =>
  (if v9 ≤ s8.2 then
  bd (la 1 0) fun v10 =>
  bd (sa 1 0 (v10 + 1)) fun _ =>
  pr s8.1
  else
  bd (gX11_isOpen s8.2) fun r11 =>
  jn (fun (a13 : Int32) =>
  lt (s8.2 + 1) fun y14 =>
  self7 (a13, y14)) (fun j12 =>
  (if r11 = 0 then
  j12 s8.1
  else
  bd (la 5 s8.2) fun v15 =>
  bd (la 1 0) fun v16 =>
  (if v15 = v16 then
  bd (gX11_comesDue s8.2) fun r17 =>
  (if r17 = 0 then
  j12 s8.1
  else
  lt (s8.1 + 1) fun y18 =>
  j12 y18)
  else
  j12 s8.1))))) (0, 0)
  else
  bd (la 17 s5) fun v19 =>
  bd (la 1 0) fun v20 =>
  jn (fun (a22 : Unit) =>
  lt (s5 + 4) fun y23 =>
  self4 y23) (fun j21 =>
  (if v19 = v20 then
  bd (la 17 (s5 + 1)) fun v24 =>
  bd (la 17 (s5 + 2)) fun v25 =>
  bd (la 17 (s5 + 3)) fun v26 =>
  bd (gX11_does v24 v25 v26) fun r27 =>
  j21 ()
  else
  j21 ())))) 0
  else
  bd (la 18 s2) fun v28 =>
  bd (la 1 0) fun v29 =>
  jn (fun (a31 : Unit) =>
  lt (s2 + 3) fun y32 =>
  self1 y32) (fun j30 =>
  (if v28 = v29 then
  bd (la 18 (s2 + 1)) fun v33 =>
  bd (la 18 (s2 + 2)) fun v34 =>
  bd (sa 1 (3 + v33) v34) fun _ =>
  j30 ()
  else
  j30 ())))) 0
set_option maxHeartbeats 4000000 in
theorem cn_X11_goesBy (l : Launch) (G : Gl) (hG : gOk G) (ad : Nat → Nat) : Cn l G mX11_goesBy 7 lay_Mo ad [.ref (ad 0)] (gX11_goesBy) := by
  refine cn_of (lv := [some (.ref (ad 0)), none, none]) (by decide +kernel) rfl (Nat.le_of_ble_eq_true rfl) rfl ?_
  unfold gX11_goesBy
  refine s_iconst (pc := 0) (v := 0) (dc dl_X11_goesBy 0 rfl) ic_0 ?_
  refine s_istore_n (pc := 1) (lv' := [some (.ref (ad 0)), some (.int 0), none]) (dc dl_X11_goesBy 1 rfl) rfl (Nat.le_of_ble_eq_true rfl) rfl ?_
  refine s_weak (lv' := [some (.ref (ad 0)), some (.int 0), none]) rfl ?_
  refine s_loop (pc := 2) (fun s2 : Int32 => [some (.ref (ad 0)), some (.int s2), none]) [] (fun self1 hself1 s2 => ?_) _ 0
  refine s_iload_n (pc := 2) (dc dl_X11_goesBy 2 rfl) rfl rfl ?_
  refine s_iconst (pc := 3) (v := 3) (dc dl_X11_goesBy 3 rfl) ic_3 ?_
  refine s_aload_n (pc := 4) (dc dl_X11_goesBy 4 rfl) rfl rfl ?_
  refine s_getI (pc := 5) fl_X11_308 lk_Mo_0 kk_Mo_0_37 (dc dl_X11_goesBy 5 rfl) (fun v3 => ?_)
  refine s_imul (pc := 8) (dc dl_X11_goesBy 6 rfl) ?_
  refine s_icmp_ge (pc := 9) (tgt := 57) (dc dl_X11_goesBy 7 rfl) rfl ?_ ?_
  · refine s_iconst (pc := 57) (v := 0) (dc dl_X11_goesBy 39 rfl) ic_0 ?_
    refine s_istore_n (pc := 58) (lv' := [some (.ref (ad 0)), some (.int 0), none]) (dc dl_X11_goesBy 40 rfl) rfl (Nat.le_of_ble_eq_true rfl) rfl ?_
    refine s_weak (lv' := [some (.ref (ad 0)), some (.int 0), none]) rfl ?_
    refine s_loop (pc := 59) (fun s5 : Int32 => [some (.ref (ad 0)), some (.int s5), none]) [] (fun self4 hself4 s5 => ?_) _ 0
    refine s_iload_n (pc := 59) (dc dl_X11_goesBy 41 rfl) rfl rfl ?_
    refine s_iconst (pc := 60) (v := 4) (dc dl_X11_goesBy 42 rfl) ic_4 ?_
    refine s_aload_n (pc := 61) (dc dl_X11_goesBy 43 rfl) rfl rfl ?_
    refine s_getI (pc := 62) fl_X11_305 lk_Mo_0 kk_Mo_0_35 (dc dl_X11_goesBy 44 rfl) (fun v6 => ?_)
    refine s_imul (pc := 65) (dc dl_X11_goesBy 45 rfl) ?_
    refine s_icmp_ge (pc := 66) (tgt := 119) (dc dl_X11_goesBy 46 rfl) rfl ?_ ?_
    · refine s_iconst (pc := 119) (v := 0) (dc dl_X11_goesBy 81 rfl) ic_0 ?_
      refine s_istore_n (pc := 120) (lv' := [some (.ref (ad 0)), some (.int 0), none]) (dc dl_X11_goesBy 82 rfl) rfl (Nat.le_of_ble_eq_true rfl) rfl ?_
      refine s_iconst (pc := 121) (v := 0) (dc dl_X11_goesBy 83 rfl) ic_0 ?_
      refine s_istore_n (pc := 122) (lv' := [some (.ref (ad 0)), some (.int 0), some (.int 0)]) (dc dl_X11_goesBy 84 rfl) rfl (Nat.le_of_ble_eq_true rfl) rfl ?_
      refine s_weak (lv' := [some (.ref (ad 0)), some (.int 0), some (.int 0)]) rfl ?_
      refine s_loop (pc := 123) (fun s8 : Int32 × Int32 => [some (.ref (ad 0)), some (.int s8.1), some (.int s8.2)]) [] (fun self7 hself7 s8 => ?_) _ (0, 0)
      refine s_iload_n (pc := 123) (dc dl_X11_goesBy 85 rfl) rfl rfl ?_
      refine s_aload_n (pc := 124) (dc dl_X11_goesBy 86 rfl) rfl rfl ?_
      refine s_getI (pc := 125) fl_X11_143 lk_Mo_0 kk_Mo_0_8 (dc dl_X11_goesBy 87 rfl) (fun v9 => ?_)
      refine s_icmp_ge (pc := 128) (tgt := 172) (dc dl_X11_goesBy 88 rfl) rfl ?_ ?_
      · refine s_aload_n (pc := 172) (dc dl_X11_goesBy 112 rfl) rfl rfl ?_
        refine s_getR (pc := 173) fl_X11_7 lk_Mo_0 kk_Mo_0_1 (dc dl_X11_goesBy 113 rfl) ?_
        refine s_iconst (pc := 176) (v := 0) (dc dl_X11_goesBy 114 rfl) ic_0 ?_
        refine s_aload_n (pc := 177) (dc dl_X11_goesBy 115 rfl) rfl rfl ?_
        refine s_getR (pc := 178) fl_X11_7 lk_Mo_0 kk_Mo_0_1 (dc dl_X11_goesBy 116 rfl) ?_
        refine s_iconst (pc := 181) (v := 0) (dc dl_X11_goesBy 117 rfl) ic_0 ?_
        refine s_iald (pc := 182) lk_Mo_1 (dc dl_X11_goesBy 118 rfl) (fun v10 => ?_)
        refine s_iconst (pc := 183) (v := 1) (dc dl_X11_goesBy 119 rfl) ic_1 ?_
        refine s_iadd (pc := 184) (dc dl_X11_goesBy 120 rfl) ?_
        refine s_iast (pc := 185) lk_Mo_1 (dc dl_X11_goesBy 121 rfl) ?_
        refine s_iload_n (pc := 186) (dc dl_X11_goesBy 122 rfl) rfl rfl ?_
        exact s_ireturn (pc := 187) rfl (dc dl_X11_goesBy 123 rfl)
      · refine s_aload_n (pc := 131) (dc dl_X11_goesBy 89 rfl) rfl rfl ?_
        refine s_iload_n (pc := 132) (dc dl_X11_goesBy 90 rfl) rfl rfl ?_
        refine s_call (pc := 133) (rest := []) hG (calls_V (mi := mX11_goesBy) (o := 0) (As := [.int s8.2]) (rest := []) hG (dc dl_X11_goesBy 91 rfl) mo_X11_isOpen mv_X11_isOpen ml_X11_164 ⟨Nat.le_of_ble_eq_true rfl, Nat.le_of_ble_eq_true rfl⟩ rfl rfl (Nat.le_of_ble_eq_true rfl) lk_Mo_0 rfl) (cn_X11_isOpen l G hG ad s8.2) rfl (fun r11 => ?_)
        refine s_jn (pj := 166) (fun a13 : Int32 => [some (.ref (ad 0)), some (.int a13), some (.int s8.2)]) (fun a13 : Int32 => []) (fun a13 => ?_) (fun j12 hj12 => ?_)
        · refine s_iincL (pc := 166) (lf' := fun y14 => [some (.ref (ad 0)), some (.int a13), some (.int y14)]) (dc dl_X11_goesBy 110 rfl) rfl rfl (Nat.le_of_ble_eq_true rfl) (fun _ => rfl) (fun y14 => ?_)
          refine s_goto (pc := 169) (tgt := 123) (dc dl_X11_goesBy 111 rfl) rfl ?_
          exact s_wk (hself7 (a13, y14)) rfl
        · refine s_if_eq (pc := 136) (tgt := 166) (dc dl_X11_goesBy 92 rfl) rfl ?_ ?_
          · exact s_wk (hj12 s8.1) rfl
          · refine s_aload_n (pc := 139) (dc dl_X11_goesBy 93 rfl) rfl rfl ?_
            refine s_getR (pc := 140) fl_X11_22 lk_Mo_0 kk_Mo_0_10 (dc dl_X11_goesBy 94 rfl) ?_
            refine s_iload_n (pc := 143) (dc dl_X11_goesBy 95 rfl) rfl rfl ?_
            refine s_iald (pc := 144) lk_Mo_5 (dc dl_X11_goesBy 96 rfl) (fun v15 => ?_)
            refine s_aload_n (pc := 145) (dc dl_X11_goesBy 97 rfl) rfl rfl ?_
            refine s_getR (pc := 146) fl_X11_7 lk_Mo_0 kk_Mo_0_1 (dc dl_X11_goesBy 98 rfl) ?_
            refine s_iconst (pc := 149) (v := 0) (dc dl_X11_goesBy 99 rfl) ic_0 ?_
            refine s_iald (pc := 150) lk_Mo_1 (dc dl_X11_goesBy 100 rfl) (fun v16 => ?_)
            refine s_icmp_ne (pc := 151) (tgt := 166) (dc dl_X11_goesBy 101 rfl) rfl ?_ ?_
            · refine s_aload_n (pc := 154) (dc dl_X11_goesBy 102 rfl) rfl rfl ?_
              refine s_iload_n (pc := 155) (dc dl_X11_goesBy 103 rfl) rfl rfl ?_
              refine s_call (pc := 156) (rest := []) hG (calls_V (mi := mX11_goesBy) (o := 0) (As := [.int s8.2]) (rest := []) hG (dc dl_X11_goesBy 104 rfl) mo_X11_comesDue mv_X11_comesDue ml_X11_398 ⟨Nat.le_of_ble_eq_true rfl, Nat.le_of_ble_eq_true rfl⟩ rfl rfl (Nat.le_of_ble_eq_true rfl) lk_Mo_0 rfl) (cn_X11_comesDue l G hG ad s8.2) rfl (fun r17 => ?_)
              refine s_if_eq (pc := 159) (tgt := 166) (dc dl_X11_goesBy 105 rfl) rfl ?_ ?_
              · exact s_wk (hj12 s8.1) rfl
              · refine s_iload_n (pc := 162) (dc dl_X11_goesBy 106 rfl) rfl rfl ?_
                refine s_iconst (pc := 163) (v := 1) (dc dl_X11_goesBy 107 rfl) ic_1 ?_
                refine s_iadd (pc := 164) (dc dl_X11_goesBy 108 rfl) ?_
                refine s_istore_nL (pc := 165) (lf' := fun y18 => [some (.ref (ad 0)), some (.int y18), some (.int s8.2)]) (dc dl_X11_goesBy 109 rfl) rfl (Nat.le_of_ble_eq_true rfl) (fun _ => rfl) (fun y18 => ?_)
                exact s_wk (hj12 y18) rfl
            · exact s_wk (hj12 s8.1) rfl
    · refine s_aload_n (pc := 69) (dc dl_X11_goesBy 47 rfl) rfl rfl ?_
      refine s_getR (pc := 70) fl_X11_62 lk_Mo_0 kk_Mo_0_36 (dc dl_X11_goesBy 48 rfl) ?_
      refine s_iload_n (pc := 73) (dc dl_X11_goesBy 49 rfl) rfl rfl ?_
      refine s_iald (pc := 74) lk_Mo_17 (dc dl_X11_goesBy 50 rfl) (fun v19 => ?_)
      refine s_aload_n (pc := 75) (dc dl_X11_goesBy 51 rfl) rfl rfl ?_
      refine s_getR (pc := 76) fl_X11_7 lk_Mo_0 kk_Mo_0_1 (dc dl_X11_goesBy 52 rfl) ?_
      refine s_iconst (pc := 79) (v := 0) (dc dl_X11_goesBy 53 rfl) ic_0 ?_
      refine s_iald (pc := 80) lk_Mo_1 (dc dl_X11_goesBy 54 rfl) (fun v20 => ?_)
      refine s_jn (pj := 112) (fun a22 : Unit => [some (.ref (ad 0)), some (.int s5), none]) (fun a22 : Unit => []) (fun a22 => ?_) (fun j21 hj21 => ?_)
      · refine s_iload_n (pc := 112) (dc dl_X11_goesBy 76 rfl) rfl rfl ?_
        refine s_iconst (pc := 113) (v := 4) (dc dl_X11_goesBy 77 rfl) ic_4 ?_
        refine s_iadd (pc := 114) (dc dl_X11_goesBy 78 rfl) ?_
        refine s_istore_nL (pc := 115) (lf' := fun y23 => [some (.ref (ad 0)), some (.int y23), none]) (dc dl_X11_goesBy 79 rfl) rfl (Nat.le_of_ble_eq_true rfl) (fun _ => rfl) (fun y23 => ?_)
        refine s_goto (pc := 116) (tgt := 59) (dc dl_X11_goesBy 80 rfl) rfl ?_
        exact s_wk (hself4 y23) rfl
      · refine s_icmp_ne (pc := 81) (tgt := 112) (dc dl_X11_goesBy 55 rfl) rfl ?_ ?_
        · refine s_aload_n (pc := 84) (dc dl_X11_goesBy 56 rfl) rfl rfl ?_
          refine s_aload_n (pc := 85) (dc dl_X11_goesBy 57 rfl) rfl rfl ?_
          refine s_getR (pc := 86) fl_X11_62 lk_Mo_0 kk_Mo_0_36 (dc dl_X11_goesBy 58 rfl) ?_
          refine s_iload_n (pc := 89) (dc dl_X11_goesBy 59 rfl) rfl rfl ?_
          refine s_iconst (pc := 90) (v := 1) (dc dl_X11_goesBy 60 rfl) ic_1 ?_
          refine s_iadd (pc := 91) (dc dl_X11_goesBy 61 rfl) ?_
          refine s_iald (pc := 92) lk_Mo_17 (dc dl_X11_goesBy 62 rfl) (fun v24 => ?_)
          refine s_aload_n (pc := 93) (dc dl_X11_goesBy 63 rfl) rfl rfl ?_
          refine s_getR (pc := 94) fl_X11_62 lk_Mo_0 kk_Mo_0_36 (dc dl_X11_goesBy 64 rfl) ?_
          refine s_iload_n (pc := 97) (dc dl_X11_goesBy 65 rfl) rfl rfl ?_
          refine s_iconst (pc := 98) (v := 2) (dc dl_X11_goesBy 66 rfl) ic_2 ?_
          refine s_iadd (pc := 99) (dc dl_X11_goesBy 67 rfl) ?_
          refine s_iald (pc := 100) lk_Mo_17 (dc dl_X11_goesBy 68 rfl) (fun v25 => ?_)
          refine s_aload_n (pc := 101) (dc dl_X11_goesBy 69 rfl) rfl rfl ?_
          refine s_getR (pc := 102) fl_X11_62 lk_Mo_0 kk_Mo_0_36 (dc dl_X11_goesBy 70 rfl) ?_
          refine s_iload_n (pc := 105) (dc dl_X11_goesBy 71 rfl) rfl rfl ?_
          refine s_iconst (pc := 106) (v := 3) (dc dl_X11_goesBy 72 rfl) ic_3 ?_
          refine s_iadd (pc := 107) (dc dl_X11_goesBy 73 rfl) ?_
          refine s_iald (pc := 108) lk_Mo_17 (dc dl_X11_goesBy 74 rfl) (fun v26 => ?_)
          refine s_callv (pc := 109) (rest := []) hG (calls_V (mi := mX11_goesBy) (o := 0) (As := [.int v24, .int v25, .int v26]) (rest := []) hG (dc dl_X11_goesBy 75 rfl) mo_X11_does mv_X11_does ml_X11_392 ⟨Nat.le_of_ble_eq_true rfl, Nat.le_of_ble_eq_true rfl⟩ rfl rfl (Nat.le_of_ble_eq_true rfl) lk_Mo_0 rfl) (cn_X11_does l G hG ad v24 v25 v26) rfl (fun r27 => ?_)
          exact s_wk (hj21 ()) rfl
        · exact s_wk (hj21 ()) rfl
  · refine s_aload_n (pc := 12) (dc dl_X11_goesBy 8 rfl) rfl rfl ?_
    refine s_getR (pc := 13) fl_X11_65 lk_Mo_0 kk_Mo_0_38 (dc dl_X11_goesBy 9 rfl) ?_
    refine s_iload_n (pc := 16) (dc dl_X11_goesBy 10 rfl) rfl rfl ?_
    refine s_iald (pc := 17) lk_Mo_18 (dc dl_X11_goesBy 11 rfl) (fun v28 => ?_)
    refine s_aload_n (pc := 18) (dc dl_X11_goesBy 12 rfl) rfl rfl ?_
    refine s_getR (pc := 19) fl_X11_7 lk_Mo_0 kk_Mo_0_1 (dc dl_X11_goesBy 13 rfl) ?_
    refine s_iconst (pc := 22) (v := 0) (dc dl_X11_goesBy 14 rfl) ic_0 ?_
    refine s_iald (pc := 23) lk_Mo_1 (dc dl_X11_goesBy 15 rfl) (fun v29 => ?_)
    refine s_jn (pj := 50) (fun a31 : Unit => [some (.ref (ad 0)), some (.int s2), none]) (fun a31 : Unit => []) (fun a31 => ?_) (fun j30 hj30 => ?_)
    · refine s_iload_n (pc := 50) (dc dl_X11_goesBy 34 rfl) rfl rfl ?_
      refine s_iconst (pc := 51) (v := 3) (dc dl_X11_goesBy 35 rfl) ic_3 ?_
      refine s_iadd (pc := 52) (dc dl_X11_goesBy 36 rfl) ?_
      refine s_istore_nL (pc := 53) (lf' := fun y32 => [some (.ref (ad 0)), some (.int y32), none]) (dc dl_X11_goesBy 37 rfl) rfl (Nat.le_of_ble_eq_true rfl) (fun _ => rfl) (fun y32 => ?_)
      refine s_goto (pc := 54) (tgt := 2) (dc dl_X11_goesBy 38 rfl) rfl ?_
      exact s_wk (hself1 y32) rfl
    · refine s_icmp_ne (pc := 24) (tgt := 50) (dc dl_X11_goesBy 16 rfl) rfl ?_ ?_
      · refine s_aload_n (pc := 27) (dc dl_X11_goesBy 17 rfl) rfl rfl ?_
        refine s_getR (pc := 28) fl_X11_7 lk_Mo_0 kk_Mo_0_1 (dc dl_X11_goesBy 18 rfl) ?_
        refine s_iconst (pc := 31) (v := 3) (dc dl_X11_goesBy 19 rfl) ic_3 ?_
        refine s_aload_n (pc := 32) (dc dl_X11_goesBy 20 rfl) rfl rfl ?_
        refine s_getR (pc := 33) fl_X11_65 lk_Mo_0 kk_Mo_0_38 (dc dl_X11_goesBy 21 rfl) ?_
        refine s_iload_n (pc := 36) (dc dl_X11_goesBy 22 rfl) rfl rfl ?_
        refine s_iconst (pc := 37) (v := 1) (dc dl_X11_goesBy 23 rfl) ic_1 ?_
        refine s_iadd (pc := 38) (dc dl_X11_goesBy 24 rfl) ?_
        refine s_iald (pc := 39) lk_Mo_18 (dc dl_X11_goesBy 25 rfl) (fun v33 => ?_)
        refine s_iadd (pc := 40) (dc dl_X11_goesBy 26 rfl) ?_
        refine s_aload_n (pc := 41) (dc dl_X11_goesBy 27 rfl) rfl rfl ?_
        refine s_getR (pc := 42) fl_X11_65 lk_Mo_0 kk_Mo_0_38 (dc dl_X11_goesBy 28 rfl) ?_
        refine s_iload_n (pc := 45) (dc dl_X11_goesBy 29 rfl) rfl rfl ?_
        refine s_iconst (pc := 46) (v := 2) (dc dl_X11_goesBy 30 rfl) ic_2 ?_
        refine s_iadd (pc := 47) (dc dl_X11_goesBy 31 rfl) ?_
        refine s_iald (pc := 48) lk_Mo_18 (dc dl_X11_goesBy 32 rfl) (fun v34 => ?_)
        refine s_iast (pc := 49) lk_Mo_1 (dc dl_X11_goesBy 33 rfl) ?_
        exact s_wk (hj30 ()) rfl
      · exact s_wk (hj30 ()) rfl
def gX11_days (x1 : Int32) : MM Int32 :=
  bd (sv 0 0 0) fun _ =>
  bd (gX11_isIn x1 1 60) fun r1 =>
  jn (fun (a3 : Unit) =>
  pr ((-1))) (fun j2 =>
  (if r1 = 0 then
  j2 ()
  else
  bd (la 1 0) fun v4 =>
  (if (v4 + x1) ≤ 9999 then
  loopC 100000 (fun (self5 : (Int32 × Int32) → MM Int32) (s6 : Int32 × Int32) =>
  (if x1 ≤ s6.2 then
  pr s6.1
  else
  bd gX11_keepsAhead fun r7 =>
  bd gX11_goesBy fun r8 =>
  lt (s6.1 + r8) fun y9 =>
  lt (s6.2 + 1) fun y10 =>
  self5 (y9, y10))) (0, 0)
  else
  j2 ())))
set_option maxHeartbeats 4000000 in
theorem cn_X11_days (l : Launch) (G : Gl) (hG : gOk G) (ad : Nat → Nat) (x1 : Int32) : Cn l G mX11_days 8 lay_Mo ad [.ref (ad 0), .int x1] (gX11_days x1) := by
  refine cn_of (lv := [some (.ref (ad 0)), some (.int x1), none, none]) (by decide +kernel) rfl (Nat.le_of_ble_eq_true rfl) rfl ?_
  unfold gX11_days
  refine s_aload_n (pc := 0) (dc dl_X11_days 0 rfl) rfl rfl ?_
  refine s_iconst (pc := 1) (v := 0) (dc dl_X11_days 1 rfl) ic_0 ?_
  refine s_putI (pc := 2) fw_X11_125 lk_Mo_0 kk_Mo_0_0 (dc dl_X11_days 2 rfl) ?_
  refine s_aload_n (pc := 5) (dc dl_X11_days 3 rfl) rfl rfl ?_
  refine s_iload_n (pc := 6) (dc dl_X11_days 4 rfl) rfl rfl ?_
  refine s_iconst (pc := 7) (v := 1) (dc dl_X11_days 5 rfl) ic_1 ?_
  refine s_bipush (pc := 8) (v := 60) (dc dl_X11_days 6 rfl) bi_60 ?_
  refine s_call (pc := 10) (rest := []) hG (calls_V (mi := mX11_days) (o := 0) (As := [.int x1, .int 1, .int 60]) (rest := []) hG (dc dl_X11_days 7 rfl) mo_X11_isIn mv_X11_isIn ml_X11_150 ⟨Nat.le_of_ble_eq_true rfl, Nat.le_of_ble_eq_true rfl⟩ rfl rfl (Nat.le_of_ble_eq_true rfl) lk_Mo_0 rfl) (cn_X11_isIn l G hG ad x1 1 60) rfl (fun r1 => ?_)
  refine s_jn (pj := 30) (fun a3 : Unit => [none, none, none, none]) (fun a3 : Unit => []) (fun a3 => ?_) (fun j2 hj2 => ?_)
  · refine s_iconst (pc := 30) (v := (-1)) (dc dl_X11_days 17 rfl) ic_m1 ?_
    exact s_ireturn (pc := 31) rfl (dc dl_X11_days 18 rfl)
  · refine s_if_eq (pc := 13) (tgt := 30) (dc dl_X11_days 8 rfl) rfl ?_ ?_
    · exact s_wk (hj2 ()) rfl
    · refine s_aload_n (pc := 16) (dc dl_X11_days 9 rfl) rfl rfl ?_
      refine s_getR (pc := 17) fl_X11_7 lk_Mo_0 kk_Mo_0_1 (dc dl_X11_days 10 rfl) ?_
      refine s_iconst (pc := 20) (v := 0) (dc dl_X11_days 11 rfl) ic_0 ?_
      refine s_iald (pc := 21) lk_Mo_1 (dc dl_X11_days 12 rfl) (fun v4 => ?_)
      refine s_iload_n (pc := 22) (dc dl_X11_days 13 rfl) rfl rfl ?_
      refine s_iadd (pc := 23) (dc dl_X11_days 14 rfl) ?_
      refine s_sipush (pc := 24) (v := 9999) (dc dl_X11_days 15 rfl) si_9999 ?_
      refine s_icmp_le (pc := 27) (tgt := 32) (dc dl_X11_days 16 rfl) rfl ?_ ?_
      · refine s_iconst (pc := 32) (v := 0) (dc dl_X11_days 19 rfl) ic_0 ?_
        refine s_istore_n (pc := 33) (lv' := [some (.ref (ad 0)), some (.int x1), some (.int 0), none]) (dc dl_X11_days 20 rfl) rfl (Nat.le_of_ble_eq_true rfl) rfl ?_
        refine s_iconst (pc := 34) (v := 0) (dc dl_X11_days 21 rfl) ic_0 ?_
        refine s_istore_n (pc := 35) (lv' := [some (.ref (ad 0)), some (.int x1), some (.int 0), some (.int 0)]) (dc dl_X11_days 22 rfl) rfl (Nat.le_of_ble_eq_true rfl) rfl ?_
        refine s_weak (lv' := [some (.ref (ad 0)), some (.int x1), some (.int 0), some (.int 0)]) rfl ?_
        refine s_loop (pc := 36) (fun s6 : Int32 × Int32 => [some (.ref (ad 0)), some (.int x1), some (.int s6.1), some (.int s6.2)]) [] (fun self5 hself5 s6 => ?_) _ (0, 0)
        refine s_iload_n (pc := 36) (dc dl_X11_days 23 rfl) rfl rfl ?_
        refine s_iload_n (pc := 37) (dc dl_X11_days 24 rfl) rfl rfl ?_
        refine s_icmp_ge (pc := 38) (tgt := 58) (dc dl_X11_days 25 rfl) rfl ?_ ?_
        · refine s_iload_n (pc := 58) (dc dl_X11_days 35 rfl) rfl rfl ?_
          exact s_ireturn (pc := 59) rfl (dc dl_X11_days 36 rfl)
        · refine s_aload_n (pc := 41) (dc dl_X11_days 26 rfl) rfl rfl ?_
          refine s_callv (pc := 42) (rest := []) hG (calls_V (mi := mX11_days) (o := 0) (As := []) (rest := []) hG (dc dl_X11_days 27 rfl) mo_X11_keepsAhead mv_X11_keepsAhead ml_X11_389 ⟨Nat.le_of_ble_eq_true rfl, Nat.le_of_ble_eq_true rfl⟩ rfl rfl (Nat.le_of_ble_eq_true rfl) lk_Mo_0 rfl) (cn_X11_keepsAhead l G hG ad) rfl (fun r7 => ?_)
          refine s_iload_n (pc := 45) (dc dl_X11_days 28 rfl) rfl rfl ?_
          refine s_aload_n (pc := 46) (dc dl_X11_days 29 rfl) rfl rfl ?_
          refine s_call (pc := 47) (rest := [.int s6.1]) hG (calls_V (mi := mX11_days) (o := 0) (As := []) (rest := [.int s6.1]) hG (dc dl_X11_days 30 rfl) mo_X11_goesBy mv_X11_goesBy ml_X11_401 ⟨Nat.le_of_ble_eq_true rfl, Nat.le_of_ble_eq_true rfl⟩ rfl rfl (Nat.le_of_ble_eq_true rfl) lk_Mo_0 rfl) (cn_X11_goesBy l G hG ad) rfl (fun r8 => ?_)
          refine s_iadd (pc := 50) (dc dl_X11_days 31 rfl) ?_
          refine s_istore_nL (pc := 51) (lf' := fun y9 => [some (.ref (ad 0)), some (.int x1), some (.int y9), some (.int s6.2)]) (dc dl_X11_days 32 rfl) rfl (Nat.le_of_ble_eq_true rfl) (fun _ => rfl) (fun y9 => ?_)
          refine s_iincL (pc := 52) (lf' := fun y10 => [some (.ref (ad 0)), some (.int x1), some (.int y9), some (.int y10)]) (dc dl_X11_days 33 rfl) rfl rfl (Nat.le_of_ble_eq_true rfl) (fun _ => rfl) (fun y10 => ?_)
          refine s_goto (pc := 55) (tgt := 36) (dc dl_X11_days 34 rfl) rfl ?_
          exact s_wk (hself5 (y9, y10)) rfl
      · exact s_wk (hj2 ()) rfl
def gX11_leftTo (x1 : Int32) : MM Int32 :=
  loopC 100000 (fun (self1 : (Int32 × Int32) → MM Int32) (s2 : Int32 × Int32) =>
  bd (ld 0 8) fun v3 =>
  (if v3 ≤ s2.2 then
  pr s2.1
  else
  bd (la 4 s2.2) fun v4 =>
  jn (fun (a6 : Int32) =>
  lt (s2.2 + 1) fun y7 =>
  self1 (a6, y7)) (fun j5 =>
  (if v4 = x1 then
  bd (gX11_isOpen s2.2) fun r8 =>
  (if r8 = 0 then
  j5 s2.1
  else
  lt (s2.1 + 1) fun y9 =>
  j5 y9)
  else
  j5 s2.1)))) (0, 0)
set_option maxHeartbeats 4000000 in
theorem cn_X11_leftTo (l : Launch) (G : Gl) (hG : gOk G) (ad : Nat → Nat) (x1 : Int32) : Cn l G mX11_leftTo 1 lay_Mo ad [.ref (ad 0), .int x1] (gX11_leftTo x1) := by
  refine cn_of (lv := [some (.ref (ad 0)), some (.int x1), none, none]) (by decide +kernel) rfl (Nat.le_of_ble_eq_true rfl) rfl ?_
  unfold gX11_leftTo
  refine s_iconst (pc := 0) (v := 0) (dc dl_X11_leftTo 0 rfl) ic_0 ?_
  refine s_istore_n (pc := 1) (lv' := [some (.ref (ad 0)), some (.int x1), some (.int 0), none]) (dc dl_X11_leftTo 1 rfl) rfl (Nat.le_of_ble_eq_true rfl) rfl ?_
  refine s_iconst (pc := 2) (v := 0) (dc dl_X11_leftTo 2 rfl) ic_0 ?_
  refine s_istore_n (pc := 3) (lv' := [some (.ref (ad 0)), some (.int x1), some (.int 0), some (.int 0)]) (dc dl_X11_leftTo 3 rfl) rfl (Nat.le_of_ble_eq_true rfl) rfl ?_
  refine s_weak (lv' := [some (.ref (ad 0)), some (.int x1), some (.int 0), some (.int 0)]) rfl ?_
  refine s_loop (pc := 4) (fun s2 : Int32 × Int32 => [some (.ref (ad 0)), some (.int x1), some (.int s2.1), some (.int s2.2)]) [] (fun self1 hself1 s2 => ?_) _ (0, 0)
  refine s_iload_n (pc := 4) (dc dl_X11_leftTo 4 rfl) rfl rfl ?_
  refine s_aload_n (pc := 5) (dc dl_X11_leftTo 5 rfl) rfl rfl ?_
  refine s_getI (pc := 6) fl_X11_143 lk_Mo_0 kk_Mo_0_8 (dc dl_X11_leftTo 6 rfl) (fun v3 => ?_)
  refine s_icmp_ge (pc := 9) (tgt := 40) (dc dl_X11_leftTo 7 rfl) rfl ?_ ?_
  · refine s_iload_n (pc := 40) (dc dl_X11_leftTo 24 rfl) rfl rfl ?_
    exact s_ireturn (pc := 41) rfl (dc dl_X11_leftTo 25 rfl)
  · refine s_aload_n (pc := 12) (dc dl_X11_leftTo 8 rfl) rfl rfl ?_
    refine s_getR (pc := 13) fl_X11_19 lk_Mo_0 kk_Mo_0_9 (dc dl_X11_leftTo 9 rfl) ?_
    refine s_iload_n (pc := 16) (dc dl_X11_leftTo 10 rfl) rfl rfl ?_
    refine s_iald (pc := 17) lk_Mo_4 (dc dl_X11_leftTo 11 rfl) (fun v4 => ?_)
    refine s_iload_n (pc := 18) (dc dl_X11_leftTo 12 rfl) rfl rfl ?_
    refine s_jn (pj := 34) (fun a6 : Int32 => [some (.ref (ad 0)), some (.int x1), some (.int a6), some (.int s2.2)]) (fun a6 : Int32 => []) (fun a6 => ?_) (fun j5 hj5 => ?_)
    · refine s_iincL (pc := 34) (lf' := fun y7 => [some (.ref (ad 0)), some (.int x1), some (.int a6), some (.int y7)]) (dc dl_X11_leftTo 22 rfl) rfl rfl (Nat.le_of_ble_eq_true rfl) (fun _ => rfl) (fun y7 => ?_)
      refine s_goto (pc := 37) (tgt := 4) (dc dl_X11_leftTo 23 rfl) rfl ?_
      exact s_wk (hself1 (a6, y7)) rfl
    · refine s_icmp_ne (pc := 19) (tgt := 34) (dc dl_X11_leftTo 13 rfl) rfl ?_ ?_
      · refine s_aload_n (pc := 22) (dc dl_X11_leftTo 14 rfl) rfl rfl ?_
        refine s_iload_n (pc := 23) (dc dl_X11_leftTo 15 rfl) rfl rfl ?_
        refine s_call (pc := 24) (rest := []) hG (calls_V (mi := mX11_leftTo) (o := 0) (As := [.int s2.2]) (rest := []) hG (dc dl_X11_leftTo 16 rfl) mo_X11_isOpen mv_X11_isOpen ml_X11_164 ⟨Nat.le_of_ble_eq_true rfl, Nat.le_of_ble_eq_true rfl⟩ rfl rfl (Nat.le_of_ble_eq_true rfl) lk_Mo_0 rfl) (cn_X11_isOpen l G hG ad s2.2) rfl (fun r8 => ?_)
        refine s_if_eq (pc := 27) (tgt := 34) (dc dl_X11_leftTo 17 rfl) rfl ?_ ?_
        · exact s_wk (hj5 s2.1) rfl
        · refine s_iload_n (pc := 30) (dc dl_X11_leftTo 18 rfl) rfl rfl ?_
          refine s_iconst (pc := 31) (v := 1) (dc dl_X11_leftTo 19 rfl) ic_1 ?_
          refine s_iadd (pc := 32) (dc dl_X11_leftTo 20 rfl) ?_
          refine s_istore_nL (pc := 33) (lf' := fun y9 => [some (.ref (ad 0)), some (.int x1), some (.int y9), some (.int s2.2)]) (dc dl_X11_leftTo 21 rfl) rfl (Nat.le_of_ble_eq_true rfl) (fun _ => rfl) (fun y9 => ?_)
          exact s_wk (hj5 y9) rfl
      · exact s_wk (hj5 s2.1) rfl
def gX11_leastDue (x1 : Int32) : MM Int32 :=
  loopC 100000 (fun (self1 : (Int32 × Int32) → MM Int32) (s2 : Int32 × Int32) =>
  bd (ld 0 8) fun v3 =>
  (if v3 ≤ s2.2 then
  jn (fun (a5 : Int32) =>
  pr a5) (fun j4 =>
  (if s2.1 = 100000000 then
  j4 ((-1))
  else
  j4 s2.1))
  else
  bd (la 4 s2.2) fun v6 =>
  jn (fun (a8 : Int32) =>
  lt (s2.2 + 1) fun y9 =>
  self1 (a8, y9)) (fun j7 =>
  (if v6 = x1 then
  bd (gX11_isOpen s2.2) fun r10 =>
  (if r10 = 0 then
  j7 s2.1
  else
  bd (la 5 s2.2) fun v11 =>
  bd (la 1 0) fun v12 =>
  (if v11 < v12 then
  j7 s2.1
  else
  bd (la 5 s2.2) fun v13 =>
  bd (gX11_lesser s2.1 v13) fun r14 =>
  j7 r14))
  else
  j7 s2.1)))) (100000000, 0)
set_option maxHeartbeats 4000000 in
theorem cn_X11_leastDue (l : Launch) (G : Gl) (hG : gOk G) (ad : Nat → Nat) (x1 : Int32) : Cn l G mX11_leastDue 1 lay_Mo ad [.ref (ad 0), .int x1] (gX11_leastDue x1) := by
  refine cn_of (lv := [some (.ref (ad 0)), some (.int x1), none, none]) (by decide +kernel) rfl (Nat.le_of_ble_eq_true rfl) rfl ?_
  unfold gX11_leastDue
  refine s_ldcw (pc := 0) (v := 100000000) ct_X11_404 (dc dl_X11_leastDue 0 rfl) ?_
  refine s_istore_n (pc := 3) (lv' := [some (.ref (ad 0)), some (.int x1), some (.int 100000000), none]) (dc dl_X11_leastDue 1 rfl) rfl (Nat.le_of_ble_eq_true rfl) rfl ?_
  refine s_iconst (pc := 4) (v := 0) (dc dl_X11_leastDue 2 rfl) ic_0 ?_
  refine s_istore_n (pc := 5) (lv' := [some (.ref (ad 0)), some (.int x1), some (.int 100000000), some (.int 0)]) (dc dl_X11_leastDue 3 rfl) rfl (Nat.le_of_ble_eq_true rfl) rfl ?_
  refine s_weak (lv' := [some (.ref (ad 0)), some (.int x1), some (.int 100000000), some (.int 0)]) rfl ?_
  refine s_loop (pc := 6) (fun s2 : Int32 × Int32 => [some (.ref (ad 0)), some (.int x1), some (.int s2.1), some (.int s2.2)]) [] (fun self1 hself1 s2 => ?_) _ (100000000, 0)
  refine s_iload_n (pc := 6) (dc dl_X11_leastDue 4 rfl) rfl rfl ?_
  refine s_aload_n (pc := 7) (dc dl_X11_leastDue 5 rfl) rfl rfl ?_
  refine s_getI (pc := 8) fl_X11_143 lk_Mo_0 kk_Mo_0_8 (dc dl_X11_leastDue 6 rfl) (fun v3 => ?_)
  refine s_icmp_ge (pc := 11) (tgt := 65) (dc dl_X11_leastDue 7 rfl) rfl ?_ ?_
  · refine s_iload_n (pc := 65) (dc dl_X11_leastDue 37 rfl) rfl rfl ?_
    refine s_ldcw (pc := 66) (v := 100000000) ct_X11_404 (dc dl_X11_leastDue 38 rfl) ?_
    refine s_jn (pj := 77) (fun a5 : Int32 => [none, none, none, none]) (fun a5 : Int32 => [.int a5]) (fun a5 => ?_) (fun j4 hj4 => ?_)
    · exact s_ireturn (pc := 77) rfl (dc dl_X11_leastDue 43 rfl)
    · refine s_icmp_ne (pc := 69) (tgt := 76) (dc dl_X11_leastDue 39 rfl) rfl ?_ ?_
      · refine s_iconst (pc := 72) (v := (-1)) (dc dl_X11_leastDue 40 rfl) ic_m1 ?_
        refine s_goto (pc := 73) (tgt := 77) (dc dl_X11_leastDue 41 rfl) rfl ?_
        exact s_wk (hj4 ((-1))) rfl
      · refine s_iload_n (pc := 76) (dc dl_X11_leastDue 42 rfl) rfl rfl ?_
        exact s_wk (hj4 s2.1) rfl
  · refine s_aload_n (pc := 14) (dc dl_X11_leastDue 8 rfl) rfl rfl ?_
    refine s_getR (pc := 15) fl_X11_19 lk_Mo_0 kk_Mo_0_9 (dc dl_X11_leastDue 9 rfl) ?_
    refine s_iload_n (pc := 18) (dc dl_X11_leastDue 10 rfl) rfl rfl ?_
    refine s_iald (pc := 19) lk_Mo_4 (dc dl_X11_leastDue 11 rfl) (fun v6 => ?_)
    refine s_iload_n (pc := 20) (dc dl_X11_leastDue 12 rfl) rfl rfl ?_
    refine s_jn (pj := 59) (fun a8 : Int32 => [some (.ref (ad 0)), some (.int x1), some (.int a8), some (.int s2.2)]) (fun a8 : Int32 => []) (fun a8 => ?_) (fun j7 hj7 => ?_)
    · refine s_iincL (pc := 59) (lf' := fun y9 => [some (.ref (ad 0)), some (.int x1), some (.int a8), some (.int y9)]) (dc dl_X11_leastDue 35 rfl) rfl rfl (Nat.le_of_ble_eq_true rfl) (fun _ => rfl) (fun y9 => ?_)
      refine s_goto (pc := 62) (tgt := 6) (dc dl_X11_leastDue 36 rfl) rfl ?_
      exact s_wk (hself1 (a8, y9)) rfl
    · refine s_icmp_ne (pc := 21) (tgt := 59) (dc dl_X11_leastDue 13 rfl) rfl ?_ ?_
      · refine s_aload_n (pc := 24) (dc dl_X11_leastDue 14 rfl) rfl rfl ?_
        refine s_iload_n (pc := 25) (dc dl_X11_leastDue 15 rfl) rfl rfl ?_
        refine s_call (pc := 26) (rest := []) hG (calls_V (mi := mX11_leastDue) (o := 0) (As := [.int s2.2]) (rest := []) hG (dc dl_X11_leastDue 16 rfl) mo_X11_isOpen mv_X11_isOpen ml_X11_164 ⟨Nat.le_of_ble_eq_true rfl, Nat.le_of_ble_eq_true rfl⟩ rfl rfl (Nat.le_of_ble_eq_true rfl) lk_Mo_0 rfl) (cn_X11_isOpen l G hG ad s2.2) rfl (fun r10 => ?_)
        refine s_if_eq (pc := 29) (tgt := 59) (dc dl_X11_leastDue 17 rfl) rfl ?_ ?_
        · exact s_wk (hj7 s2.1) rfl
        · refine s_aload_n (pc := 32) (dc dl_X11_leastDue 18 rfl) rfl rfl ?_
          refine s_getR (pc := 33) fl_X11_22 lk_Mo_0 kk_Mo_0_10 (dc dl_X11_leastDue 19 rfl) ?_
          refine s_iload_n (pc := 36) (dc dl_X11_leastDue 20 rfl) rfl rfl ?_
          refine s_iald (pc := 37) lk_Mo_5 (dc dl_X11_leastDue 21 rfl) (fun v11 => ?_)
          refine s_aload_n (pc := 38) (dc dl_X11_leastDue 22 rfl) rfl rfl ?_
          refine s_getR (pc := 39) fl_X11_7 lk_Mo_0 kk_Mo_0_1 (dc dl_X11_leastDue 23 rfl) ?_
          refine s_iconst (pc := 42) (v := 0) (dc dl_X11_leastDue 24 rfl) ic_0 ?_
          refine s_iald (pc := 43) lk_Mo_1 (dc dl_X11_leastDue 25 rfl) (fun v12 => ?_)
          refine s_icmp_lt (pc := 44) (tgt := 59) (dc dl_X11_leastDue 26 rfl) rfl ?_ ?_
          · exact s_wk (hj7 s2.1) rfl
          · refine s_aload_n (pc := 47) (dc dl_X11_leastDue 27 rfl) rfl rfl ?_
            refine s_iload_n (pc := 48) (dc dl_X11_leastDue 28 rfl) rfl rfl ?_
            refine s_aload_n (pc := 49) (dc dl_X11_leastDue 29 rfl) rfl rfl ?_
            refine s_getR (pc := 50) fl_X11_22 lk_Mo_0 kk_Mo_0_10 (dc dl_X11_leastDue 30 rfl) ?_
            refine s_iload_n (pc := 53) (dc dl_X11_leastDue 31 rfl) rfl rfl ?_
            refine s_iald (pc := 54) lk_Mo_5 (dc dl_X11_leastDue 32 rfl) (fun v13 => ?_)
            refine s_call (pc := 55) (rest := []) hG (calls_V (mi := mX11_leastDue) (o := 0) (As := [.int s2.1, .int v13]) (rest := []) hG (dc dl_X11_leastDue 33 rfl) mo_X11_lesser mv_X11_lesser ml_X11_362 ⟨Nat.le_of_ble_eq_true rfl, Nat.le_of_ble_eq_true rfl⟩ rfl rfl (Nat.le_of_ble_eq_true rfl) lk_Mo_0 rfl) (cn_X11_lesser l G hG ad s2.1 v13) rfl (fun r14 => ?_)
            refine s_istore_n (pc := 58) (lv' := [some (.ref (ad 0)), some (.int x1), some (.int r14), some (.int s2.2)]) (dc dl_X11_leastDue 34 rfl) rfl (Nat.le_of_ble_eq_true rfl) rfl ?_
            exact s_wk (hj7 r14) rfl
      · exact s_wk (hj7 s2.1) rfl
def gX11_of (x1 x2 : Int32) : MM Int32 :=
  bd (sv 0 0 0) fun _ =>
  bd (gX11_isPerson x1) fun r1 =>
  (if r1 = 0 then
  pr ((-1))
  else
  bd (gX11_isIn x2 0 2) fun r2 =>
  (if r2 = 0 then
  (if x2 = 3 then
  bd (gX11_leftTo x1) fun r13 =>
  pr r13
  else
  (if x2 = 4 then
  bd (gX11_leastDue x1) fun r12 =>
  pr r12
  else
  (if x2 = 6 then
  bd (la 19 x1) fun v11 =>
  pr v11
  else
  (if x2 = 5 then
  loopC 100000 (fun (self3 : (Int32 × Int32) → MM Int32) (s4 : Int32 × Int32) =>
  bd (ld 0 7) fun v5 =>
  (if v5 ≤ s4.2 then
  pr s4.1
  else
  bd (la 1 (39 + s4.2)) fun v6 =>
  jn (fun (a8 : Int32) =>
  lt (s4.2 + 1) fun y9 =>
  self3 (a8, y9)) (fun j7 =>
  (if v6 = x1 then
  lt (s4.1 ||| (1 <<< (s4.2 &&& 31))) fun y10 =>
  j7 y10
  else
  j7 s4.1)))) (0, 0)
  else
  pr ((-1))))))
  else
  bd (la 1 ((3 + (12 * x2)) + x1)) fun v14 =>
  pr v14))
set_option maxHeartbeats 4000000 in
theorem cn_X11_of (l : Launch) (G : Gl) (hG : gOk G) (ad : Nat → Nat) (x1 x2 : Int32) : Cn l G mX11_of 2 lay_Mo ad [.ref (ad 0), .int x1, .int x2] (gX11_of x1 x2) := by
  refine cn_of (lv := [some (.ref (ad 0)), some (.int x1), some (.int x2), none, none]) (by decide +kernel) rfl (Nat.le_of_ble_eq_true rfl) rfl ?_
  unfold gX11_of
  refine s_aload_n (pc := 0) (dc dl_X11_of 0 rfl) rfl rfl ?_
  refine s_iconst (pc := 1) (v := 0) (dc dl_X11_of 1 rfl) ic_0 ?_
  refine s_putI (pc := 2) fw_X11_125 lk_Mo_0 kk_Mo_0_0 (dc dl_X11_of 2 rfl) ?_
  refine s_aload_n (pc := 5) (dc dl_X11_of 3 rfl) rfl rfl ?_
  refine s_iload_n (pc := 6) (dc dl_X11_of 4 rfl) rfl rfl ?_
  refine s_call (pc := 7) (rest := []) hG (calls_V (mi := mX11_of) (o := 0) (As := [.int x1]) (rest := []) hG (dc dl_X11_of 5 rfl) mo_X11_isPerson mv_X11_isPerson ml_X11_154 ⟨Nat.le_of_ble_eq_true rfl, Nat.le_of_ble_eq_true rfl⟩ rfl rfl (Nat.le_of_ble_eq_true rfl) lk_Mo_0 rfl) (cn_X11_isPerson l G hG ad x1) rfl (fun r1 => ?_)
  refine s_if_ne (pc := 10) (tgt := 15) (dc dl_X11_of 6 rfl) rfl ?_ ?_
  · refine s_iconst (pc := 13) (v := (-1)) (dc dl_X11_of 7 rfl) ic_m1 ?_
    exact s_ireturn (pc := 14) rfl (dc dl_X11_of 8 rfl)
  · refine s_aload_n (pc := 15) (dc dl_X11_of 9 rfl) rfl rfl ?_
    refine s_iload_n (pc := 16) (dc dl_X11_of 10 rfl) rfl rfl ?_
    refine s_iconst (pc := 17) (v := 0) (dc dl_X11_of 11 rfl) ic_0 ?_
    refine s_iconst (pc := 18) (v := 2) (dc dl_X11_of 12 rfl) ic_2 ?_
    refine s_call (pc := 19) (rest := []) hG (calls_V (mi := mX11_of) (o := 0) (As := [.int x2, .int 0, .int 2]) (rest := []) hG (dc dl_X11_of 13 rfl) mo_X11_isIn mv_X11_isIn ml_X11_150 ⟨Nat.le_of_ble_eq_true rfl, Nat.le_of_ble_eq_true rfl⟩ rfl rfl (Nat.le_of_ble_eq_true rfl) lk_Mo_0 rfl) (cn_X11_isIn l G hG ad x2 0 2) rfl (fun r2 => ?_)
    refine s_if_eq (pc := 22) (tgt := 39) (dc dl_X11_of 14 rfl) rfl ?_ ?_
    · refine s_iload_n (pc := 39) (dc dl_X11_of 26 rfl) rfl rfl ?_
      refine s_iconst (pc := 40) (v := 3) (dc dl_X11_of 27 rfl) ic_3 ?_
      refine s_icmp_ne (pc := 41) (tgt := 50) (dc dl_X11_of 28 rfl) rfl ?_ ?_
      · refine s_aload_n (pc := 44) (dc dl_X11_of 29 rfl) rfl rfl ?_
        refine s_iload_n (pc := 45) (dc dl_X11_of 30 rfl) rfl rfl ?_
        refine s_call (pc := 46) (rest := []) hG (calls_V (mi := mX11_of) (o := 0) (As := [.int x1]) (rest := []) hG (dc dl_X11_of 31 rfl) mo_X11_leftTo mv_X11_leftTo ml_X11_405 ⟨Nat.le_of_ble_eq_true rfl, Nat.le_of_ble_eq_true rfl⟩ rfl rfl (Nat.le_of_ble_eq_true rfl) lk_Mo_0 rfl) (cn_X11_leftTo l G hG ad x1) rfl (fun r13 => ?_)
        exact s_ireturn (pc := 49) rfl (dc dl_X11_of 32 rfl)
      · refine s_iload_n (pc := 50) (dc dl_X11_of 33 rfl) rfl rfl ?_
        refine s_iconst (pc := 51) (v := 4) (dc dl_X11_of 34 rfl) ic_4 ?_
        refine s_icmp_ne (pc := 52) (tgt := 61) (dc dl_X11_of 35 rfl) rfl ?_ ?_
        · refine s_aload_n (pc := 55) (dc dl_X11_of 36 rfl) rfl rfl ?_
          refine s_iload_n (pc := 56) (dc dl_X11_of 37 rfl) rfl rfl ?_
          refine s_call (pc := 57) (rest := []) hG (calls_V (mi := mX11_of) (o := 0) (As := [.int x1]) (rest := []) hG (dc dl_X11_of 38 rfl) mo_X11_leastDue mv_X11_leastDue ml_X11_408 ⟨Nat.le_of_ble_eq_true rfl, Nat.le_of_ble_eq_true rfl⟩ rfl rfl (Nat.le_of_ble_eq_true rfl) lk_Mo_0 rfl) (cn_X11_leastDue l G hG ad x1) rfl (fun r12 => ?_)
          exact s_ireturn (pc := 60) rfl (dc dl_X11_of 39 rfl)
        · refine s_iload_n (pc := 61) (dc dl_X11_of 40 rfl) rfl rfl ?_
          refine s_bipush (pc := 62) (v := 6) (dc dl_X11_of 41 rfl) bi_6 ?_
          refine s_icmp_ne (pc := 64) (tgt := 74) (dc dl_X11_of 42 rfl) rfl ?_ ?_
          · refine s_aload_n (pc := 67) (dc dl_X11_of 43 rfl) rfl rfl ?_
            refine s_getR (pc := 68) fl_X11_68 lk_Mo_0 kk_Mo_0_40 (dc dl_X11_of 44 rfl) ?_
            refine s_iload_n (pc := 71) (dc dl_X11_of 45 rfl) rfl rfl ?_
            refine s_iald (pc := 72) lk_Mo_19 (dc dl_X11_of 46 rfl) (fun v11 => ?_)
            exact s_ireturn (pc := 73) rfl (dc dl_X11_of 47 rfl)
          · refine s_iload_n (pc := 74) (dc dl_X11_of 48 rfl) rfl rfl ?_
            refine s_iconst (pc := 75) (v := 5) (dc dl_X11_of 49 rfl) ic_5 ?_
            refine s_icmp_eq (pc := 76) (tgt := 81) (dc dl_X11_of 50 rfl) rfl ?_ ?_
            · refine s_iconst (pc := 81) (v := 0) (dc dl_X11_of 53 rfl) ic_0 ?_
              refine s_istore_n (pc := 82) (lv' := [some (.ref (ad 0)), some (.int x1), some (.int x2), some (.int 0), none]) (dc dl_X11_of 54 rfl) rfl (Nat.le_of_ble_eq_true rfl) rfl ?_
              refine s_iconst (pc := 83) (v := 0) (dc dl_X11_of 55 rfl) ic_0 ?_
              refine s_istore (pc := 84) (lv' := [some (.ref (ad 0)), some (.int x1), some (.int x2), some (.int 0), some (.int 0)]) (dc dl_X11_of 56 rfl) (Nat.le_of_ble_eq_true rfl) rfl ?_
              refine s_weak (lv' := [some (.ref (ad 0)), some (.int x1), none, some (.int 0), some (.int 0)]) rfl ?_
              refine s_loop (pc := 86) (fun s4 : Int32 × Int32 => [some (.ref (ad 0)), some (.int x1), none, some (.int s4.1), some (.int s4.2)]) [] (fun self3 hself3 s4 => ?_) _ (0, 0)
              refine s_iload (pc := 86) (dc dl_X11_of 57 rfl) rfl ?_
              refine s_aload_n (pc := 88) (dc dl_X11_of 58 rfl) rfl rfl ?_
              refine s_getI (pc := 89) fl_X11_140 lk_Mo_0 kk_Mo_0_7 (dc dl_X11_of 59 rfl) (fun v5 => ?_)
              refine s_icmp_ge (pc := 92) (tgt := 122) (dc dl_X11_of 60 rfl) rfl ?_ ?_
              · refine s_iload_n (pc := 122) (dc dl_X11_of 77 rfl) rfl rfl ?_
                exact s_ireturn (pc := 123) rfl (dc dl_X11_of 78 rfl)
              · refine s_aload_n (pc := 95) (dc dl_X11_of 61 rfl) rfl rfl ?_
                refine s_getR (pc := 96) fl_X11_7 lk_Mo_0 kk_Mo_0_1 (dc dl_X11_of 62 rfl) ?_
                refine s_bipush (pc := 99) (v := 39) (dc dl_X11_of 63 rfl) bi_39 ?_
                refine s_iload (pc := 101) (dc dl_X11_of 64 rfl) rfl ?_
                refine s_iadd (pc := 103) (dc dl_X11_of 65 rfl) ?_
                refine s_iald (pc := 104) lk_Mo_1 (dc dl_X11_of 66 rfl) (fun v6 => ?_)
                refine s_iload_n (pc := 105) (dc dl_X11_of 67 rfl) rfl rfl ?_
                refine s_jn (pj := 116) (fun a8 : Int32 => [some (.ref (ad 0)), some (.int x1), none, some (.int a8), some (.int s4.2)]) (fun a8 : Int32 => []) (fun a8 => ?_) (fun j7 hj7 => ?_)
                · refine s_iincL (pc := 116) (lf' := fun y9 => [some (.ref (ad 0)), some (.int x1), none, some (.int a8), some (.int y9)]) (dc dl_X11_of 75 rfl) rfl rfl (Nat.le_of_ble_eq_true rfl) (fun _ => rfl) (fun y9 => ?_)
                  refine s_goto (pc := 119) (tgt := 86) (dc dl_X11_of 76 rfl) rfl ?_
                  exact s_wk (hself3 (a8, y9)) rfl
                · refine s_icmp_ne (pc := 106) (tgt := 116) (dc dl_X11_of 68 rfl) rfl ?_ ?_
                  · refine s_iload_n (pc := 109) (dc dl_X11_of 69 rfl) rfl rfl ?_
                    refine s_iconst (pc := 110) (v := 1) (dc dl_X11_of 70 rfl) ic_1 ?_
                    refine s_iload (pc := 111) (dc dl_X11_of 71 rfl) rfl ?_
                    refine s_ishl (pc := 113) (dc dl_X11_of 72 rfl) ?_
                    refine s_ior (pc := 114) (dc dl_X11_of 73 rfl) ?_
                    refine s_istore_nL (pc := 115) (lf' := fun y10 => [some (.ref (ad 0)), some (.int x1), none, some (.int y10), some (.int s4.2)]) (dc dl_X11_of 74 rfl) rfl (Nat.le_of_ble_eq_true rfl) (fun _ => rfl) (fun y10 => ?_)
                    exact s_wk (hj7 y10) rfl
                  · exact s_wk (hj7 s4.1) rfl
            · refine s_iconst (pc := 79) (v := (-1)) (dc dl_X11_of 51 rfl) ic_m1 ?_
              exact s_ireturn (pc := 80) rfl (dc dl_X11_of 52 rfl)
    · refine s_aload_n (pc := 25) (dc dl_X11_of 15 rfl) rfl rfl ?_
      refine s_getR (pc := 26) fl_X11_7 lk_Mo_0 kk_Mo_0_1 (dc dl_X11_of 16 rfl) ?_
      refine s_iconst (pc := 29) (v := 3) (dc dl_X11_of 17 rfl) ic_3 ?_
      refine s_bipush (pc := 30) (v := 12) (dc dl_X11_of 18 rfl) bi_12 ?_
      refine s_iload_n (pc := 32) (dc dl_X11_of 19 rfl) rfl rfl ?_
      refine s_imul (pc := 33) (dc dl_X11_of 20 rfl) ?_
      refine s_iadd (pc := 34) (dc dl_X11_of 21 rfl) ?_
      refine s_iload_n (pc := 35) (dc dl_X11_of 22 rfl) rfl rfl ?_
      refine s_iadd (pc := 36) (dc dl_X11_of 23 rfl) ?_
      refine s_iald (pc := 37) lk_Mo_1 (dc dl_X11_of 24 rfl) (fun v14 => ?_)
      exact s_ireturn (pc := 38) rfl (dc dl_X11_of 25 rfl)
def gX11_clothOf (x1 x2 : Int32) : MM Int32 :=
  bd (sv 0 0 0) fun _ =>
  bd (gX11_isCloth x1) fun r1 =>
  (if r1 = 0 then
  pr ((-2))
  else
  jn (fun (a3 : Unit) =>
  bd (la 1 ((39 + (14 * x2)) + x1)) fun v4 =>
  pr v4) (fun j2 =>
  (if x2 = 0 then
  j2 ()
  else
  (if x2 = 1 then
  j2 ()
  else
  jn (fun (a6 : Int32) =>
  pr a6) (fun j5 =>
  (if x2 = 2 then
  bd (gX11_knotsOf x1) fun r9 =>
  j5 r9
  else
  bd (gX11_isIn x2 10 13) fun r7 =>
  (if r7 = 0 then
  j5 ((-2))
  else
  bd (gX11_knotOf x1 (x2 - 10)) fun r8 =>
  j5 r8)))))))
set_option maxHeartbeats 4000000 in
theorem cn_X11_clothOf (l : Launch) (G : Gl) (hG : gOk G) (ad : Nat → Nat) (x1 x2 : Int32) : Cn l G mX11_clothOf 2 lay_Mo ad [.ref (ad 0), .int x1, .int x2] (gX11_clothOf x1 x2) := by
  refine cn_of (lv := [some (.ref (ad 0)), some (.int x1), some (.int x2)]) (by decide +kernel) rfl (Nat.le_of_ble_eq_true rfl) rfl ?_
  unfold gX11_clothOf
  refine s_aload_n (pc := 0) (dc dl_X11_clothOf 0 rfl) rfl rfl ?_
  refine s_iconst (pc := 1) (v := 0) (dc dl_X11_clothOf 1 rfl) ic_0 ?_
  refine s_putI (pc := 2) fw_X11_125 lk_Mo_0 kk_Mo_0_0 (dc dl_X11_clothOf 2 rfl) ?_
  refine s_aload_n (pc := 5) (dc dl_X11_clothOf 3 rfl) rfl rfl ?_
  refine s_iload_n (pc := 6) (dc dl_X11_clothOf 4 rfl) rfl rfl ?_
  refine s_call (pc := 7) (rest := []) hG (calls_V (mi := mX11_clothOf) (o := 0) (As := [.int x1]) (rest := []) hG (dc dl_X11_clothOf 5 rfl) mo_X11_isCloth mv_X11_isCloth ml_X11_158 ⟨Nat.le_of_ble_eq_true rfl, Nat.le_of_ble_eq_true rfl⟩ rfl rfl (Nat.le_of_ble_eq_true rfl) lk_Mo_0 rfl) (cn_X11_isCloth l G hG ad x1) rfl (fun r1 => ?_)
  refine s_if_ne (pc := 10) (tgt := 16) (dc dl_X11_clothOf 6 rfl) rfl ?_ ?_
  · refine s_bipush (pc := 13) (v := (-2)) (dc dl_X11_clothOf 7 rfl) bi_m2 ?_
    exact s_ireturn (pc := 15) rfl (dc dl_X11_clothOf 8 rfl)
  · refine s_iload_n (pc := 16) (dc dl_X11_clothOf 9 rfl) rfl rfl ?_
    refine s_jn (pj := 25) (fun a3 : Unit => [some (.ref (ad 0)), some (.int x1), some (.int x2)]) (fun a3 : Unit => []) (fun a3 => ?_) (fun j2 hj2 => ?_)
    · refine s_aload_n (pc := 25) (dc dl_X11_clothOf 14 rfl) rfl rfl ?_
      refine s_getR (pc := 26) fl_X11_7 lk_Mo_0 kk_Mo_0_1 (dc dl_X11_clothOf 15 rfl) ?_
      refine s_bipush (pc := 29) (v := 39) (dc dl_X11_clothOf 16 rfl) bi_39 ?_
      refine s_bipush (pc := 31) (v := 14) (dc dl_X11_clothOf 17 rfl) bi_14 ?_
      refine s_iload_n (pc := 33) (dc dl_X11_clothOf 18 rfl) rfl rfl ?_
      refine s_imul (pc := 34) (dc dl_X11_clothOf 19 rfl) ?_
      refine s_iadd (pc := 35) (dc dl_X11_clothOf 20 rfl) ?_
      refine s_iload_n (pc := 36) (dc dl_X11_clothOf 21 rfl) rfl rfl ?_
      refine s_iadd (pc := 37) (dc dl_X11_clothOf 22 rfl) ?_
      refine s_iald (pc := 38) lk_Mo_1 (dc dl_X11_clothOf 23 rfl) (fun v4 => ?_)
      exact s_ireturn (pc := 39) rfl (dc dl_X11_clothOf 24 rfl)
    · refine s_if_eq (pc := 17) (tgt := 25) (dc dl_X11_clothOf 10 rfl) rfl ?_ ?_
      · exact s_wk (hj2 ()) rfl
      · refine s_iload_n (pc := 20) (dc dl_X11_clothOf 11 rfl) rfl rfl ?_
        refine s_iconst (pc := 21) (v := 1) (dc dl_X11_clothOf 12 rfl) ic_1 ?_
        refine s_icmp_ne (pc := 22) (tgt := 40) (dc dl_X11_clothOf 13 rfl) rfl ?_ ?_
        · exact s_wk (hj2 ()) rfl
        · refine s_iload_n (pc := 40) (dc dl_X11_clothOf 25 rfl) rfl rfl ?_
          refine s_iconst (pc := 41) (v := 2) (dc dl_X11_clothOf 26 rfl) ic_2 ?_
          refine s_jn (pj := 79) (fun a6 : Int32 => [none, none, none]) (fun a6 : Int32 => [.int a6]) (fun a6 => ?_) (fun j5 hj5 => ?_)
          · exact s_ireturn (pc := 79) rfl (dc dl_X11_clothOf 46 rfl)
          · refine s_icmp_ne (pc := 42) (tgt := 53) (dc dl_X11_clothOf 27 rfl) rfl ?_ ?_
            · refine s_aload_n (pc := 45) (dc dl_X11_clothOf 28 rfl) rfl rfl ?_
              refine s_iload_n (pc := 46) (dc dl_X11_clothOf 29 rfl) rfl rfl ?_
              refine s_call (pc := 47) (rest := []) hG (calls_V (mi := mX11_clothOf) (o := 0) (As := [.int x1]) (rest := []) hG (dc dl_X11_clothOf 30 rfl) mo_X11_knotsOf mv_X11_knotsOf ml_X11_329 ⟨Nat.le_of_ble_eq_true rfl, Nat.le_of_ble_eq_true rfl⟩ rfl rfl (Nat.le_of_ble_eq_true rfl) lk_Mo_0 rfl) (cn_X11_knotsOf l G hG ad x1) rfl (fun r9 => ?_)
              refine s_goto (pc := 50) (tgt := 79) (dc dl_X11_clothOf 31 rfl) rfl ?_
              exact s_wk (hj5 r9) rfl
            · refine s_aload_n (pc := 53) (dc dl_X11_clothOf 32 rfl) rfl rfl ?_
              refine s_iload_n (pc := 54) (dc dl_X11_clothOf 33 rfl) rfl rfl ?_
              refine s_bipush (pc := 55) (v := 10) (dc dl_X11_clothOf 34 rfl) bi_10 ?_
              refine s_bipush (pc := 57) (v := 13) (dc dl_X11_clothOf 35 rfl) bi_13 ?_
              refine s_call (pc := 59) (rest := []) hG (calls_V (mi := mX11_clothOf) (o := 0) (As := [.int x2, .int 10, .int 13]) (rest := []) hG (dc dl_X11_clothOf 36 rfl) mo_X11_isIn mv_X11_isIn ml_X11_150 ⟨Nat.le_of_ble_eq_true rfl, Nat.le_of_ble_eq_true rfl⟩ rfl rfl (Nat.le_of_ble_eq_true rfl) lk_Mo_0 rfl) (cn_X11_isIn l G hG ad x2 10 13) rfl (fun r7 => ?_)
              refine s_if_eq (pc := 62) (tgt := 77) (dc dl_X11_clothOf 37 rfl) rfl ?_ ?_
              · refine s_bipush (pc := 77) (v := (-2)) (dc dl_X11_clothOf 45 rfl) bi_m2 ?_
                exact s_wk (hj5 ((-2))) rfl
              · refine s_aload_n (pc := 65) (dc dl_X11_clothOf 38 rfl) rfl rfl ?_
                refine s_iload_n (pc := 66) (dc dl_X11_clothOf 39 rfl) rfl rfl ?_
                refine s_iload_n (pc := 67) (dc dl_X11_clothOf 40 rfl) rfl rfl ?_
                refine s_bipush (pc := 68) (v := 10) (dc dl_X11_clothOf 41 rfl) bi_10 ?_
                refine s_isub (pc := 70) (dc dl_X11_clothOf 42 rfl) ?_
                refine s_call (pc := 71) (rest := []) hG (calls_V (mi := mX11_clothOf) (o := 0) (As := [.int x1, .int (x2 - 10)]) (rest := []) hG (dc dl_X11_clothOf 43 rfl) mo_X11_knotOf mv_X11_knotOf ml_X11_146 ⟨Nat.le_of_ble_eq_true rfl, Nat.le_of_ble_eq_true rfl⟩ rfl rfl (Nat.le_of_ble_eq_true rfl) lk_Mo_0 rfl) (cn_X11_knotOf l G hG ad x1 (x2 - 10)) rfl (fun r8 => ?_)
                refine s_goto (pc := 74) (tgt := 79) (dc dl_X11_clothOf 44 rfl) rfl ?_
                exact s_wk (hj5 r8) rfl
def gX11_thingOf (x1 x2 : Int32) : MM Int32 :=
  bd (sv 0 0 0) fun _ =>
  bd (gX11_isThing x1) fun r1 =>
  (if r1 = 0 then
  pr ((-2))
  else
  (if x2 = 0 then
  bd (la 4 x1) fun v18 =>
  pr v18
  else
  (if x2 = 1 then
  bd (la 5 x1) fun v17 =>
  pr v17
  else
  (if x2 = 2 then
  bd (gX11_inCloth x1) fun r16 =>
  pr r16
  else
  (if x2 = 3 then
  bd (la 1 (143 + x1)) fun v15 =>
  pr v15
  else
  (if x2 = 4 then
  bd (la 1 (163 + x1)) fun v14 =>
  pr v14
  else
  jn (fun (a3 : Unit) =>
  bd (gX11_inCloth x1) fun r4 =>
  jn (fun (a6 : Int32) =>
  pr a6) (fun j5 =>
  (if r4 = ((-1)) then
  j5 ((-1))
  else
  (if x2 = 5 then
  bd (gX11_slipsOf x1) fun r8 =>
  j5 r8
  else
  bd (gX11_tellsOf x1) fun r7 =>
  j5 r7)))) (fun j2 =>
  (if x2 = 5 then
  j2 ()
  else
  (if x2 = 6 then
  j2 ()
  else
  bd (ld 0 7) fun v9 =>
  bd (gX11_isIn x2 20 (19 + v9)) fun r10 =>
  jn (fun (a12 : Int32) =>
  pr a12) (fun j11 =>
  (if r10 = 0 then
  j11 ((-2))
  else
  bd (gX11_tiesOf x1 (x2 - 20)) fun r13 =>
  j11 r13)))))))))))
set_option maxHeartbeats 4000000 in
theorem cn_X11_thingOf (l : Launch) (G : Gl) (hG : gOk G) (ad : Nat → Nat) (x1 x2 : Int32) : Cn l G mX11_thingOf 5 lay_Mo ad [.ref (ad 0), .int x1, .int x2] (gX11_thingOf x1 x2) := by
  refine cn_of (lv := [some (.ref (ad 0)), some (.int x1), some (.int x2)]) (by decide +kernel) rfl (Nat.le_of_ble_eq_true rfl) rfl ?_
  unfold gX11_thingOf
  refine s_aload_n (pc := 0) (dc dl_X11_thingOf 0 rfl) rfl rfl ?_
  refine s_iconst (pc := 1) (v := 0) (dc dl_X11_thingOf 1 rfl) ic_0 ?_
  refine s_putI (pc := 2) fw_X11_125 lk_Mo_0 kk_Mo_0_0 (dc dl_X11_thingOf 2 rfl) ?_
  refine s_aload_n (pc := 5) (dc dl_X11_thingOf 3 rfl) rfl rfl ?_
  refine s_iload_n (pc := 6) (dc dl_X11_thingOf 4 rfl) rfl rfl ?_
  refine s_call (pc := 7) (rest := []) hG (calls_V (mi := mX11_thingOf) (o := 0) (As := [.int x1]) (rest := []) hG (dc dl_X11_thingOf 5 rfl) mo_X11_isThing mv_X11_isThing ml_X11_161 ⟨Nat.le_of_ble_eq_true rfl, Nat.le_of_ble_eq_true rfl⟩ rfl rfl (Nat.le_of_ble_eq_true rfl) lk_Mo_0 rfl) (cn_X11_isThing l G hG ad x1) rfl (fun r1 => ?_)
  refine s_if_ne (pc := 10) (tgt := 16) (dc dl_X11_thingOf 6 rfl) rfl ?_ ?_
  · refine s_bipush (pc := 13) (v := (-2)) (dc dl_X11_thingOf 7 rfl) bi_m2 ?_
    exact s_ireturn (pc := 15) rfl (dc dl_X11_thingOf 8 rfl)
  · refine s_iload_n (pc := 16) (dc dl_X11_thingOf 9 rfl) rfl rfl ?_
    refine s_if_ne (pc := 17) (tgt := 27) (dc dl_X11_thingOf 10 rfl) rfl ?_ ?_
    · refine s_aload_n (pc := 20) (dc dl_X11_thingOf 11 rfl) rfl rfl ?_
      refine s_getR (pc := 21) fl_X11_19 lk_Mo_0 kk_Mo_0_9 (dc dl_X11_thingOf 12 rfl) ?_
      refine s_iload_n (pc := 24) (dc dl_X11_thingOf 13 rfl) rfl rfl ?_
      refine s_iald (pc := 25) lk_Mo_4 (dc dl_X11_thingOf 14 rfl) (fun v18 => ?_)
      exact s_ireturn (pc := 26) rfl (dc dl_X11_thingOf 15 rfl)
    · refine s_iload_n (pc := 27) (dc dl_X11_thingOf 16 rfl) rfl rfl ?_
      refine s_iconst (pc := 28) (v := 1) (dc dl_X11_thingOf 17 rfl) ic_1 ?_
      refine s_icmp_ne (pc := 29) (tgt := 39) (dc dl_X11_thingOf 18 rfl) rfl ?_ ?_
      · refine s_aload_n (pc := 32) (dc dl_X11_thingOf 19 rfl) rfl rfl ?_
        refine s_getR (pc := 33) fl_X11_22 lk_Mo_0 kk_Mo_0_10 (dc dl_X11_thingOf 20 rfl) ?_
        refine s_iload_n (pc := 36) (dc dl_X11_thingOf 21 rfl) rfl rfl ?_
        refine s_iald (pc := 37) lk_Mo_5 (dc dl_X11_thingOf 22 rfl) (fun v17 => ?_)
        exact s_ireturn (pc := 38) rfl (dc dl_X11_thingOf 23 rfl)
      · refine s_iload_n (pc := 39) (dc dl_X11_thingOf 24 rfl) rfl rfl ?_
        refine s_iconst (pc := 40) (v := 2) (dc dl_X11_thingOf 25 rfl) ic_2 ?_
        refine s_icmp_ne (pc := 41) (tgt := 50) (dc dl_X11_thingOf 26 rfl) rfl ?_ ?_
        · refine s_aload_n (pc := 44) (dc dl_X11_thingOf 27 rfl) rfl rfl ?_
          refine s_iload_n (pc := 45) (dc dl_X11_thingOf 28 rfl) rfl rfl ?_
          refine s_call (pc := 46) (rest := []) hG (calls_V (mi := mX11_thingOf) (o := 0) (As := [.int x1]) (rest := []) hG (dc dl_X11_thingOf 29 rfl) mo_X11_inCloth mv_X11_inCloth ml_X11_167 ⟨Nat.le_of_ble_eq_true rfl, Nat.le_of_ble_eq_true rfl⟩ rfl rfl (Nat.le_of_ble_eq_true rfl) lk_Mo_0 rfl) (cn_X11_inCloth l G hG ad x1) rfl (fun r16 => ?_)
          exact s_ireturn (pc := 49) rfl (dc dl_X11_thingOf 30 rfl)
        · refine s_iload_n (pc := 50) (dc dl_X11_thingOf 31 rfl) rfl rfl ?_
          refine s_iconst (pc := 51) (v := 3) (dc dl_X11_thingOf 32 rfl) ic_3 ?_
          refine s_icmp_ne (pc := 52) (tgt := 66) (dc dl_X11_thingOf 33 rfl) rfl ?_ ?_
          · refine s_aload_n (pc := 55) (dc dl_X11_thingOf 34 rfl) rfl rfl ?_
            refine s_getR (pc := 56) fl_X11_7 lk_Mo_0 kk_Mo_0_1 (dc dl_X11_thingOf 35 rfl) ?_
            refine s_sipush (pc := 59) (v := 143) (dc dl_X11_thingOf 36 rfl) si_143 ?_
            refine s_iload_n (pc := 62) (dc dl_X11_thingOf 37 rfl) rfl rfl ?_
            refine s_iadd (pc := 63) (dc dl_X11_thingOf 38 rfl) ?_
            refine s_iald (pc := 64) lk_Mo_1 (dc dl_X11_thingOf 39 rfl) (fun v15 => ?_)
            exact s_ireturn (pc := 65) rfl (dc dl_X11_thingOf 40 rfl)
          · refine s_iload_n (pc := 66) (dc dl_X11_thingOf 41 rfl) rfl rfl ?_
            refine s_iconst (pc := 67) (v := 4) (dc dl_X11_thingOf 42 rfl) ic_4 ?_
            refine s_icmp_ne (pc := 68) (tgt := 82) (dc dl_X11_thingOf 43 rfl) rfl ?_ ?_
            · refine s_aload_n (pc := 71) (dc dl_X11_thingOf 44 rfl) rfl rfl ?_
              refine s_getR (pc := 72) fl_X11_7 lk_Mo_0 kk_Mo_0_1 (dc dl_X11_thingOf 45 rfl) ?_
              refine s_sipush (pc := 75) (v := 163) (dc dl_X11_thingOf 46 rfl) si_163 ?_
              refine s_iload_n (pc := 78) (dc dl_X11_thingOf 47 rfl) rfl rfl ?_
              refine s_iadd (pc := 79) (dc dl_X11_thingOf 48 rfl) ?_
              refine s_iald (pc := 80) lk_Mo_1 (dc dl_X11_thingOf 49 rfl) (fun v14 => ?_)
              exact s_ireturn (pc := 81) rfl (dc dl_X11_thingOf 50 rfl)
            · refine s_iload_n (pc := 82) (dc dl_X11_thingOf 51 rfl) rfl rfl ?_
              refine s_iconst (pc := 83) (v := 5) (dc dl_X11_thingOf 52 rfl) ic_5 ?_
              refine s_jn (pj := 93) (fun a3 : Unit => [some (.ref (ad 0)), some (.int x1), some (.int x2)]) (fun a3 : Unit => []) (fun a3 => ?_) (fun j2 hj2 => ?_)
              · refine s_aload_n (pc := 93) (dc dl_X11_thingOf 57 rfl) rfl rfl ?_
                refine s_iload_n (pc := 94) (dc dl_X11_thingOf 58 rfl) rfl rfl ?_
                refine s_call (pc := 95) (rest := []) hG (calls_V (mi := mX11_thingOf) (o := 0) (As := [.int x1]) (rest := []) hG (dc dl_X11_thingOf 59 rfl) mo_X11_inCloth mv_X11_inCloth ml_X11_167 ⟨Nat.le_of_ble_eq_true rfl, Nat.le_of_ble_eq_true rfl⟩ rfl rfl (Nat.le_of_ble_eq_true rfl) lk_Mo_0 rfl) (cn_X11_inCloth l G hG ad x1) rfl (fun r4 => ?_)
                refine s_iconst (pc := 98) (v := (-1)) (dc dl_X11_thingOf 60 rfl) ic_m1 ?_
                refine s_jn (pj := 124) (fun a6 : Int32 => [none, none, none]) (fun a6 : Int32 => [.int a6]) (fun a6 => ?_) (fun j5 hj5 => ?_)
                · exact s_ireturn (pc := 124) rfl (dc dl_X11_thingOf 74 rfl)
                · refine s_icmp_ne (pc := 99) (tgt := 106) (dc dl_X11_thingOf 61 rfl) rfl ?_ ?_
                  · refine s_iconst (pc := 102) (v := (-1)) (dc dl_X11_thingOf 62 rfl) ic_m1 ?_
                    refine s_goto (pc := 103) (tgt := 124) (dc dl_X11_thingOf 63 rfl) rfl ?_
                    exact s_wk (hj5 ((-1))) rfl
                  · refine s_iload_n (pc := 106) (dc dl_X11_thingOf 64 rfl) rfl rfl ?_
                    refine s_iconst (pc := 107) (v := 5) (dc dl_X11_thingOf 65 rfl) ic_5 ?_
                    refine s_icmp_ne (pc := 108) (tgt := 119) (dc dl_X11_thingOf 66 rfl) rfl ?_ ?_
                    · refine s_aload_n (pc := 111) (dc dl_X11_thingOf 67 rfl) rfl rfl ?_
                      refine s_iload_n (pc := 112) (dc dl_X11_thingOf 68 rfl) rfl rfl ?_
                      refine s_call (pc := 113) (rest := []) hG (calls_V (mi := mX11_thingOf) (o := 0) (As := [.int x1]) (rest := []) hG (dc dl_X11_thingOf 69 rfl) mo_X11_slipsOf mv_X11_slipsOf ml_X11_365 ⟨Nat.le_of_ble_eq_true rfl, Nat.le_of_ble_eq_true rfl⟩ rfl rfl (Nat.le_of_ble_eq_true rfl) lk_Mo_0 rfl) (cn_X11_slipsOf l G hG ad x1) rfl (fun r8 => ?_)
                      refine s_goto (pc := 116) (tgt := 124) (dc dl_X11_thingOf 70 rfl) rfl ?_
                      exact s_wk (hj5 r8) rfl
                    · refine s_aload_n (pc := 119) (dc dl_X11_thingOf 71 rfl) rfl rfl ?_
                      refine s_iload_n (pc := 120) (dc dl_X11_thingOf 72 rfl) rfl rfl ?_
                      refine s_call (pc := 121) (rest := []) hG (calls_V (mi := mX11_thingOf) (o := 0) (As := [.int x1]) (rest := []) hG (dc dl_X11_thingOf 73 rfl) mo_X11_tellsOf mv_X11_tellsOf ml_X11_395 ⟨Nat.le_of_ble_eq_true rfl, Nat.le_of_ble_eq_true rfl⟩ rfl rfl (Nat.le_of_ble_eq_true rfl) lk_Mo_0 rfl) (cn_X11_tellsOf l G hG ad x1) rfl (fun r7 => ?_)
                      exact s_wk (hj5 r7) rfl
              · refine s_icmp_eq (pc := 84) (tgt := 93) (dc dl_X11_thingOf 53 rfl) rfl ?_ ?_
                · exact s_wk (hj2 ()) rfl
                · refine s_iload_n (pc := 87) (dc dl_X11_thingOf 54 rfl) rfl rfl ?_
                  refine s_bipush (pc := 88) (v := 6) (dc dl_X11_thingOf 55 rfl) bi_6 ?_
                  refine s_icmp_ne (pc := 90) (tgt := 125) (dc dl_X11_thingOf 56 rfl) rfl ?_ ?_
                  · exact s_wk (hj2 ()) rfl
                  · refine s_aload_n (pc := 125) (dc dl_X11_thingOf 75 rfl) rfl rfl ?_
                    refine s_iload_n (pc := 126) (dc dl_X11_thingOf 76 rfl) rfl rfl ?_
                    refine s_bipush (pc := 127) (v := 20) (dc dl_X11_thingOf 77 rfl) bi_20 ?_
                    refine s_bipush (pc := 129) (v := 19) (dc dl_X11_thingOf 78 rfl) bi_19 ?_
                    refine s_aload_n (pc := 131) (dc dl_X11_thingOf 79 rfl) rfl rfl ?_
                    refine s_getI (pc := 132) fl_X11_140 lk_Mo_0 kk_Mo_0_7 (dc dl_X11_thingOf 80 rfl) (fun v9 => ?_)
                    refine s_iadd (pc := 135) (dc dl_X11_thingOf 81 rfl) ?_
                    refine s_call (pc := 136) (rest := []) hG (calls_V (mi := mX11_thingOf) (o := 0) (As := [.int x2, .int 20, .int (19 + v9)]) (rest := []) hG (dc dl_X11_thingOf 82 rfl) mo_X11_isIn mv_X11_isIn ml_X11_150 ⟨Nat.le_of_ble_eq_true rfl, Nat.le_of_ble_eq_true rfl⟩ rfl rfl (Nat.le_of_ble_eq_true rfl) lk_Mo_0 rfl) (cn_X11_isIn l G hG ad x2 20 (19 + v9)) rfl (fun r10 => ?_)
                    refine s_jn (pj := 156) (fun a12 : Int32 => [none, none, none]) (fun a12 : Int32 => [.int a12]) (fun a12 => ?_) (fun j11 hj11 => ?_)
                    · exact s_ireturn (pc := 156) rfl (dc dl_X11_thingOf 92 rfl)
                    · refine s_if_eq (pc := 139) (tgt := 154) (dc dl_X11_thingOf 83 rfl) rfl ?_ ?_
                      · refine s_bipush (pc := 154) (v := (-2)) (dc dl_X11_thingOf 91 rfl) bi_m2 ?_
                        exact s_wk (hj11 ((-2))) rfl
                      · refine s_aload_n (pc := 142) (dc dl_X11_thingOf 84 rfl) rfl rfl ?_
                        refine s_iload_n (pc := 143) (dc dl_X11_thingOf 85 rfl) rfl rfl ?_
                        refine s_iload_n (pc := 144) (dc dl_X11_thingOf 86 rfl) rfl rfl ?_
                        refine s_bipush (pc := 145) (v := 20) (dc dl_X11_thingOf 87 rfl) bi_20 ?_
                        refine s_isub (pc := 147) (dc dl_X11_thingOf 88 rfl) ?_
                        refine s_call (pc := 148) (rest := []) hG (calls_V (mi := mX11_thingOf) (o := 0) (As := [.int x1, .int (x2 - 20)]) (rest := []) hG (dc dl_X11_thingOf 89 rfl) mo_X11_tiesOf mv_X11_tiesOf ml_X11_352 ⟨Nat.le_of_ble_eq_true rfl, Nat.le_of_ble_eq_true rfl⟩ rfl rfl (Nat.le_of_ble_eq_true rfl) lk_Mo_0 rfl) (cn_X11_tiesOf l G hG ad x1 (x2 - 20)) rfl (fun r13 => ?_)
                        refine s_goto (pc := 151) (tgt := 156) (dc dl_X11_thingOf 90 rfl) rfl ?_
                        exact s_wk (hj11 r13) rfl
def gX11_book (x1 x2 : Int32) : MM Int32 :=
  bd (sv 0 0 0) fun _ =>
  bd (la 1 2) fun v1 =>
  bd (gX11_isIn x1 0 (v1 - 1)) fun r2 =>
  jn (fun (a4 : Int32) =>
  pr a4) (fun j3 =>
  jn (fun (a6 : Unit) =>
  j3 ((-2))) (fun j5 =>
  (if r2 = 0 then
  j5 ()
  else
  bd (gX11_isIn x2 0 3) fun r7 =>
  (if r7 = 0 then
  j5 ()
  else
  bd (la 6 ((4 * x1) + x2)) fun v8 =>
  j3 v8))))
set_option maxHeartbeats 4000000 in
theorem cn_X11_book (l : Launch) (G : Gl) (hG : gOk G) (ad : Nat → Nat) (x1 x2 : Int32) : Cn l G mX11_book 1 lay_Mo ad [.ref (ad 0), .int x1, .int x2] (gX11_book x1 x2) := by
  refine cn_of (lv := [some (.ref (ad 0)), some (.int x1), some (.int x2)]) (by decide +kernel) rfl (Nat.le_of_ble_eq_true rfl) rfl ?_
  unfold gX11_book
  refine s_aload_n (pc := 0) (dc dl_X11_book 0 rfl) rfl rfl ?_
  refine s_iconst (pc := 1) (v := 0) (dc dl_X11_book 1 rfl) ic_0 ?_
  refine s_putI (pc := 2) fw_X11_125 lk_Mo_0 kk_Mo_0_0 (dc dl_X11_book 2 rfl) ?_
  refine s_aload_n (pc := 5) (dc dl_X11_book 3 rfl) rfl rfl ?_
  refine s_iload_n (pc := 6) (dc dl_X11_book 4 rfl) rfl rfl ?_
  refine s_iconst (pc := 7) (v := 0) (dc dl_X11_book 5 rfl) ic_0 ?_
  refine s_aload_n (pc := 8) (dc dl_X11_book 6 rfl) rfl rfl ?_
  refine s_getR (pc := 9) fl_X11_7 lk_Mo_0 kk_Mo_0_1 (dc dl_X11_book 7 rfl) ?_
  refine s_iconst (pc := 12) (v := 2) (dc dl_X11_book 8 rfl) ic_2 ?_
  refine s_iald (pc := 13) lk_Mo_1 (dc dl_X11_book 9 rfl) (fun v1 => ?_)
  refine s_iconst (pc := 14) (v := 1) (dc dl_X11_book 10 rfl) ic_1 ?_
  refine s_isub (pc := 15) (dc dl_X11_book 11 rfl) ?_
  refine s_call (pc := 16) (rest := []) hG (calls_V (mi := mX11_book) (o := 0) (As := [.int x1, .int 0, .int (v1 - 1)]) (rest := []) hG (dc dl_X11_book 12 rfl) mo_X11_isIn mv_X11_isIn ml_X11_150 ⟨Nat.le_of_ble_eq_true rfl, Nat.le_of_ble_eq_true rfl⟩ rfl rfl (Nat.le_of_ble_eq_true rfl) lk_Mo_0 rfl) (cn_X11_isIn l G hG ad x1 0 (v1 - 1)) rfl (fun r2 => ?_)
  refine s_jn (pj := 47) (fun a4 : Int32 => [none, none, none]) (fun a4 : Int32 => [.int a4]) (fun a4 => ?_) (fun j3 hj3 => ?_)
  · exact s_ireturn (pc := 47) rfl (dc dl_X11_book 30 rfl)
  · refine s_jn (pj := 45) (fun a6 : Unit => [none, none, none]) (fun a6 : Unit => []) (fun a6 => ?_) (fun j5 hj5 => ?_)
    · refine s_bipush (pc := 45) (v := (-2)) (dc dl_X11_book 29 rfl) bi_m2 ?_
      exact s_wk (hj3 ((-2))) rfl
    · refine s_if_eq (pc := 19) (tgt := 45) (dc dl_X11_book 13 rfl) rfl ?_ ?_
      · exact s_wk (hj5 ()) rfl
      · refine s_aload_n (pc := 22) (dc dl_X11_book 14 rfl) rfl rfl ?_
        refine s_iload_n (pc := 23) (dc dl_X11_book 15 rfl) rfl rfl ?_
        refine s_iconst (pc := 24) (v := 0) (dc dl_X11_book 16 rfl) ic_0 ?_
        refine s_iconst (pc := 25) (v := 3) (dc dl_X11_book 17 rfl) ic_3 ?_
        refine s_call (pc := 26) (rest := []) hG (calls_V (mi := mX11_book) (o := 0) (As := [.int x2, .int 0, .int 3]) (rest := []) hG (dc dl_X11_book 18 rfl) mo_X11_isIn mv_X11_isIn ml_X11_150 ⟨Nat.le_of_ble_eq_true rfl, Nat.le_of_ble_eq_true rfl⟩ rfl rfl (Nat.le_of_ble_eq_true rfl) lk_Mo_0 rfl) (cn_X11_isIn l G hG ad x2 0 3) rfl (fun r7 => ?_)
        refine s_if_eq (pc := 29) (tgt := 45) (dc dl_X11_book 19 rfl) rfl ?_ ?_
        · exact s_wk (hj5 ()) rfl
        · refine s_aload_n (pc := 32) (dc dl_X11_book 20 rfl) rfl rfl ?_
          refine s_getR (pc := 33) fl_X11_25 lk_Mo_0 kk_Mo_0_11 (dc dl_X11_book 21 rfl) ?_
          refine s_iconst (pc := 36) (v := 4) (dc dl_X11_book 22 rfl) ic_4 ?_
          refine s_iload_n (pc := 37) (dc dl_X11_book 23 rfl) rfl rfl ?_
          refine s_imul (pc := 38) (dc dl_X11_book 24 rfl) ?_
          refine s_iload_n (pc := 39) (dc dl_X11_book 25 rfl) rfl rfl ?_
          refine s_iadd (pc := 40) (dc dl_X11_book 26 rfl) ?_
          refine s_iald (pc := 41) lk_Mo_6 (dc dl_X11_book 27 rfl) (fun v8 => ?_)
          refine s_goto (pc := 42) (tgt := 47) (dc dl_X11_book 28 rfl) rfl ?_
          exact s_wk (hj3 v8) rfl
def gX11_sumOf (x1 x2 : Int32) : MM Int32 :=
  loopC 100000 (fun (self1 : (Int32 × Int32) → MM Int32) (s2 : Int32 × Int32) =>
  (if x2 ≤ s2.2 then
  pr s2.1
  else
  bd (la 1 (x1 + s2.2)) fun v3 =>
  lt (s2.1 + v3) fun y4 =>
  lt (s2.2 + 1) fun y5 =>
  self1 (y4, y5))) (0, 0)
set_option maxHeartbeats 4000000 in
theorem cn_X11_sumOf (l : Launch) (G : Gl) (hG : gOk G) (ad : Nat → Nat) (x1 x2 : Int32) : Cn l G mX11_sumOf 0 lay_Mo ad [.ref (ad 0), .int x1, .int x2] (gX11_sumOf x1 x2) := by
  refine cn_of (lv := [some (.ref (ad 0)), some (.int x1), some (.int x2), none, none]) (by decide +kernel) rfl (Nat.le_of_ble_eq_true rfl) rfl ?_
  unfold gX11_sumOf
  refine s_iconst (pc := 0) (v := 0) (dc dl_X11_sumOf 0 rfl) ic_0 ?_
  refine s_istore_n (pc := 1) (lv' := [some (.ref (ad 0)), some (.int x1), some (.int x2), some (.int 0), none]) (dc dl_X11_sumOf 1 rfl) rfl (Nat.le_of_ble_eq_true rfl) rfl ?_
  refine s_iconst (pc := 2) (v := 0) (dc dl_X11_sumOf 2 rfl) ic_0 ?_
  refine s_istore (pc := 3) (lv' := [some (.ref (ad 0)), some (.int x1), some (.int x2), some (.int 0), some (.int 0)]) (dc dl_X11_sumOf 3 rfl) (Nat.le_of_ble_eq_true rfl) rfl ?_
  refine s_weak (lv' := [some (.ref (ad 0)), some (.int x1), some (.int x2), some (.int 0), some (.int 0)]) rfl ?_
  refine s_loop (pc := 5) (fun s2 : Int32 × Int32 => [some (.ref (ad 0)), some (.int x1), some (.int x2), some (.int s2.1), some (.int s2.2)]) [] (fun self1 hself1 s2 => ?_) _ (0, 0)
  refine s_iload (pc := 5) (dc dl_X11_sumOf 4 rfl) rfl ?_
  refine s_iload_n (pc := 7) (dc dl_X11_sumOf 5 rfl) rfl rfl ?_
  refine s_icmp_ge (pc := 8) (tgt := 29) (dc dl_X11_sumOf 6 rfl) rfl ?_ ?_
  · refine s_iload_n (pc := 29) (dc dl_X11_sumOf 18 rfl) rfl rfl ?_
    exact s_ireturn (pc := 30) rfl (dc dl_X11_sumOf 19 rfl)
  · refine s_iload_n (pc := 11) (dc dl_X11_sumOf 7 rfl) rfl rfl ?_
    refine s_aload_n (pc := 12) (dc dl_X11_sumOf 8 rfl) rfl rfl ?_
    refine s_getR (pc := 13) fl_X11_7 lk_Mo_0 kk_Mo_0_1 (dc dl_X11_sumOf 9 rfl) ?_
    refine s_iload_n (pc := 16) (dc dl_X11_sumOf 10 rfl) rfl rfl ?_
    refine s_iload (pc := 17) (dc dl_X11_sumOf 11 rfl) rfl ?_
    refine s_iadd (pc := 19) (dc dl_X11_sumOf 12 rfl) ?_
    refine s_iald (pc := 20) lk_Mo_1 (dc dl_X11_sumOf 13 rfl) (fun v3 => ?_)
    refine s_iadd (pc := 21) (dc dl_X11_sumOf 14 rfl) ?_
    refine s_istore_nL (pc := 22) (lf' := fun y4 => [some (.ref (ad 0)), some (.int x1), some (.int x2), some (.int y4), some (.int s2.2)]) (dc dl_X11_sumOf 15 rfl) rfl (Nat.le_of_ble_eq_true rfl) (fun _ => rfl) (fun y4 => ?_)
    refine s_iincL (pc := 23) (lf' := fun y5 => [some (.ref (ad 0)), some (.int x1), some (.int x2), some (.int y4), some (.int y5)]) (dc dl_X11_sumOf 16 rfl) rfl rfl (Nat.le_of_ble_eq_true rfl) (fun _ => rfl) (fun y5 => ?_)
    refine s_goto (pc := 26) (tgt := 5) (dc dl_X11_sumOf 17 rfl) rfl ?_
    exact s_wk (hself1 (y4, y5)) rfl
def gX11_allKnots : MM Int32 :=
  loopC 100000 (fun (self1 : (Int32 × Int32) → MM Int32) (s2 : Int32 × Int32) =>
  bd (ld 0 7) fun v3 =>
  (if v3 ≤ s2.2 then
  pr s2.1
  else
  bd (gX11_knotsOf s2.2) fun r4 =>
  lt (s2.1 + r4) fun y5 =>
  lt (s2.2 + 1) fun y6 =>
  self1 (y5, y6))) (0, 0)
set_option maxHeartbeats 4000000 in
theorem cn_X11_allKnots (l : Launch) (G : Gl) (hG : gOk G) (ad : Nat → Nat) : Cn l G mX11_allKnots 2 lay_Mo ad [.ref (ad 0)] (gX11_allKnots) := by
  refine cn_of (lv := [some (.ref (ad 0)), none, none]) (by decide +kernel) rfl (Nat.le_of_ble_eq_true rfl) rfl ?_
  unfold gX11_allKnots
  refine s_iconst (pc := 0) (v := 0) (dc dl_X11_allKnots 0 rfl) ic_0 ?_
  refine s_istore_n (pc := 1) (lv' := [some (.ref (ad 0)), some (.int 0), none]) (dc dl_X11_allKnots 1 rfl) rfl (Nat.le_of_ble_eq_true rfl) rfl ?_
  refine s_iconst (pc := 2) (v := 0) (dc dl_X11_allKnots 2 rfl) ic_0 ?_
  refine s_istore_n (pc := 3) (lv' := [some (.ref (ad 0)), some (.int 0), some (.int 0)]) (dc dl_X11_allKnots 3 rfl) rfl (Nat.le_of_ble_eq_true rfl) rfl ?_
  refine s_weak (lv' := [some (.ref (ad 0)), some (.int 0), some (.int 0)]) rfl ?_
  refine s_loop (pc := 4) (fun s2 : Int32 × Int32 => [some (.ref (ad 0)), some (.int s2.1), some (.int s2.2)]) [] (fun self1 hself1 s2 => ?_) _ (0, 0)
  refine s_iload_n (pc := 4) (dc dl_X11_allKnots 4 rfl) rfl rfl ?_
  refine s_aload_n (pc := 5) (dc dl_X11_allKnots 5 rfl) rfl rfl ?_
  refine s_getI (pc := 6) fl_X11_140 lk_Mo_0 kk_Mo_0_7 (dc dl_X11_allKnots 6 rfl) (fun v3 => ?_)
  refine s_icmp_ge (pc := 9) (tgt := 26) (dc dl_X11_allKnots 7 rfl) rfl ?_ ?_
  · refine s_iload_n (pc := 26) (dc dl_X11_allKnots 16 rfl) rfl rfl ?_
    exact s_ireturn (pc := 27) rfl (dc dl_X11_allKnots 17 rfl)
  · refine s_iload_n (pc := 12) (dc dl_X11_allKnots 8 rfl) rfl rfl ?_
    refine s_aload_n (pc := 13) (dc dl_X11_allKnots 9 rfl) rfl rfl ?_
    refine s_iload_n (pc := 14) (dc dl_X11_allKnots 10 rfl) rfl rfl ?_
    refine s_call (pc := 15) (rest := [.int s2.1]) hG (calls_V (mi := mX11_allKnots) (o := 0) (As := [.int s2.2]) (rest := [.int s2.1]) hG (dc dl_X11_allKnots 11 rfl) mo_X11_knotsOf mv_X11_knotsOf ml_X11_329 ⟨Nat.le_of_ble_eq_true rfl, Nat.le_of_ble_eq_true rfl⟩ rfl rfl (Nat.le_of_ble_eq_true rfl) lk_Mo_0 rfl) (cn_X11_knotsOf l G hG ad s2.2) rfl (fun r4 => ?_)
    refine s_iadd (pc := 18) (dc dl_X11_allKnots 12 rfl) ?_
    refine s_istore_nL (pc := 19) (lf' := fun y5 => [some (.ref (ad 0)), some (.int y5), some (.int s2.2)]) (dc dl_X11_allKnots 13 rfl) rfl (Nat.le_of_ble_eq_true rfl) (fun _ => rfl) (fun y5 => ?_)
    refine s_iincL (pc := 20) (lf' := fun y6 => [some (.ref (ad 0)), some (.int y5), some (.int y6)]) (dc dl_X11_allKnots 14 rfl) rfl rfl (Nat.le_of_ble_eq_true rfl) (fun _ => rfl) (fun y6 => ?_)
    refine s_goto (pc := 23) (tgt := 4) (dc dl_X11_allKnots 15 rfl) rfl ?_
    exact s_wk (hself1 (y5, y6)) rfl
def gX11_goes (x1 x2 : Int32) : MM Int32 :=
  bd (sv 0 0 0) fun _ =>
  bd (gX11_isIn x1 1 60) fun r1 =>
  jn (fun (a3 : Unit) =>
  pr ((-1))) (fun j2 =>
  (if r1 = 0 then
  j2 ()
  else
  bd (gX11_isIn x2 0 3) fun r4 =>
  (if r4 = 0 then
  j2 ()
  else
  bd gX11_thinks fun r5 =>
  loopC 100000 (fun (self6 : Int32 → MM Int32) (s7 : Int32) =>
  (if x1 ≤ s7 then
  jn (fun (a9 : Int32) =>
  bd gX11_endsThought fun r10 =>
  pr a9) (fun j8 =>
  (if x2 = 0 then
  bd (ld 0 6) fun v16 =>
  bd (gX11_sumOf 15 v16) fun r17 =>
  j8 r17
  else
  (if x2 = 1 then
  bd (ld 0 6) fun v14 =>
  bd (gX11_sumOf 27 v14) fun r15 =>
  j8 r15
  else
  (if x2 = 2 then
  bd gX11_allKnots fun r13 =>
  j8 r13
  else
  bd (ld 0 8) fun v11 =>
  bd (gX11_sumOf 143 v11) fun r12 =>
  j8 r12))))
  else
  bd gX11_goesBy fun r18 =>
  lt (s7 + 1) fun y19 =>
  self6 y19)) 0)))
set_option maxHeartbeats 4000000 in
theorem cn_X11_goes (l : Launch) (G : Gl) (hG : gOk G) (ad : Nat → Nat) (x1 x2 : Int32) : Cn l G mX11_goes 8 lay_Mo ad [.ref (ad 0), .int x1, .int x2] (gX11_goes x1 x2) := by
  refine cn_of (lv := [some (.ref (ad 0)), some (.int x1), some (.int x2), none]) (by decide +kernel) rfl (Nat.le_of_ble_eq_true rfl) rfl ?_
  unfold gX11_goes
  refine s_aload_n (pc := 0) (dc dl_X11_goes 0 rfl) rfl rfl ?_
  refine s_iconst (pc := 1) (v := 0) (dc dl_X11_goes 1 rfl) ic_0 ?_
  refine s_putI (pc := 2) fw_X11_125 lk_Mo_0 kk_Mo_0_0 (dc dl_X11_goes 2 rfl) ?_
  refine s_aload_n (pc := 5) (dc dl_X11_goes 3 rfl) rfl rfl ?_
  refine s_iload_n (pc := 6) (dc dl_X11_goes 4 rfl) rfl rfl ?_
  refine s_iconst (pc := 7) (v := 1) (dc dl_X11_goes 5 rfl) ic_1 ?_
  refine s_bipush (pc := 8) (v := 60) (dc dl_X11_goes 6 rfl) bi_60 ?_
  refine s_call (pc := 10) (rest := []) hG (calls_V (mi := mX11_goes) (o := 0) (As := [.int x1, .int 1, .int 60]) (rest := []) hG (dc dl_X11_goes 7 rfl) mo_X11_isIn mv_X11_isIn ml_X11_150 ⟨Nat.le_of_ble_eq_true rfl, Nat.le_of_ble_eq_true rfl⟩ rfl rfl (Nat.le_of_ble_eq_true rfl) lk_Mo_0 rfl) (cn_X11_isIn l G hG ad x1 1 60) rfl (fun r1 => ?_)
  refine s_jn (pj := 26) (fun a3 : Unit => [none, none, none, none]) (fun a3 : Unit => []) (fun a3 => ?_) (fun j2 hj2 => ?_)
  · refine s_iconst (pc := 26) (v := (-1)) (dc dl_X11_goes 15 rfl) ic_m1 ?_
    exact s_ireturn (pc := 27) rfl (dc dl_X11_goes 16 rfl)
  · refine s_if_eq (pc := 13) (tgt := 26) (dc dl_X11_goes 8 rfl) rfl ?_ ?_
    · exact s_wk (hj2 ()) rfl
    · refine s_aload_n (pc := 16) (dc dl_X11_goes 9 rfl) rfl rfl ?_
      refine s_iload_n (pc := 17) (dc dl_X11_goes 10 rfl) rfl rfl ?_
      refine s_iconst (pc := 18) (v := 0) (dc dl_X11_goes 11 rfl) ic_0 ?_
      refine s_iconst (pc := 19) (v := 3) (dc dl_X11_goes 12 rfl) ic_3 ?_
      refine s_call (pc := 20) (rest := []) hG (calls_V (mi := mX11_goes) (o := 0) (As := [.int x2, .int 0, .int 3]) (rest := []) hG (dc dl_X11_goes 13 rfl) mo_X11_isIn mv_X11_isIn ml_X11_150 ⟨Nat.le_of_ble_eq_true rfl, Nat.le_of_ble_eq_true rfl⟩ rfl rfl (Nat.le_of_ble_eq_true rfl) lk_Mo_0 rfl) (cn_X11_isIn l G hG ad x2 0 3) rfl (fun r4 => ?_)
      refine s_if_ne (pc := 23) (tgt := 28) (dc dl_X11_goes 14 rfl) rfl ?_ ?_
      · exact s_wk (hj2 ()) rfl
      · refine s_aload_n (pc := 28) (dc dl_X11_goes 17 rfl) rfl rfl ?_
        refine s_callv (pc := 29) (rest := []) hG (calls_V (mi := mX11_goes) (o := 0) (As := []) (rest := []) hG (dc dl_X11_goes 18 rfl) mo_X11_thinks mv_X11_thinks ml_X11_411 ⟨Nat.le_of_ble_eq_true rfl, Nat.le_of_ble_eq_true rfl⟩ rfl rfl (Nat.le_of_ble_eq_true rfl) lk_Mo_0 rfl) (cn_X11_thinks l G hG ad) rfl (fun r5 => ?_)
        refine s_iconst (pc := 32) (v := 0) (dc dl_X11_goes 19 rfl) ic_0 ?_
        refine s_istore_n (pc := 33) (lv' := [some (.ref (ad 0)), some (.int x1), some (.int x2), some (.int 0)]) (dc dl_X11_goes 20 rfl) rfl (Nat.le_of_ble_eq_true rfl) rfl ?_
        refine s_weak (lv' := [some (.ref (ad 0)), some (.int x1), some (.int x2), some (.int 0)]) rfl ?_
        refine s_loop (pc := 34) (fun s7 : Int32 => [some (.ref (ad 0)), some (.int x1), some (.int x2), some (.int s7)]) [] (fun self6 hself6 s7 => ?_) _ 0
        refine s_iload_n (pc := 34) (dc dl_X11_goes 21 rfl) rfl rfl ?_
        refine s_iload_n (pc := 35) (dc dl_X11_goes 22 rfl) rfl rfl ?_
        refine s_icmp_ge (pc := 36) (tgt := 50) (dc dl_X11_goes 23 rfl) rfl ?_ ?_
        · refine s_iload_n (pc := 50) (dc dl_X11_goes 29 rfl) rfl rfl ?_
          refine s_jn (pj := 108) (fun a9 : Int32 => [some (.ref (ad 0)), none, none, none]) (fun a9 : Int32 => [.int a9]) (fun a9 => ?_) (fun j8 hj8 => ?_)
          · refine s_istore_n (pc := 108) (lv' := [some (.ref (ad 0)), none, none, some (.int a9)]) (dc dl_X11_goes 57 rfl) rfl (Nat.le_of_ble_eq_true rfl) rfl ?_
            refine s_aload_n (pc := 109) (dc dl_X11_goes 58 rfl) rfl rfl ?_
            refine s_callv (pc := 110) (rest := []) hG (calls_V (mi := mX11_goes) (o := 0) (As := []) (rest := []) hG (dc dl_X11_goes 59 rfl) mo_X11_endsThought mv_X11_endsThought ml_X11_420 ⟨Nat.le_of_ble_eq_true rfl, Nat.le_of_ble_eq_true rfl⟩ rfl rfl (Nat.le_of_ble_eq_true rfl) lk_Mo_0 rfl) (cn_X11_endsThought l G hG ad) rfl (fun r10 => ?_)
            refine s_iload_n (pc := 113) (dc dl_X11_goes 60 rfl) rfl rfl ?_
            exact s_ireturn (pc := 114) rfl (dc dl_X11_goes 61 rfl)
          · refine s_if_ne (pc := 51) (tgt := 67) (dc dl_X11_goes 30 rfl) rfl ?_ ?_
            · refine s_aload_n (pc := 54) (dc dl_X11_goes 31 rfl) rfl rfl ?_
              refine s_bipush (pc := 55) (v := 15) (dc dl_X11_goes 32 rfl) bi_15 ?_
              refine s_aload_n (pc := 57) (dc dl_X11_goes 33 rfl) rfl rfl ?_
              refine s_getI (pc := 58) fl_X11_137 lk_Mo_0 kk_Mo_0_6 (dc dl_X11_goes 34 rfl) (fun v16 => ?_)
              refine s_call (pc := 61) (rest := []) hG (calls_V (mi := mX11_goes) (o := 0) (As := [.int 15, .int v16]) (rest := []) hG (dc dl_X11_goes 35 rfl) mo_X11_sumOf mv_X11_sumOf ml_X11_414 ⟨Nat.le_of_ble_eq_true rfl, Nat.le_of_ble_eq_true rfl⟩ rfl rfl (Nat.le_of_ble_eq_true rfl) lk_Mo_0 rfl) (cn_X11_sumOf l G hG ad 15 v16) rfl (fun r17 => ?_)
              refine s_goto (pc := 64) (tgt := 108) (dc dl_X11_goes 36 rfl) rfl ?_
              exact s_wk (hj8 r17) rfl
            · refine s_iload_n (pc := 67) (dc dl_X11_goes 37 rfl) rfl rfl ?_
              refine s_iconst (pc := 68) (v := 1) (dc dl_X11_goes 38 rfl) ic_1 ?_
              refine s_icmp_ne (pc := 69) (tgt := 85) (dc dl_X11_goes 39 rfl) rfl ?_ ?_
              · refine s_aload_n (pc := 72) (dc dl_X11_goes 40 rfl) rfl rfl ?_
                refine s_bipush (pc := 73) (v := 27) (dc dl_X11_goes 41 rfl) bi_27 ?_
                refine s_aload_n (pc := 75) (dc dl_X11_goes 42 rfl) rfl rfl ?_
                refine s_getI (pc := 76) fl_X11_137 lk_Mo_0 kk_Mo_0_6 (dc dl_X11_goes 43 rfl) (fun v14 => ?_)
                refine s_call (pc := 79) (rest := []) hG (calls_V (mi := mX11_goes) (o := 0) (As := [.int 27, .int v14]) (rest := []) hG (dc dl_X11_goes 44 rfl) mo_X11_sumOf mv_X11_sumOf ml_X11_414 ⟨Nat.le_of_ble_eq_true rfl, Nat.le_of_ble_eq_true rfl⟩ rfl rfl (Nat.le_of_ble_eq_true rfl) lk_Mo_0 rfl) (cn_X11_sumOf l G hG ad 27 v14) rfl (fun r15 => ?_)
                refine s_goto (pc := 82) (tgt := 108) (dc dl_X11_goes 45 rfl) rfl ?_
                exact s_wk (hj8 r15) rfl
              · refine s_iload_n (pc := 85) (dc dl_X11_goes 46 rfl) rfl rfl ?_
                refine s_iconst (pc := 86) (v := 2) (dc dl_X11_goes 47 rfl) ic_2 ?_
                refine s_icmp_ne (pc := 87) (tgt := 97) (dc dl_X11_goes 48 rfl) rfl ?_ ?_
                · refine s_aload_n (pc := 90) (dc dl_X11_goes 49 rfl) rfl rfl ?_
                  refine s_call (pc := 91) (rest := []) hG (calls_V (mi := mX11_goes) (o := 0) (As := []) (rest := []) hG (dc dl_X11_goes 50 rfl) mo_X11_allKnots mv_X11_allKnots ml_X11_417 ⟨Nat.le_of_ble_eq_true rfl, Nat.le_of_ble_eq_true rfl⟩ rfl rfl (Nat.le_of_ble_eq_true rfl) lk_Mo_0 rfl) (cn_X11_allKnots l G hG ad) rfl (fun r13 => ?_)
                  refine s_goto (pc := 94) (tgt := 108) (dc dl_X11_goes 51 rfl) rfl ?_
                  exact s_wk (hj8 r13) rfl
                · refine s_aload_n (pc := 97) (dc dl_X11_goes 52 rfl) rfl rfl ?_
                  refine s_sipush (pc := 98) (v := 143) (dc dl_X11_goes 53 rfl) si_143 ?_
                  refine s_aload_n (pc := 101) (dc dl_X11_goes 54 rfl) rfl rfl ?_
                  refine s_getI (pc := 102) fl_X11_143 lk_Mo_0 kk_Mo_0_8 (dc dl_X11_goes 55 rfl) (fun v11 => ?_)
                  refine s_call (pc := 105) (rest := []) hG (calls_V (mi := mX11_goes) (o := 0) (As := [.int 143, .int v11]) (rest := []) hG (dc dl_X11_goes 56 rfl) mo_X11_sumOf mv_X11_sumOf ml_X11_414 ⟨Nat.le_of_ble_eq_true rfl, Nat.le_of_ble_eq_true rfl⟩ rfl rfl (Nat.le_of_ble_eq_true rfl) lk_Mo_0 rfl) (cn_X11_sumOf l G hG ad 143 v11) rfl (fun r12 => ?_)
                  exact s_wk (hj8 r12) rfl
        · refine s_aload_n (pc := 39) (dc dl_X11_goes 24 rfl) rfl rfl ?_
          refine s_call (pc := 40) (rest := []) hG (calls_V (mi := mX11_goes) (o := 0) (As := []) (rest := []) hG (dc dl_X11_goes 25 rfl) mo_X11_goesBy mv_X11_goesBy ml_X11_401 ⟨Nat.le_of_ble_eq_true rfl, Nat.le_of_ble_eq_true rfl⟩ rfl rfl (Nat.le_of_ble_eq_true rfl) lk_Mo_0 rfl) (cn_X11_goesBy l G hG ad) rfl (fun r18 => ?_)
          refine s_pop (pc := 43) (dc dl_X11_goes 26 rfl) rfl ?_
          refine s_iincL (pc := 44) (lf' := fun y19 => [some (.ref (ad 0)), some (.int x1), some (.int x2), some (.int y19)]) (dc dl_X11_goes 27 rfl) rfl rfl (Nat.le_of_ble_eq_true rfl) (fun _ => rfl) (fun y19 => ?_)
          refine s_goto (pc := 47) (tgt := 34) (dc dl_X11_goes 28 rfl) rfl ?_
          exact s_wk (hself6 y19) rfl
def gX11_fate (x1 : Int32) : MM Int32 :=
  bd (sv 0 0 0) fun _ =>
  bd (gX11_isThing x1) fun r1 =>
  (if r1 = 0 then
  pr ((-1))
  else
  bd gX11_thinks fun r2 =>
  loopC 100000 (fun (self3 : Int32 → MM Int32) (s4 : Int32) =>
  (if 60 ≤ s4 then
  bd (la 1 (163 + x1)) fun v5 =>
  bd gX11_endsThought fun r6 =>
  pr v5
  else
  bd gX11_goesBy fun r7 =>
  lt (s4 + 1) fun y8 =>
  self3 y8)) 0)
set_option maxHeartbeats 4000000 in
theorem cn_X11_fate (l : Launch) (G : Gl) (hG : gOk G) (ad : Nat → Nat) (x1 : Int32) : Cn l G mX11_fate 8 lay_Mo ad [.ref (ad 0), .int x1] (gX11_fate x1) := by
  refine cn_of (lv := [some (.ref (ad 0)), some (.int x1), none]) (by decide +kernel) rfl (Nat.le_of_ble_eq_true rfl) rfl ?_
  unfold gX11_fate
  refine s_aload_n (pc := 0) (dc dl_X11_fate 0 rfl) rfl rfl ?_
  refine s_iconst (pc := 1) (v := 0) (dc dl_X11_fate 1 rfl) ic_0 ?_
  refine s_putI (pc := 2) fw_X11_125 lk_Mo_0 kk_Mo_0_0 (dc dl_X11_fate 2 rfl) ?_
  refine s_aload_n (pc := 5) (dc dl_X11_fate 3 rfl) rfl rfl ?_
  refine s_iload_n (pc := 6) (dc dl_X11_fate 4 rfl) rfl rfl ?_
  refine s_call (pc := 7) (rest := []) hG (calls_V (mi := mX11_fate) (o := 0) (As := [.int x1]) (rest := []) hG (dc dl_X11_fate 5 rfl) mo_X11_isThing mv_X11_isThing ml_X11_161 ⟨Nat.le_of_ble_eq_true rfl, Nat.le_of_ble_eq_true rfl⟩ rfl rfl (Nat.le_of_ble_eq_true rfl) lk_Mo_0 rfl) (cn_X11_isThing l G hG ad x1) rfl (fun r1 => ?_)
  refine s_if_ne (pc := 10) (tgt := 15) (dc dl_X11_fate 6 rfl) rfl ?_ ?_
  · refine s_iconst (pc := 13) (v := (-1)) (dc dl_X11_fate 7 rfl) ic_m1 ?_
    exact s_ireturn (pc := 14) rfl (dc dl_X11_fate 8 rfl)
  · refine s_aload_n (pc := 15) (dc dl_X11_fate 9 rfl) rfl rfl ?_
    refine s_callv (pc := 16) (rest := []) hG (calls_V (mi := mX11_fate) (o := 0) (As := []) (rest := []) hG (dc dl_X11_fate 10 rfl) mo_X11_thinks mv_X11_thinks ml_X11_411 ⟨Nat.le_of_ble_eq_true rfl, Nat.le_of_ble_eq_true rfl⟩ rfl rfl (Nat.le_of_ble_eq_true rfl) lk_Mo_0 rfl) (cn_X11_thinks l G hG ad) rfl (fun r2 => ?_)
    refine s_iconst (pc := 19) (v := 0) (dc dl_X11_fate 11 rfl) ic_0 ?_
    refine s_istore_n (pc := 20) (lv' := [some (.ref (ad 0)), some (.int x1), some (.int 0)]) (dc dl_X11_fate 12 rfl) rfl (Nat.le_of_ble_eq_true rfl) rfl ?_
    refine s_weak (lv' := [some (.ref (ad 0)), some (.int x1), some (.int 0)]) rfl ?_
    refine s_loop (pc := 21) (fun s4 : Int32 => [some (.ref (ad 0)), some (.int x1), some (.int s4)]) [] (fun self3 hself3 s4 => ?_) _ 0
    refine s_iload_n (pc := 21) (dc dl_X11_fate 13 rfl) rfl rfl ?_
    refine s_bipush (pc := 22) (v := 60) (dc dl_X11_fate 14 rfl) bi_60 ?_
    refine s_icmp_ge (pc := 24) (tgt := 38) (dc dl_X11_fate 15 rfl) rfl ?_ ?_
    · refine s_aload_n (pc := 38) (dc dl_X11_fate 21 rfl) rfl rfl ?_
      refine s_getR (pc := 39) fl_X11_7 lk_Mo_0 kk_Mo_0_1 (dc dl_X11_fate 22 rfl) ?_
      refine s_sipush (pc := 42) (v := 163) (dc dl_X11_fate 23 rfl) si_163 ?_
      refine s_iload_n (pc := 45) (dc dl_X11_fate 24 rfl) rfl rfl ?_
      refine s_iadd (pc := 46) (dc dl_X11_fate 25 rfl) ?_
      refine s_iald (pc := 47) lk_Mo_1 (dc dl_X11_fate 26 rfl) (fun v5 => ?_)
      refine s_istore_n (pc := 48) (lv' := [some (.ref (ad 0)), some (.int x1), some (.int v5)]) (dc dl_X11_fate 27 rfl) rfl (Nat.le_of_ble_eq_true rfl) rfl ?_
      refine s_aload_n (pc := 49) (dc dl_X11_fate 28 rfl) rfl rfl ?_
      refine s_callv (pc := 50) (rest := []) hG (calls_V (mi := mX11_fate) (o := 0) (As := []) (rest := []) hG (dc dl_X11_fate 29 rfl) mo_X11_endsThought mv_X11_endsThought ml_X11_420 ⟨Nat.le_of_ble_eq_true rfl, Nat.le_of_ble_eq_true rfl⟩ rfl rfl (Nat.le_of_ble_eq_true rfl) lk_Mo_0 rfl) (cn_X11_endsThought l G hG ad) rfl (fun r6 => ?_)
      refine s_iload_n (pc := 53) (dc dl_X11_fate 30 rfl) rfl rfl ?_
      exact s_ireturn (pc := 54) rfl (dc dl_X11_fate 31 rfl)
    · refine s_aload_n (pc := 27) (dc dl_X11_fate 16 rfl) rfl rfl ?_
      refine s_call (pc := 28) (rest := []) hG (calls_V (mi := mX11_fate) (o := 0) (As := []) (rest := []) hG (dc dl_X11_fate 17 rfl) mo_X11_goesBy mv_X11_goesBy ml_X11_401 ⟨Nat.le_of_ble_eq_true rfl, Nat.le_of_ble_eq_true rfl⟩ rfl rfl (Nat.le_of_ble_eq_true rfl) lk_Mo_0 rfl) (cn_X11_goesBy l G hG ad) rfl (fun r7 => ?_)
      refine s_pop (pc := 31) (dc dl_X11_fate 18 rfl) rfl ?_
      refine s_iincL (pc := 32) (lf' := fun y8 => [some (.ref (ad 0)), some (.int x1), some (.int y8)]) (dc dl_X11_fate 19 rfl) rfl rfl (Nat.le_of_ble_eq_true rfl) (fun _ => rfl) (fun y8 => ?_)
      refine s_goto (pc := 35) (tgt := 21) (dc dl_X11_fate 20 rfl) rfl ?_
      exact s_wk (hself3 y8) rfl
def gX11_crossing (x1 : Int32) : MM Int32 :=
  bd (sv 0 0 0) fun _ =>
  (if x1 = 0 then
  bd (sv 0 43 0) fun _ =>
  pr 0
  else
  bd (gX11_isIn x1 ((-4)) 4) fun r1 =>
  jn (fun (a3 : Unit) =>
  pr ((-1))) (fun j2 =>
  (if r1 = 0 then
  j2 ()
  else
  bd (ld 0 43) fun v4 =>
  (if v4 = 12 then
  j2 ()
  else
  bd (ld 0 43) fun v5 =>
  bd (sa 22 v5 x1) fun _ =>
  bd (ld 0 43) fun v6 =>
  bd (sv 0 43 (v6 + 1)) fun _ =>
  bd (ld 0 43) fun v7 =>
  pr v7))))
set_option maxHeartbeats 4000000 in
theorem cn_X11_crossing (l : Launch) (G : Gl) (hG : gOk G) (ad : Nat → Nat) (x1 : Int32) : Cn l G mX11_crossing 1 lay_Mo ad [.ref (ad 0), .int x1] (gX11_crossing x1) := by
  refine cn_of (lv := [some (.ref (ad 0)), some (.int x1)]) (by decide +kernel) rfl (Nat.le_of_ble_eq_true rfl) rfl ?_
  unfold gX11_crossing
  refine s_aload_n (pc := 0) (dc dl_X11_crossing 0 rfl) rfl rfl ?_
  refine s_iconst (pc := 1) (v := 0) (dc dl_X11_crossing 1 rfl) ic_0 ?_
  refine s_putI (pc := 2) fw_X11_125 lk_Mo_0 kk_Mo_0_0 (dc dl_X11_crossing 2 rfl) ?_
  refine s_iload_n (pc := 5) (dc dl_X11_crossing 3 rfl) rfl rfl ?_
  refine s_if_ne (pc := 6) (tgt := 16) (dc dl_X11_crossing 4 rfl) rfl ?_ ?_
  · refine s_aload_n (pc := 9) (dc dl_X11_crossing 5 rfl) rfl rfl ?_
    refine s_iconst (pc := 10) (v := 0) (dc dl_X11_crossing 6 rfl) ic_0 ?_
    refine s_putI (pc := 11) fw_X11_423 lk_Mo_0 kk_Mo_0_43 (dc dl_X11_crossing 7 rfl) ?_
    refine s_iconst (pc := 14) (v := 0) (dc dl_X11_crossing 8 rfl) ic_0 ?_
    exact s_ireturn (pc := 15) rfl (dc dl_X11_crossing 9 rfl)
  · refine s_aload_n (pc := 16) (dc dl_X11_crossing 10 rfl) rfl rfl ?_
    refine s_iload_n (pc := 17) (dc dl_X11_crossing 11 rfl) rfl rfl ?_
    refine s_bipush (pc := 18) (v := (-4)) (dc dl_X11_crossing 12 rfl) bi_m4 ?_
    refine s_iconst (pc := 20) (v := 4) (dc dl_X11_crossing 13 rfl) ic_4 ?_
    refine s_call (pc := 21) (rest := []) hG (calls_V (mi := mX11_crossing) (o := 0) (As := [.int x1, .int ((-4)), .int 4]) (rest := []) hG (dc dl_X11_crossing 14 rfl) mo_X11_isIn mv_X11_isIn ml_X11_150 ⟨Nat.le_of_ble_eq_true rfl, Nat.le_of_ble_eq_true rfl⟩ rfl rfl (Nat.le_of_ble_eq_true rfl) lk_Mo_0 rfl) (cn_X11_isIn l G hG ad x1 ((-4)) 4) rfl (fun r1 => ?_)
    refine s_jn (pj := 36) (fun a3 : Unit => [none, none]) (fun a3 : Unit => []) (fun a3 => ?_) (fun j2 hj2 => ?_)
    · refine s_iconst (pc := 36) (v := (-1)) (dc dl_X11_crossing 20 rfl) ic_m1 ?_
      exact s_ireturn (pc := 37) rfl (dc dl_X11_crossing 21 rfl)
    · refine s_if_eq (pc := 24) (tgt := 36) (dc dl_X11_crossing 15 rfl) rfl ?_ ?_
      · exact s_wk (hj2 ()) rfl
      · refine s_aload_n (pc := 27) (dc dl_X11_crossing 16 rfl) rfl rfl ?_
        refine s_getI (pc := 28) fl_X11_423 lk_Mo_0 kk_Mo_0_43 (dc dl_X11_crossing 17 rfl) (fun v4 => ?_)
        refine s_bipush (pc := 31) (v := 12) (dc dl_X11_crossing 18 rfl) bi_12 ?_
        refine s_icmp_ne (pc := 33) (tgt := 38) (dc dl_X11_crossing 19 rfl) rfl ?_ ?_
        · exact s_wk (hj2 ()) rfl
        · refine s_aload_n (pc := 38) (dc dl_X11_crossing 22 rfl) rfl rfl ?_
          refine s_getR (pc := 39) fl_X11_77 lk_Mo_0 kk_Mo_0_44 (dc dl_X11_crossing 23 rfl) ?_
          refine s_aload_n (pc := 42) (dc dl_X11_crossing 24 rfl) rfl rfl ?_
          refine s_getI (pc := 43) fl_X11_423 lk_Mo_0 kk_Mo_0_43 (dc dl_X11_crossing 25 rfl) (fun v5 => ?_)
          refine s_iload_n (pc := 46) (dc dl_X11_crossing 26 rfl) rfl rfl ?_
          refine s_iast (pc := 47) lk_Mo_22 (dc dl_X11_crossing 27 rfl) ?_
          refine s_aload_n (pc := 48) (dc dl_X11_crossing 28 rfl) rfl rfl ?_
          refine s_aload_n (pc := 49) (dc dl_X11_crossing 29 rfl) rfl rfl ?_
          refine s_getI (pc := 50) fl_X11_423 lk_Mo_0 kk_Mo_0_43 (dc dl_X11_crossing 30 rfl) (fun v6 => ?_)
          refine s_iconst (pc := 53) (v := 1) (dc dl_X11_crossing 31 rfl) ic_1 ?_
          refine s_iadd (pc := 54) (dc dl_X11_crossing 32 rfl) ?_
          refine s_putI (pc := 55) fw_X11_423 lk_Mo_0 kk_Mo_0_43 (dc dl_X11_crossing 33 rfl) ?_
          refine s_aload_n (pc := 58) (dc dl_X11_crossing 34 rfl) rfl rfl ?_
          refine s_getI (pc := 59) fl_X11_423 lk_Mo_0 kk_Mo_0_43 (dc dl_X11_crossing 35 rfl) (fun v7 => ?_)
          exact s_ireturn (pc := 62) rfl (dc dl_X11_crossing 36 rfl)
def gX11_braid (x1 : Int32) : MM Int32 :=
  bd (sv 0 0 0) fun _ =>
  bd (gX11_isIn x1 ((-1)) 4) fun r1 =>
  (if r1 = 0 then
  pr ((-1))
  else
  loopC 100000 (fun (self2 : (Int32 × Int32 × Int32) → MM Int32) (s3 : Int32 × Int32 × Int32) =>
  bd (ld 0 43) fun v4 =>
  (if v4 ≤ s3.2.2 then
  jn (fun (a6 : Int32) =>
  pr a6) (fun j5 =>
  (if x1 = ((-1)) then
  j5 s3.2.1
  else
  j5 s3.1))
  else
  bd (la 22 s3.2.2) fun v7 =>
  jn (fun (a9 : Int32) =>
  jn (fun (a11 : Int32) =>
  jn (fun (a13 : Int32) =>
  lt (s3.2.2 + 1) fun y14 =>
  self2 (a11, a13, y14)) (fun j12 =>
  jn (fun (a16 : Unit) =>
  bd (la 22 s3.2.2) fun v17 =>
  bd (sa 23 s3.2.1 v17) fun _ =>
  lt (s3.2.1 + 1) fun y18 =>
  j12 y18) (fun j15 =>
  (if s3.2.1 ≤ 0 then
  j15 ()
  else
  bd (la 23 (s3.2.1 - 1)) fun v19 =>
  bd (la 22 s3.2.2) fun v20 =>
  (if v19 = (-v20) then
  lt (s3.2.1 - 1) fun y21 =>
  j12 y21
  else
  j15 ()))))) (fun j10 =>
  (if s3.1 = (a9 - 1) then
  j10 a9
  else
  (if s3.1 = a9 then
  j10 (a9 - 1)
  else
  j10 s3.1)))) (fun j8 =>
  (if 0 ≤ v7 then
  bd (la 22 s3.2.2) fun v22 =>
  j8 v22
  else
  bd (la 22 s3.2.2) fun v23 =>
  j8 (-v23))))) (x1, 0, 0))
set_option maxHeartbeats 4000000 in
theorem cn_X11_braid (l : Launch) (G : Gl) (hG : gOk G) (ad : Nat → Nat) (x1 : Int32) : Cn l G mX11_braid 1 lay_Mo ad [.ref (ad 0), .int x1] (gX11_braid x1) := by
  refine cn_of (lv := [some (.ref (ad 0)), some (.int x1), none, none, none, none]) (by decide +kernel) rfl (Nat.le_of_ble_eq_true rfl) rfl ?_
  unfold gX11_braid
  refine s_aload_n (pc := 0) (dc dl_X11_braid 0 rfl) rfl rfl ?_
  refine s_iconst (pc := 1) (v := 0) (dc dl_X11_braid 1 rfl) ic_0 ?_
  refine s_putI (pc := 2) fw_X11_125 lk_Mo_0 kk_Mo_0_0 (dc dl_X11_braid 2 rfl) ?_
  refine s_aload_n (pc := 5) (dc dl_X11_braid 3 rfl) rfl rfl ?_
  refine s_iload_n (pc := 6) (dc dl_X11_braid 4 rfl) rfl rfl ?_
  refine s_iconst (pc := 7) (v := (-1)) (dc dl_X11_braid 5 rfl) ic_m1 ?_
  refine s_iconst (pc := 8) (v := 4) (dc dl_X11_braid 6 rfl) ic_4 ?_
  refine s_call (pc := 9) (rest := []) hG (calls_V (mi := mX11_braid) (o := 0) (As := [.int x1, .int ((-1)), .int 4]) (rest := []) hG (dc dl_X11_braid 7 rfl) mo_X11_isIn mv_X11_isIn ml_X11_150 ⟨Nat.le_of_ble_eq_true rfl, Nat.le_of_ble_eq_true rfl⟩ rfl rfl (Nat.le_of_ble_eq_true rfl) lk_Mo_0 rfl) (cn_X11_isIn l G hG ad x1 ((-1)) 4) rfl (fun r1 => ?_)
  refine s_if_ne (pc := 12) (tgt := 17) (dc dl_X11_braid 8 rfl) rfl ?_ ?_
  · refine s_iconst (pc := 15) (v := (-1)) (dc dl_X11_braid 9 rfl) ic_m1 ?_
    exact s_ireturn (pc := 16) rfl (dc dl_X11_braid 10 rfl)
  · refine s_iload_n (pc := 17) (dc dl_X11_braid 11 rfl) rfl rfl ?_
    refine s_istore_n (pc := 18) (lv' := [some (.ref (ad 0)), some (.int x1), some (.int x1), none, none, none]) (dc dl_X11_braid 12 rfl) rfl (Nat.le_of_ble_eq_true rfl) rfl ?_
    refine s_iconst (pc := 19) (v := 0) (dc dl_X11_braid 13 rfl) ic_0 ?_
    refine s_istore_n (pc := 20) (lv' := [some (.ref (ad 0)), some (.int x1), some (.int x1), some (.int 0), none, none]) (dc dl_X11_braid 14 rfl) rfl (Nat.le_of_ble_eq_true rfl) rfl ?_
    refine s_iconst (pc := 21) (v := 0) (dc dl_X11_braid 15 rfl) ic_0 ?_
    refine s_istore (pc := 22) (lv' := [some (.ref (ad 0)), some (.int x1), some (.int x1), some (.int 0), some (.int 0), none]) (dc dl_X11_braid 16 rfl) (Nat.le_of_ble_eq_true rfl) rfl ?_
    refine s_weak (lv' := [some (.ref (ad 0)), some (.int x1), some (.int x1), some (.int 0), some (.int 0), none]) rfl ?_
    refine s_loop (pc := 24) (fun s3 : Int32 × Int32 × Int32 => [some (.ref (ad 0)), some (.int x1), some (.int s3.1), some (.int s3.2.1), some (.int s3.2.2), none]) [] (fun self2 hself2 s3 => ?_) _ (x1, 0, 0)
    refine s_iload (pc := 24) (dc dl_X11_braid 17 rfl) rfl ?_
    refine s_aload_n (pc := 26) (dc dl_X11_braid 18 rfl) rfl rfl ?_
    refine s_getI (pc := 27) fl_X11_423 lk_Mo_0 kk_Mo_0_43 (dc dl_X11_braid 19 rfl) (fun v4 => ?_)
    refine s_icmp_ge (pc := 30) (tgt := 144) (dc dl_X11_braid 20 rfl) rfl ?_ ?_
    · refine s_iload_n (pc := 144) (dc dl_X11_braid 86 rfl) rfl rfl ?_
      refine s_iconst (pc := 145) (v := (-1)) (dc dl_X11_braid 87 rfl) ic_m1 ?_
      refine s_jn (pj := 154) (fun a6 : Int32 => [none, none, none, none, none, none]) (fun a6 : Int32 => [.int a6]) (fun a6 => ?_) (fun j5 hj5 => ?_)
      · exact s_ireturn (pc := 154) rfl (dc dl_X11_braid 92 rfl)
      · refine s_icmp_ne (pc := 146) (tgt := 153) (dc dl_X11_braid 88 rfl) rfl ?_ ?_
        · refine s_iload_n (pc := 149) (dc dl_X11_braid 89 rfl) rfl rfl ?_
          refine s_goto (pc := 150) (tgt := 154) (dc dl_X11_braid 90 rfl) rfl ?_
          exact s_wk (hj5 s3.2.1) rfl
        · refine s_iload_n (pc := 153) (dc dl_X11_braid 91 rfl) rfl rfl ?_
          exact s_wk (hj5 s3.1) rfl
    · refine s_aload_n (pc := 33) (dc dl_X11_braid 21 rfl) rfl rfl ?_
      refine s_getR (pc := 34) fl_X11_77 lk_Mo_0 kk_Mo_0_44 (dc dl_X11_braid 22 rfl) ?_
      refine s_iload (pc := 37) (dc dl_X11_braid 23 rfl) rfl ?_
      refine s_iald (pc := 39) lk_Mo_22 (dc dl_X11_braid 24 rfl) (fun v7 => ?_)
      refine s_jn (pj := 61) (fun a9 : Int32 => [some (.ref (ad 0)), some (.int x1), some (.int s3.1), some (.int s3.2.1), some (.int s3.2.2), none]) (fun a9 : Int32 => [.int a9]) (fun a9 => ?_) (fun j8 hj8 => ?_)
      · refine s_istore (pc := 61) (lv' := [some (.ref (ad 0)), some (.int x1), some (.int s3.1), some (.int s3.2.1), some (.int s3.2.2), some (.int a9)]) (dc dl_X11_braid 36 rfl) (Nat.le_of_ble_eq_true rfl) rfl ?_
        refine s_iload_n (pc := 63) (dc dl_X11_braid 37 rfl) rfl rfl ?_
        refine s_iload (pc := 64) (dc dl_X11_braid 38 rfl) rfl ?_
        refine s_iconst (pc := 66) (v := 1) (dc dl_X11_braid 39 rfl) ic_1 ?_
        refine s_isub (pc := 67) (dc dl_X11_braid 40 rfl) ?_
        refine s_jn (pj := 90) (fun a11 : Int32 => [some (.ref (ad 0)), some (.int x1), none, some (.int s3.2.1), some (.int s3.2.2), none]) (fun a11 : Int32 => [.int a11]) (fun a11 => ?_) (fun j10 hj10 => ?_)
        · refine s_istore_n (pc := 90) (lv' := [some (.ref (ad 0)), some (.int x1), some (.int a11), some (.int s3.2.1), some (.int s3.2.2), none]) (dc dl_X11_braid 52 rfl) rfl (Nat.le_of_ble_eq_true rfl) rfl ?_
          refine s_iload_n (pc := 91) (dc dl_X11_braid 53 rfl) rfl rfl ?_
          refine s_jn (pj := 138) (fun a13 : Int32 => [some (.ref (ad 0)), some (.int x1), some (.int a11), some (.int a13), some (.int s3.2.2), none]) (fun a13 : Int32 => []) (fun a13 => ?_) (fun j12 hj12 => ?_)
          · refine s_iincL (pc := 138) (lf' := fun y14 => [some (.ref (ad 0)), some (.int x1), some (.int a11), some (.int a13), some (.int y14), none]) (dc dl_X11_braid 84 rfl) rfl rfl (Nat.le_of_ble_eq_true rfl) (fun _ => rfl) (fun y14 => ?_)
            refine s_goto (pc := 141) (tgt := 24) (dc dl_X11_braid 85 rfl) rfl ?_
            exact s_wk (hself2 (a11, a13, y14)) rfl
          · refine s_jn (pj := 121) (fun a16 : Unit => [some (.ref (ad 0)), some (.int x1), some (.int a11), some (.int s3.2.1), some (.int s3.2.2), none]) (fun a16 : Unit => []) (fun a16 => ?_) (fun j15 hj15 => ?_)
            · refine s_aload_n (pc := 121) (dc dl_X11_braid 72 rfl) rfl rfl ?_
              refine s_getR (pc := 122) fl_X11_80 lk_Mo_0 kk_Mo_0_45 (dc dl_X11_braid 73 rfl) ?_
              refine s_iload_n (pc := 125) (dc dl_X11_braid 74 rfl) rfl rfl ?_
              refine s_aload_n (pc := 126) (dc dl_X11_braid 75 rfl) rfl rfl ?_
              refine s_getR (pc := 127) fl_X11_77 lk_Mo_0 kk_Mo_0_44 (dc dl_X11_braid 76 rfl) ?_
              refine s_iload (pc := 130) (dc dl_X11_braid 77 rfl) rfl ?_
              refine s_iald (pc := 132) lk_Mo_22 (dc dl_X11_braid 78 rfl) (fun v17 => ?_)
              refine s_iast (pc := 133) lk_Mo_23 (dc dl_X11_braid 79 rfl) ?_
              refine s_iload_n (pc := 134) (dc dl_X11_braid 80 rfl) rfl rfl ?_
              refine s_iconst (pc := 135) (v := 1) (dc dl_X11_braid 81 rfl) ic_1 ?_
              refine s_iadd (pc := 136) (dc dl_X11_braid 82 rfl) ?_
              refine s_istore_nL (pc := 137) (lf' := fun y18 => [some (.ref (ad 0)), some (.int x1), some (.int a11), some (.int y18), some (.int s3.2.2), none]) (dc dl_X11_braid 83 rfl) rfl (Nat.le_of_ble_eq_true rfl) (fun _ => rfl) (fun y18 => ?_)
              exact s_wk (hj12 y18) rfl
            · refine s_if_le (pc := 92) (tgt := 121) (dc dl_X11_braid 54 rfl) rfl ?_ ?_
              · exact s_wk (hj15 ()) rfl
              · refine s_aload_n (pc := 95) (dc dl_X11_braid 55 rfl) rfl rfl ?_
                refine s_getR (pc := 96) fl_X11_80 lk_Mo_0 kk_Mo_0_45 (dc dl_X11_braid 56 rfl) ?_
                refine s_iload_n (pc := 99) (dc dl_X11_braid 57 rfl) rfl rfl ?_
                refine s_iconst (pc := 100) (v := 1) (dc dl_X11_braid 58 rfl) ic_1 ?_
                refine s_isub (pc := 101) (dc dl_X11_braid 59 rfl) ?_
                refine s_iald (pc := 102) lk_Mo_23 (dc dl_X11_braid 60 rfl) (fun v19 => ?_)
                refine s_aload_n (pc := 103) (dc dl_X11_braid 61 rfl) rfl rfl ?_
                refine s_getR (pc := 104) fl_X11_77 lk_Mo_0 kk_Mo_0_44 (dc dl_X11_braid 62 rfl) ?_
                refine s_iload (pc := 107) (dc dl_X11_braid 63 rfl) rfl ?_
                refine s_iald (pc := 109) lk_Mo_22 (dc dl_X11_braid 64 rfl) (fun v20 => ?_)
                refine s_ineg (pc := 110) (dc dl_X11_braid 65 rfl) ?_
                refine s_icmp_ne (pc := 111) (tgt := 121) (dc dl_X11_braid 66 rfl) rfl ?_ ?_
                · refine s_iload_n (pc := 114) (dc dl_X11_braid 67 rfl) rfl rfl ?_
                  refine s_iconst (pc := 115) (v := 1) (dc dl_X11_braid 68 rfl) ic_1 ?_
                  refine s_isub (pc := 116) (dc dl_X11_braid 69 rfl) ?_
                  refine s_istore_nL (pc := 117) (lf' := fun y21 => [some (.ref (ad 0)), some (.int x1), some (.int a11), some (.int y21), some (.int s3.2.2), none]) (dc dl_X11_braid 70 rfl) rfl (Nat.le_of_ble_eq_true rfl) (fun _ => rfl) (fun y21 => ?_)
                  refine s_goto (pc := 118) (tgt := 138) (dc dl_X11_braid 71 rfl) rfl ?_
                  exact s_wk (hj12 y21) rfl
                · exact s_wk (hj15 ()) rfl
        · refine s_icmp_ne (pc := 68) (tgt := 76) (dc dl_X11_braid 41 rfl) rfl ?_ ?_
          · refine s_iload (pc := 71) (dc dl_X11_braid 42 rfl) rfl ?_
            refine s_goto (pc := 73) (tgt := 90) (dc dl_X11_braid 43 rfl) rfl ?_
            exact s_wk (hj10 a9) rfl
          · refine s_iload_n (pc := 76) (dc dl_X11_braid 44 rfl) rfl rfl ?_
            refine s_iload (pc := 77) (dc dl_X11_braid 45 rfl) rfl ?_
            refine s_icmp_ne (pc := 79) (tgt := 89) (dc dl_X11_braid 46 rfl) rfl ?_ ?_
            · refine s_iload (pc := 82) (dc dl_X11_braid 47 rfl) rfl ?_
              refine s_iconst (pc := 84) (v := 1) (dc dl_X11_braid 48 rfl) ic_1 ?_
              refine s_isub (pc := 85) (dc dl_X11_braid 49 rfl) ?_
              refine s_goto (pc := 86) (tgt := 90) (dc dl_X11_braid 50 rfl) rfl ?_
              exact s_wk (hj10 (a9 - 1)) rfl
            · refine s_iload_n (pc := 89) (dc dl_X11_braid 51 rfl) rfl rfl ?_
              exact s_wk (hj10 s3.1) rfl
      · refine s_if_ge (pc := 40) (tgt := 54) (dc dl_X11_braid 25 rfl) rfl ?_ ?_
        · refine s_aload_n (pc := 54) (dc dl_X11_braid 32 rfl) rfl rfl ?_
          refine s_getR (pc := 55) fl_X11_77 lk_Mo_0 kk_Mo_0_44 (dc dl_X11_braid 33 rfl) ?_
          refine s_iload (pc := 58) (dc dl_X11_braid 34 rfl) rfl ?_
          refine s_iald (pc := 60) lk_Mo_22 (dc dl_X11_braid 35 rfl) (fun v22 => ?_)
          exact s_wk (hj8 v22) rfl
        · refine s_aload_n (pc := 43) (dc dl_X11_braid 26 rfl) rfl rfl ?_
          refine s_getR (pc := 44) fl_X11_77 lk_Mo_0 kk_Mo_0_44 (dc dl_X11_braid 27 rfl) ?_
          refine s_iload (pc := 47) (dc dl_X11_braid 28 rfl) rfl ?_
          refine s_iald (pc := 49) lk_Mo_22 (dc dl_X11_braid 29 rfl) (fun v23 => ?_)
          refine s_ineg (pc := 50) (dc dl_X11_braid 30 rfl) ?_
          refine s_goto (pc := 51) (tgt := 61) (dc dl_X11_braid 31 rfl) rfl ?_
          exact s_wk (hj8 (-v23)) rfl
def gX11_takesOrder (x1 : Int32) : MM Int32 :=
  loopC 100000 (fun (self1 : (Int32 × Int32) → MM Int32) (s2 : Int32 × Int32) =>
  (if s2.2 ≤ 9 then
  bd (gX11_isIn s2.1 1 7) fun r3 =>
  (if r3 = 0 then
  rz 0
  else
  bd (sv 0 46 s2.1) fun _ =>
  lt (s2.1 - 1) fun y4 =>
  loopC 100000 (fun (self5 : (Int32 × Int32 × Int32) → MM Int32) (s6 : Int32 × Int32 × Int32) =>
  (if s6.2.2 < 0 then
  jn (fun (a8 : Int32) =>
  rz a8) (fun j7 =>
  jn (fun (a10 : Unit) =>
  j7 0) (fun j9 =>
  (if s6.1 = 1 then
  (if s6.2.1 = ((1 <<< (s2.1 &&& 31)) - 1) then
  j7 1
  else
  j9 ())
  else
  j9 ())))
  else
  nz 10 (
  bd (sa 24 s6.2.2 (irm s6.1 10)) fun _ =>
  bd (la 24 s6.2.2) fun v11 =>
  lt (s6.2.1 ||| (1 <<< (v11 &&& 31))) fun y12 =>
  nz 10 (
  lt (s6.1 / 10) fun y13 =>
  lt (s6.2.2 + (-1)) fun y14 =>
  self5 (y13, y12, y14))))) (x1, 0, y4))
  else
  lt (s2.1 + 1) fun y15 =>
  nz 10 (
  lt (s2.2 / 10) fun y16 =>
  self1 (y15, y16)))) (0, x1)
set_option maxHeartbeats 4000000 in
theorem cn_X11_takesOrder (l : Launch) (G : Gl) (hG : gOk G) (ad : Nat → Nat) (x1 : Int32) : Cn l G mX11_takesOrder 1 lay_Mo ad [.ref (ad 0), .int x1] (gX11_takesOrder x1) := by
  refine cn_of (lv := [some (.ref (ad 0)), some (.int x1), none, none, none, none]) (by decide +kernel) rfl (Nat.le_of_ble_eq_true rfl) rfl ?_
  unfold gX11_takesOrder
  refine s_iconst (pc := 0) (v := 0) (dc dl_X11_takesOrder 0 rfl) ic_0 ?_
  refine s_istore_n (pc := 1) (lv' := [some (.ref (ad 0)), some (.int x1), some (.int 0), none, none, none]) (dc dl_X11_takesOrder 1 rfl) rfl (Nat.le_of_ble_eq_true rfl) rfl ?_
  refine s_iload_n (pc := 2) (dc dl_X11_takesOrder 2 rfl) rfl rfl ?_
  refine s_istore_n (pc := 3) (lv' := [some (.ref (ad 0)), some (.int x1), some (.int 0), some (.int x1), none, none]) (dc dl_X11_takesOrder 3 rfl) rfl (Nat.le_of_ble_eq_true rfl) rfl ?_
  refine s_weak (lv' := [some (.ref (ad 0)), some (.int x1), some (.int 0), some (.int x1), none, none]) rfl ?_
  refine s_loop (pc := 4) (fun s2 : Int32 × Int32 => [some (.ref (ad 0)), some (.int x1), some (.int s2.1), some (.int s2.2), none, none]) [] (fun self1 hself1 s2 => ?_) _ (0, x1)
  refine s_iload_n (pc := 4) (dc dl_X11_takesOrder 4 rfl) rfl rfl ?_
  refine s_bipush (pc := 5) (v := 9) (dc dl_X11_takesOrder 5 rfl) bi_9 ?_
  refine s_icmp_le (pc := 7) (tgt := 22) (dc dl_X11_takesOrder 6 rfl) rfl ?_ ?_
  · refine s_aload_n (pc := 22) (dc dl_X11_takesOrder 16 rfl) rfl rfl ?_
    refine s_iload_n (pc := 23) (dc dl_X11_takesOrder 17 rfl) rfl rfl ?_
    refine s_iconst (pc := 24) (v := 1) (dc dl_X11_takesOrder 18 rfl) ic_1 ?_
    refine s_bipush (pc := 25) (v := 7) (dc dl_X11_takesOrder 19 rfl) bi_7 ?_
    refine s_call (pc := 27) (rest := []) hG (calls_V (mi := mX11_takesOrder) (o := 0) (As := [.int s2.1, .int 1, .int 7]) (rest := []) hG (dc dl_X11_takesOrder 20 rfl) mo_X11_isIn mv_X11_isIn ml_X11_150 ⟨Nat.le_of_ble_eq_true rfl, Nat.le_of_ble_eq_true rfl⟩ rfl rfl (Nat.le_of_ble_eq_true rfl) lk_Mo_0 rfl) (cn_X11_isIn l G hG ad s2.1 1 7) rfl (fun r3 => ?_)
    refine s_if_ne (pc := 30) (tgt := 35) (dc dl_X11_takesOrder 21 rfl) rfl ?_ ?_
    · refine s_iconst (pc := 33) (v := 0) (dc dl_X11_takesOrder 22 rfl) ic_0 ?_
      exact s_zreturn (pc := 34) rfl (dc dl_X11_takesOrder 23 rfl)
    · refine s_aload_n (pc := 35) (dc dl_X11_takesOrder 24 rfl) rfl rfl ?_
      refine s_iload_n (pc := 36) (dc dl_X11_takesOrder 25 rfl) rfl rfl ?_
      refine s_putI (pc := 37) fw_X11_426 lk_Mo_0 kk_Mo_0_46 (dc dl_X11_takesOrder 26 rfl) ?_
      refine s_iload_n (pc := 40) (dc dl_X11_takesOrder 27 rfl) rfl rfl ?_
      refine s_istore_n (pc := 41) (lv' := [some (.ref (ad 0)), some (.int x1), some (.int s2.1), some (.int x1), none, none]) (dc dl_X11_takesOrder 28 rfl) rfl (Nat.le_of_ble_eq_true rfl) rfl ?_
      refine s_iconst (pc := 42) (v := 0) (dc dl_X11_takesOrder 29 rfl) ic_0 ?_
      refine s_istore (pc := 43) (lv' := [some (.ref (ad 0)), some (.int x1), some (.int s2.1), some (.int x1), some (.int 0), none]) (dc dl_X11_takesOrder 30 rfl) (Nat.le_of_ble_eq_true rfl) rfl ?_
      refine s_iload_n (pc := 45) (dc dl_X11_takesOrder 31 rfl) rfl rfl ?_
      refine s_iconst (pc := 46) (v := 1) (dc dl_X11_takesOrder 32 rfl) ic_1 ?_
      refine s_isub (pc := 47) (dc dl_X11_takesOrder 33 rfl) ?_
      refine s_istoreL (pc := 48) (lf' := fun y4 => [some (.ref (ad 0)), some (.int x1), some (.int s2.1), some (.int x1), some (.int 0), some (.int y4)]) (dc dl_X11_takesOrder 34 rfl) (Nat.le_of_ble_eq_true rfl) (fun _ => rfl) (fun y4 => ?_)
      refine s_weak (lv' := [some (.ref (ad 0)), none, some (.int s2.1), some (.int x1), some (.int 0), some (.int y4)]) rfl ?_
      refine s_loop (pc := 50) (fun s6 : Int32 × Int32 × Int32 => [some (.ref (ad 0)), none, some (.int s2.1), some (.int s6.1), some (.int s6.2.1), some (.int s6.2.2)]) [] (fun self5 hself5 s6 => ?_) _ (x1, 0, y4)
      refine s_iload (pc := 50) (dc dl_X11_takesOrder 35 rfl) rfl ?_
      refine s_if_lt (pc := 52) (tgt := 91) (dc dl_X11_takesOrder 36 rfl) rfl ?_ ?_
      · refine s_iload_n (pc := 91) (dc dl_X11_takesOrder 59 rfl) rfl rfl ?_
        refine s_iconst (pc := 92) (v := 1) (dc dl_X11_takesOrder 60 rfl) ic_1 ?_
        refine s_jn (pj := 111) (fun a8 : Int32 => [none, none, none, none, none, none]) (fun a8 : Int32 => [.int a8]) (fun a8 => ?_) (fun j7 hj7 => ?_)
        · exact s_zreturn (pc := 111) rfl (dc dl_X11_takesOrder 72 rfl)
        · refine s_jn (pj := 110) (fun a10 : Unit => [none, none, none, none, none, none]) (fun a10 : Unit => []) (fun a10 => ?_) (fun j9 hj9 => ?_)
          · refine s_iconst (pc := 110) (v := 0) (dc dl_X11_takesOrder 71 rfl) ic_0 ?_
            exact s_wk (hj7 0) rfl
          · refine s_icmp_ne (pc := 93) (tgt := 110) (dc dl_X11_takesOrder 61 rfl) rfl ?_ ?_
            · refine s_iload (pc := 96) (dc dl_X11_takesOrder 62 rfl) rfl ?_
              refine s_iconst (pc := 98) (v := 1) (dc dl_X11_takesOrder 63 rfl) ic_1 ?_
              refine s_iload_n (pc := 99) (dc dl_X11_takesOrder 64 rfl) rfl rfl ?_
              refine s_ishl (pc := 100) (dc dl_X11_takesOrder 65 rfl) ?_
              refine s_iconst (pc := 101) (v := 1) (dc dl_X11_takesOrder 66 rfl) ic_1 ?_
              refine s_isub (pc := 102) (dc dl_X11_takesOrder 67 rfl) ?_
              refine s_icmp_ne (pc := 103) (tgt := 110) (dc dl_X11_takesOrder 68 rfl) rfl ?_ ?_
              · refine s_iconst (pc := 106) (v := 1) (dc dl_X11_takesOrder 69 rfl) ic_1 ?_
                refine s_goto (pc := 107) (tgt := 111) (dc dl_X11_takesOrder 70 rfl) rfl ?_
                exact s_wk (hj7 1) rfl
              · exact s_wk (hj9 ()) rfl
            · exact s_wk (hj9 ()) rfl
      · refine s_aload_n (pc := 55) (dc dl_X11_takesOrder 37 rfl) rfl rfl ?_
        refine s_getR (pc := 56) fl_X11_83 lk_Mo_0 kk_Mo_0_47 (dc dl_X11_takesOrder 38 rfl) ?_
        refine s_iload (pc := 59) (dc dl_X11_takesOrder 39 rfl) rfl ?_
        refine s_iload_n (pc := 61) (dc dl_X11_takesOrder 40 rfl) rfl rfl ?_
        refine s_bipush (pc := 62) (v := 10) (dc dl_X11_takesOrder 41 rfl) bi_10 ?_
        refine s_irem (pc := 64) (dc dl_X11_takesOrder 42 rfl) ?_
        refine s_iast (pc := 65) lk_Mo_24 (dc dl_X11_takesOrder 43 rfl) ?_
        refine s_iload (pc := 66) (dc dl_X11_takesOrder 44 rfl) rfl ?_
        refine s_iconst (pc := 68) (v := 1) (dc dl_X11_takesOrder 45 rfl) ic_1 ?_
        refine s_aload_n (pc := 69) (dc dl_X11_takesOrder 46 rfl) rfl rfl ?_
        refine s_getR (pc := 70) fl_X11_83 lk_Mo_0 kk_Mo_0_47 (dc dl_X11_takesOrder 47 rfl) ?_
        refine s_iload (pc := 73) (dc dl_X11_takesOrder 48 rfl) rfl ?_
        refine s_iald (pc := 75) lk_Mo_24 (dc dl_X11_takesOrder 49 rfl) (fun v11 => ?_)
        refine s_ishl (pc := 76) (dc dl_X11_takesOrder 50 rfl) ?_
        refine s_ior (pc := 77) (dc dl_X11_takesOrder 51 rfl) ?_
        refine s_istoreL (pc := 78) (lf' := fun y12 => [some (.ref (ad 0)), none, some (.int s2.1), some (.int s6.1), some (.int y12), some (.int s6.2.2)]) (dc dl_X11_takesOrder 52 rfl) (Nat.le_of_ble_eq_true rfl) (fun _ => rfl) (fun y12 => ?_)
        refine s_iload_n (pc := 80) (dc dl_X11_takesOrder 53 rfl) rfl rfl ?_
        refine s_bipush (pc := 81) (v := 10) (dc dl_X11_takesOrder 54 rfl) bi_10 ?_
        refine s_idiv (pc := 83) (dc dl_X11_takesOrder 55 rfl) ?_
        refine s_istore_nL (pc := 84) (lf' := fun y13 => [some (.ref (ad 0)), none, some (.int s2.1), some (.int y13), some (.int y12), some (.int s6.2.2)]) (dc dl_X11_takesOrder 56 rfl) rfl (Nat.le_of_ble_eq_true rfl) (fun _ => rfl) (fun y13 => ?_)
        refine s_iincL (pc := 85) (lf' := fun y14 => [some (.ref (ad 0)), none, some (.int s2.1), some (.int y13), some (.int y12), some (.int y14)]) (dc dl_X11_takesOrder 57 rfl) rfl rfl (Nat.le_of_ble_eq_true rfl) (fun _ => rfl) (fun y14 => ?_)
        refine s_goto (pc := 88) (tgt := 50) (dc dl_X11_takesOrder 58 rfl) rfl ?_
        exact s_wk (hself5 (y13, y12, y14)) rfl
  · refine s_iload_n (pc := 10) (dc dl_X11_takesOrder 7 rfl) rfl rfl ?_
    refine s_iconst (pc := 11) (v := 1) (dc dl_X11_takesOrder 8 rfl) ic_1 ?_
    refine s_iadd (pc := 12) (dc dl_X11_takesOrder 9 rfl) ?_
    refine s_istore_nL (pc := 13) (lf' := fun y15 => [some (.ref (ad 0)), some (.int x1), some (.int y15), some (.int s2.2), none, none]) (dc dl_X11_takesOrder 10 rfl) rfl (Nat.le_of_ble_eq_true rfl) (fun _ => rfl) (fun y15 => ?_)
    refine s_iload_n (pc := 14) (dc dl_X11_takesOrder 11 rfl) rfl rfl ?_
    refine s_bipush (pc := 15) (v := 10) (dc dl_X11_takesOrder 12 rfl) bi_10 ?_
    refine s_idiv (pc := 17) (dc dl_X11_takesOrder 13 rfl) ?_
    refine s_istore_nL (pc := 18) (lf' := fun y16 => [some (.ref (ad 0)), some (.int x1), some (.int y15), some (.int y16), none, none]) (dc dl_X11_takesOrder 14 rfl) rfl (Nat.le_of_ble_eq_true rfl) (fun _ => rfl) (fun y16 => ?_)
    refine s_goto (pc := 19) (tgt := 4) (dc dl_X11_takesOrder 15 rfl) rfl ?_
    exact s_wk (hself1 (y15, y16)) rfl
def gX11_numberOfOrder : MM Int32 :=
  loopC 100000 (fun (self1 : (Int32 × Int32) → MM Int32) (s2 : Int32 × Int32) =>
  bd (ld 0 46) fun v3 =>
  (if v3 ≤ s2.2 then
  pr s2.1
  else
  lt (s2.2 + 1) fun y4 =>
  loopC 100000 (fun (self5 : (Int32 × Int32) → MM Int32) (s6 : Int32 × Int32) =>
  bd (ld 0 46) fun v7 =>
  (if v7 ≤ s6.2 then
  bd (ld 0 46) fun v8 =>
  lt ((s2.1 * (v8 - s2.2)) + s6.1) fun y9 =>
  lt (s2.2 + 1) fun y10 =>
  self1 (y9, y10)
  else
  bd (la 24 s6.2) fun v11 =>
  bd (la 24 s2.2) fun v12 =>
  jn (fun (a14 : Int32) =>
  lt (s6.2 + 1) fun y15 =>
  self5 (a14, y15)) (fun j13 =>
  (if v12 ≤ v11 then
  j13 s6.1
  else
  lt (s6.1 + 1) fun y16 =>
  j13 y16)))) (0, y4))) (0, 0)
set_option maxHeartbeats 4000000 in
theorem cn_X11_numberOfOrder (l : Launch) (G : Gl) (hG : gOk G) (ad : Nat → Nat) : Cn l G mX11_numberOfOrder 0 lay_Mo ad [.ref (ad 0)] (gX11_numberOfOrder) := by
  refine cn_of (lv := [some (.ref (ad 0)), none, none, none, none]) (by decide +kernel) rfl (Nat.le_of_ble_eq_true rfl) rfl ?_
  unfold gX11_numberOfOrder
  refine s_iconst (pc := 0) (v := 0) (dc dl_X11_numberOfOrder 0 rfl) ic_0 ?_
  refine s_istore_n (pc := 1) (lv' := [some (.ref (ad 0)), some (.int 0), none, none, none]) (dc dl_X11_numberOfOrder 1 rfl) rfl (Nat.le_of_ble_eq_true rfl) rfl ?_
  refine s_iconst (pc := 2) (v := 0) (dc dl_X11_numberOfOrder 2 rfl) ic_0 ?_
  refine s_istore_n (pc := 3) (lv' := [some (.ref (ad 0)), some (.int 0), some (.int 0), none, none]) (dc dl_X11_numberOfOrder 3 rfl) rfl (Nat.le_of_ble_eq_true rfl) rfl ?_
  refine s_weak (lv' := [some (.ref (ad 0)), some (.int 0), some (.int 0), none, none]) rfl ?_
  refine s_loop (pc := 4) (fun s2 : Int32 × Int32 => [some (.ref (ad 0)), some (.int s2.1), some (.int s2.2), none, none]) [] (fun self1 hself1 s2 => ?_) _ (0, 0)
  refine s_iload_n (pc := 4) (dc dl_X11_numberOfOrder 4 rfl) rfl rfl ?_
  refine s_aload_n (pc := 5) (dc dl_X11_numberOfOrder 5 rfl) rfl rfl ?_
  refine s_getI (pc := 6) fl_X11_426 lk_Mo_0 kk_Mo_0_46 (dc dl_X11_numberOfOrder 6 rfl) (fun v3 => ?_)
  refine s_icmp_ge (pc := 9) (tgt := 71) (dc dl_X11_numberOfOrder 7 rfl) rfl ?_ ?_
  · refine s_iload_n (pc := 71) (dc dl_X11_numberOfOrder 44 rfl) rfl rfl ?_
    exact s_ireturn (pc := 72) rfl (dc dl_X11_numberOfOrder 45 rfl)
  · refine s_iconst (pc := 12) (v := 0) (dc dl_X11_numberOfOrder 8 rfl) ic_0 ?_
    refine s_istore_n (pc := 13) (lv' := [some (.ref (ad 0)), some (.int s2.1), some (.int s2.2), some (.int 0), none]) (dc dl_X11_numberOfOrder 9 rfl) rfl (Nat.le_of_ble_eq_true rfl) rfl ?_
    refine s_iload_n (pc := 14) (dc dl_X11_numberOfOrder 10 rfl) rfl rfl ?_
    refine s_iconst (pc := 15) (v := 1) (dc dl_X11_numberOfOrder 11 rfl) ic_1 ?_
    refine s_iadd (pc := 16) (dc dl_X11_numberOfOrder 12 rfl) ?_
    refine s_istoreL (pc := 17) (lf' := fun y4 => [some (.ref (ad 0)), some (.int s2.1), some (.int s2.2), some (.int 0), some (.int y4)]) (dc dl_X11_numberOfOrder 13 rfl) (Nat.le_of_ble_eq_true rfl) (fun _ => rfl) (fun y4 => ?_)
    refine s_weak (lv' := [some (.ref (ad 0)), some (.int s2.1), some (.int s2.2), some (.int 0), some (.int y4)]) rfl ?_
    refine s_loop (pc := 19) (fun s6 : Int32 × Int32 => [some (.ref (ad 0)), some (.int s2.1), some (.int s2.2), some (.int s6.1), some (.int s6.2)]) [] (fun self5 hself5 s6 => ?_) _ (0, y4)
    refine s_iload (pc := 19) (dc dl_X11_numberOfOrder 14 rfl) rfl ?_
    refine s_aload_n (pc := 21) (dc dl_X11_numberOfOrder 15 rfl) rfl rfl ?_
    refine s_getI (pc := 22) fl_X11_426 lk_Mo_0 kk_Mo_0_46 (dc dl_X11_numberOfOrder 16 rfl) (fun v7 => ?_)
    refine s_icmp_ge (pc := 25) (tgt := 54) (dc dl_X11_numberOfOrder 17 rfl) rfl ?_ ?_
    · refine s_iload_n (pc := 54) (dc dl_X11_numberOfOrder 33 rfl) rfl rfl ?_
      refine s_aload_n (pc := 55) (dc dl_X11_numberOfOrder 34 rfl) rfl rfl ?_
      refine s_getI (pc := 56) fl_X11_426 lk_Mo_0 kk_Mo_0_46 (dc dl_X11_numberOfOrder 35 rfl) (fun v8 => ?_)
      refine s_iload_n (pc := 59) (dc dl_X11_numberOfOrder 36 rfl) rfl rfl ?_
      refine s_isub (pc := 60) (dc dl_X11_numberOfOrder 37 rfl) ?_
      refine s_imul (pc := 61) (dc dl_X11_numberOfOrder 38 rfl) ?_
      refine s_iload_n (pc := 62) (dc dl_X11_numberOfOrder 39 rfl) rfl rfl ?_
      refine s_iadd (pc := 63) (dc dl_X11_numberOfOrder 40 rfl) ?_
      refine s_istore_nL (pc := 64) (lf' := fun y9 => [some (.ref (ad 0)), some (.int y9), some (.int s2.2), some (.int s6.1), some (.int s6.2)]) (dc dl_X11_numberOfOrder 41 rfl) rfl (Nat.le_of_ble_eq_true rfl) (fun _ => rfl) (fun y9 => ?_)
      refine s_iincL (pc := 65) (lf' := fun y10 => [some (.ref (ad 0)), some (.int y9), some (.int y10), some (.int s6.1), some (.int s6.2)]) (dc dl_X11_numberOfOrder 42 rfl) rfl rfl (Nat.le_of_ble_eq_true rfl) (fun _ => rfl) (fun y10 => ?_)
      refine s_goto (pc := 68) (tgt := 4) (dc dl_X11_numberOfOrder 43 rfl) rfl ?_
      exact s_wk (hself1 (y9, y10)) rfl
    · refine s_aload_n (pc := 28) (dc dl_X11_numberOfOrder 18 rfl) rfl rfl ?_
      refine s_getR (pc := 29) fl_X11_83 lk_Mo_0 kk_Mo_0_47 (dc dl_X11_numberOfOrder 19 rfl) ?_
      refine s_iload (pc := 32) (dc dl_X11_numberOfOrder 20 rfl) rfl ?_
      refine s_iald (pc := 34) lk_Mo_24 (dc dl_X11_numberOfOrder 21 rfl) (fun v11 => ?_)
      refine s_aload_n (pc := 35) (dc dl_X11_numberOfOrder 22 rfl) rfl rfl ?_
      refine s_getR (pc := 36) fl_X11_83 lk_Mo_0 kk_Mo_0_47 (dc dl_X11_numberOfOrder 23 rfl) ?_
      refine s_iload_n (pc := 39) (dc dl_X11_numberOfOrder 24 rfl) rfl rfl ?_
      refine s_iald (pc := 40) lk_Mo_24 (dc dl_X11_numberOfOrder 25 rfl) (fun v12 => ?_)
      refine s_jn (pj := 48) (fun a14 : Int32 => [some (.ref (ad 0)), some (.int s2.1), some (.int s2.2), some (.int a14), some (.int s6.2)]) (fun a14 : Int32 => []) (fun a14 => ?_) (fun j13 hj13 => ?_)
      · refine s_iincL (pc := 48) (lf' := fun y15 => [some (.ref (ad 0)), some (.int s2.1), some (.int s2.2), some (.int a14), some (.int y15)]) (dc dl_X11_numberOfOrder 31 rfl) rfl rfl (Nat.le_of_ble_eq_true rfl) (fun _ => rfl) (fun y15 => ?_)
        refine s_goto (pc := 51) (tgt := 19) (dc dl_X11_numberOfOrder 32 rfl) rfl ?_
        exact s_wk (hself5 (a14, y15)) rfl
      · refine s_icmp_ge (pc := 41) (tgt := 48) (dc dl_X11_numberOfOrder 26 rfl) rfl ?_ ?_
        · exact s_wk (hj13 s6.1) rfl
        · refine s_iload_n (pc := 44) (dc dl_X11_numberOfOrder 27 rfl) rfl rfl ?_
          refine s_iconst (pc := 45) (v := 1) (dc dl_X11_numberOfOrder 28 rfl) ic_1 ?_
          refine s_iadd (pc := 46) (dc dl_X11_numberOfOrder 29 rfl) ?_
          refine s_istore_nL (pc := 47) (lf' := fun y16 => [some (.ref (ad 0)), some (.int s2.1), some (.int s2.2), some (.int y16), some (.int s6.2)]) (dc dl_X11_numberOfOrder 30 rfl) rfl (Nat.le_of_ble_eq_true rfl) (fun _ => rfl) (fun y16 => ?_)
          exact s_wk (hj13 y16) rfl
def gX11_takesNumber (x1 : Int32) : MM Int32 :=
  bd (ld 0 46) fun v1 =>
  lt (v1 - 1) fun y2 =>
  loopC 100000 (fun (self3 : (Int32 × Int32) → MM Int32) (s4 : Int32 × Int32) =>
  (if s4.2 < 0 then
  pr 0
  else
  bd (ld 0 46) fun v5 =>
  nz (v5 - s4.2) (
  bd (sa 24 s4.2 (irm s4.1 (v5 - s4.2))) fun _ =>
  bd (ld 0 46) fun v6 =>
  nz (v6 - s4.2) (
  lt (s4.1 / (v6 - s4.2)) fun y7 =>
  lt (s4.2 + 1) fun y8 =>
  loopC 100000 (fun (self9 : Int32 → MM Int32) (s10 : Int32) =>
  bd (ld 0 46) fun v11 =>
  (if v11 ≤ s10 then
  lt (s4.2 + (-1)) fun y12 =>
  self3 (y7, y12)
  else
  bd (la 24 s10) fun v13 =>
  bd (la 24 s4.2) fun v14 =>
  jn (fun (a16 : Unit) =>
  lt (s10 + 1) fun y17 =>
  self9 y17) (fun j15 =>
  (if v13 < v14 then
  j15 ()
  else
  bd (la 24 s10) fun v18 =>
  bd (sa 24 s10 (v18 + 1)) fun _ =>
  j15 ())))) y8)))) (x1, y2)
set_option maxHeartbeats 4000000 in
theorem cn_X11_takesNumber (l : Launch) (G : Gl) (hG : gOk G) (ad : Nat → Nat) (x1 : Int32) : Cn l G mX11_takesNumber 0 lay_Mo ad [.ref (ad 0), .int x1] (gX11_takesNumber x1) := by
  refine cn_of (lv := [some (.ref (ad 0)), some (.int x1), none, none, none]) (by decide +kernel) rfl (Nat.le_of_ble_eq_true rfl) rfl ?_
  unfold gX11_takesNumber
  refine s_iload_n (pc := 0) (dc dl_X11_takesNumber 0 rfl) rfl rfl ?_
  refine s_istore_n (pc := 1) (lv' := [some (.ref (ad 0)), some (.int x1), some (.int x1), none, none]) (dc dl_X11_takesNumber 1 rfl) rfl (Nat.le_of_ble_eq_true rfl) rfl ?_
  refine s_aload_n (pc := 2) (dc dl_X11_takesNumber 2 rfl) rfl rfl ?_
  refine s_getI (pc := 3) fl_X11_426 lk_Mo_0 kk_Mo_0_46 (dc dl_X11_takesNumber 3 rfl) (fun v1 => ?_)
  refine s_iconst (pc := 6) (v := 1) (dc dl_X11_takesNumber 4 rfl) ic_1 ?_
  refine s_isub (pc := 7) (dc dl_X11_takesNumber 5 rfl) ?_
  refine s_istore_nL (pc := 8) (lf' := fun y2 => [some (.ref (ad 0)), some (.int x1), some (.int x1), some (.int y2), none]) (dc dl_X11_takesNumber 6 rfl) rfl (Nat.le_of_ble_eq_true rfl) (fun _ => rfl) (fun y2 => ?_)
  refine s_weak (lv' := [some (.ref (ad 0)), none, some (.int x1), some (.int y2), none]) rfl ?_
  refine s_loop (pc := 9) (fun s4 : Int32 × Int32 => [some (.ref (ad 0)), none, some (.int s4.1), some (.int s4.2), none]) [] (fun self3 hself3 s4 => ?_) _ (x1, y2)
  refine s_iload_n (pc := 9) (dc dl_X11_takesNumber 7 rfl) rfl rfl ?_
  refine s_if_lt (pc := 10) (tgt := 94) (dc dl_X11_takesNumber 8 rfl) rfl ?_ ?_
  · exact s_return (pc := 94) rfl (dc dl_X11_takesNumber 57 rfl)
  · refine s_aload_n (pc := 13) (dc dl_X11_takesNumber 9 rfl) rfl rfl ?_
    refine s_getR (pc := 14) fl_X11_83 lk_Mo_0 kk_Mo_0_47 (dc dl_X11_takesNumber 10 rfl) ?_
    refine s_iload_n (pc := 17) (dc dl_X11_takesNumber 11 rfl) rfl rfl ?_
    refine s_iload_n (pc := 18) (dc dl_X11_takesNumber 12 rfl) rfl rfl ?_
    refine s_aload_n (pc := 19) (dc dl_X11_takesNumber 13 rfl) rfl rfl ?_
    refine s_getI (pc := 20) fl_X11_426 lk_Mo_0 kk_Mo_0_46 (dc dl_X11_takesNumber 14 rfl) (fun v5 => ?_)
    refine s_iload_n (pc := 23) (dc dl_X11_takesNumber 15 rfl) rfl rfl ?_
    refine s_isub (pc := 24) (dc dl_X11_takesNumber 16 rfl) ?_
    refine s_irem (pc := 25) (dc dl_X11_takesNumber 17 rfl) ?_
    refine s_iast (pc := 26) lk_Mo_24 (dc dl_X11_takesNumber 18 rfl) ?_
    refine s_iload_n (pc := 27) (dc dl_X11_takesNumber 19 rfl) rfl rfl ?_
    refine s_aload_n (pc := 28) (dc dl_X11_takesNumber 20 rfl) rfl rfl ?_
    refine s_getI (pc := 29) fl_X11_426 lk_Mo_0 kk_Mo_0_46 (dc dl_X11_takesNumber 21 rfl) (fun v6 => ?_)
    refine s_iload_n (pc := 32) (dc dl_X11_takesNumber 22 rfl) rfl rfl ?_
    refine s_isub (pc := 33) (dc dl_X11_takesNumber 23 rfl) ?_
    refine s_idiv (pc := 34) (dc dl_X11_takesNumber 24 rfl) ?_
    refine s_istore_nL (pc := 35) (lf' := fun y7 => [some (.ref (ad 0)), none, some (.int y7), some (.int s4.2), none]) (dc dl_X11_takesNumber 25 rfl) rfl (Nat.le_of_ble_eq_true rfl) (fun _ => rfl) (fun y7 => ?_)
    refine s_iload_n (pc := 36) (dc dl_X11_takesNumber 26 rfl) rfl rfl ?_
    refine s_iconst (pc := 37) (v := 1) (dc dl_X11_takesNumber 27 rfl) ic_1 ?_
    refine s_iadd (pc := 38) (dc dl_X11_takesNumber 28 rfl) ?_
    refine s_istoreL (pc := 39) (lf' := fun y8 => [some (.ref (ad 0)), none, some (.int y7), some (.int s4.2), some (.int y8)]) (dc dl_X11_takesNumber 29 rfl) (Nat.le_of_ble_eq_true rfl) (fun _ => rfl) (fun y8 => ?_)
    refine s_weak (lv' := [some (.ref (ad 0)), none, some (.int y7), some (.int s4.2), some (.int y8)]) rfl ?_
    refine s_loop (pc := 41) (fun s10 : Int32 => [some (.ref (ad 0)), none, some (.int y7), some (.int s4.2), some (.int s10)]) [] (fun self9 hself9 s10 => ?_) _ y8
    refine s_iload (pc := 41) (dc dl_X11_takesNumber 30 rfl) rfl ?_
    refine s_aload_n (pc := 43) (dc dl_X11_takesNumber 31 rfl) rfl rfl ?_
    refine s_getI (pc := 44) fl_X11_426 lk_Mo_0 kk_Mo_0_46 (dc dl_X11_takesNumber 32 rfl) (fun v11 => ?_)
    refine s_icmp_ge (pc := 47) (tgt := 88) (dc dl_X11_takesNumber 33 rfl) rfl ?_ ?_
    · refine s_iincL (pc := 88) (lf' := fun y12 => [some (.ref (ad 0)), none, some (.int y7), some (.int y12), some (.int s10)]) (dc dl_X11_takesNumber 55 rfl) rfl rfl (Nat.le_of_ble_eq_true rfl) (fun _ => rfl) (fun y12 => ?_)
      refine s_goto (pc := 91) (tgt := 9) (dc dl_X11_takesNumber 56 rfl) rfl ?_
      exact s_wk (hself3 (y7, y12)) rfl
    · refine s_aload_n (pc := 50) (dc dl_X11_takesNumber 34 rfl) rfl rfl ?_
      refine s_getR (pc := 51) fl_X11_83 lk_Mo_0 kk_Mo_0_47 (dc dl_X11_takesNumber 35 rfl) ?_
      refine s_iload (pc := 54) (dc dl_X11_takesNumber 36 rfl) rfl ?_
      refine s_iald (pc := 56) lk_Mo_24 (dc dl_X11_takesNumber 37 rfl) (fun v13 => ?_)
      refine s_aload_n (pc := 57) (dc dl_X11_takesNumber 38 rfl) rfl rfl ?_
      refine s_getR (pc := 58) fl_X11_83 lk_Mo_0 kk_Mo_0_47 (dc dl_X11_takesNumber 39 rfl) ?_
      refine s_iload_n (pc := 61) (dc dl_X11_takesNumber 40 rfl) rfl rfl ?_
      refine s_iald (pc := 62) lk_Mo_24 (dc dl_X11_takesNumber 41 rfl) (fun v14 => ?_)
      refine s_jn (pj := 82) (fun a16 : Unit => [some (.ref (ad 0)), none, some (.int y7), some (.int s4.2), some (.int s10)]) (fun a16 : Unit => []) (fun a16 => ?_) (fun j15 hj15 => ?_)
      · refine s_iincL (pc := 82) (lf' := fun y17 => [some (.ref (ad 0)), none, some (.int y7), some (.int s4.2), some (.int y17)]) (dc dl_X11_takesNumber 53 rfl) rfl rfl (Nat.le_of_ble_eq_true rfl) (fun _ => rfl) (fun y17 => ?_)
        refine s_goto (pc := 85) (tgt := 41) (dc dl_X11_takesNumber 54 rfl) rfl ?_
        exact s_wk (hself9 y17) rfl
      · refine s_icmp_lt (pc := 63) (tgt := 82) (dc dl_X11_takesNumber 42 rfl) rfl ?_ ?_
        · exact s_wk (hj15 ()) rfl
        · refine s_aload_n (pc := 66) (dc dl_X11_takesNumber 43 rfl) rfl rfl ?_
          refine s_getR (pc := 67) fl_X11_83 lk_Mo_0 kk_Mo_0_47 (dc dl_X11_takesNumber 44 rfl) ?_
          refine s_iload (pc := 70) (dc dl_X11_takesNumber 45 rfl) rfl ?_
          refine s_aload_n (pc := 72) (dc dl_X11_takesNumber 46 rfl) rfl rfl ?_
          refine s_getR (pc := 73) fl_X11_83 lk_Mo_0 kk_Mo_0_47 (dc dl_X11_takesNumber 47 rfl) ?_
          refine s_iload (pc := 76) (dc dl_X11_takesNumber 48 rfl) rfl ?_
          refine s_iald (pc := 78) lk_Mo_24 (dc dl_X11_takesNumber 49 rfl) (fun v18 => ?_)
          refine s_iconst (pc := 79) (v := 1) (dc dl_X11_takesNumber 50 rfl) ic_1 ?_
          refine s_iadd (pc := 80) (dc dl_X11_takesNumber 51 rfl) ?_
          refine s_iast (pc := 81) lk_Mo_24 (dc dl_X11_takesNumber 52 rfl) ?_
          exact s_wk (hj15 ()) rfl
def gX11_turnsFirst (x1 : Int32) : MM Int32 :=
  loopC 100000 (fun (self1 : Int32 → MM Int32) (s2 : Int32) =>
  nz 2 (
  (if (x1 / 2) ≤ s2 then
  pr 0
  else
  bd (la 24 s2) fun v3 =>
  bd (la 24 ((x1 - 1) - s2)) fun v4 =>
  bd (sa 24 s2 v4) fun _ =>
  bd (sa 24 ((x1 - 1) - s2) v3) fun _ =>
  lt (s2 + 1) fun y5 =>
  self1 y5))) 0
set_option maxHeartbeats 4000000 in
theorem cn_X11_turnsFirst (l : Launch) (G : Gl) (hG : gOk G) (ad : Nat → Nat) (x1 : Int32) : Cn l G mX11_turnsFirst 0 lay_Mo ad [.ref (ad 0), .int x1] (gX11_turnsFirst x1) := by
  refine cn_of (lv := [some (.ref (ad 0)), some (.int x1), none, none]) (by decide +kernel) rfl (Nat.le_of_ble_eq_true rfl) rfl ?_
  unfold gX11_turnsFirst
  refine s_iconst (pc := 0) (v := 0) (dc dl_X11_turnsFirst 0 rfl) ic_0 ?_
  refine s_istore_n (pc := 1) (lv' := [some (.ref (ad 0)), some (.int x1), some (.int 0), none]) (dc dl_X11_turnsFirst 1 rfl) rfl (Nat.le_of_ble_eq_true rfl) rfl ?_
  refine s_weak (lv' := [some (.ref (ad 0)), some (.int x1), some (.int 0), none]) rfl ?_
  refine s_loop (pc := 2) (fun s2 : Int32 => [some (.ref (ad 0)), some (.int x1), some (.int s2), none]) [] (fun self1 hself1 s2 => ?_) _ 0
  refine s_iload_n (pc := 2) (dc dl_X11_turnsFirst 2 rfl) rfl rfl ?_
  refine s_iload_n (pc := 3) (dc dl_X11_turnsFirst 3 rfl) rfl rfl ?_
  refine s_iconst (pc := 4) (v := 2) (dc dl_X11_turnsFirst 4 rfl) ic_2 ?_
  refine s_idiv (pc := 5) (dc dl_X11_turnsFirst 5 rfl) ?_
  refine s_icmp_ge (pc := 6) (tgt := 49) (dc dl_X11_turnsFirst 6 rfl) rfl ?_ ?_
  · exact s_return (pc := 49) rfl (dc dl_X11_turnsFirst 35 rfl)
  · refine s_aload_n (pc := 9) (dc dl_X11_turnsFirst 7 rfl) rfl rfl ?_
    refine s_getR (pc := 10) fl_X11_83 lk_Mo_0 kk_Mo_0_47 (dc dl_X11_turnsFirst 8 rfl) ?_
    refine s_iload_n (pc := 13) (dc dl_X11_turnsFirst 9 rfl) rfl rfl ?_
    refine s_iald (pc := 14) lk_Mo_24 (dc dl_X11_turnsFirst 10 rfl) (fun v3 => ?_)
    refine s_istore_n (pc := 15) (lv' := [some (.ref (ad 0)), some (.int x1), some (.int s2), some (.int v3)]) (dc dl_X11_turnsFirst 11 rfl) rfl (Nat.le_of_ble_eq_true rfl) rfl ?_
    refine s_aload_n (pc := 16) (dc dl_X11_turnsFirst 12 rfl) rfl rfl ?_
    refine s_getR (pc := 17) fl_X11_83 lk_Mo_0 kk_Mo_0_47 (dc dl_X11_turnsFirst 13 rfl) ?_
    refine s_iload_n (pc := 20) (dc dl_X11_turnsFirst 14 rfl) rfl rfl ?_
    refine s_aload_n (pc := 21) (dc dl_X11_turnsFirst 15 rfl) rfl rfl ?_
    refine s_getR (pc := 22) fl_X11_83 lk_Mo_0 kk_Mo_0_47 (dc dl_X11_turnsFirst 16 rfl) ?_
    refine s_iload_n (pc := 25) (dc dl_X11_turnsFirst 17 rfl) rfl rfl ?_
    refine s_iconst (pc := 26) (v := 1) (dc dl_X11_turnsFirst 18 rfl) ic_1 ?_
    refine s_isub (pc := 27) (dc dl_X11_turnsFirst 19 rfl) ?_
    refine s_iload_n (pc := 28) (dc dl_X11_turnsFirst 20 rfl) rfl rfl ?_
    refine s_isub (pc := 29) (dc dl_X11_turnsFirst 21 rfl) ?_
    refine s_iald (pc := 30) lk_Mo_24 (dc dl_X11_turnsFirst 22 rfl) (fun v4 => ?_)
    refine s_iast (pc := 31) lk_Mo_24 (dc dl_X11_turnsFirst 23 rfl) ?_
    refine s_aload_n (pc := 32) (dc dl_X11_turnsFirst 24 rfl) rfl rfl ?_
    refine s_getR (pc := 33) fl_X11_83 lk_Mo_0 kk_Mo_0_47 (dc dl_X11_turnsFirst 25 rfl) ?_
    refine s_iload_n (pc := 36) (dc dl_X11_turnsFirst 26 rfl) rfl rfl ?_
    refine s_iconst (pc := 37) (v := 1) (dc dl_X11_turnsFirst 27 rfl) ic_1 ?_
    refine s_isub (pc := 38) (dc dl_X11_turnsFirst 28 rfl) ?_
    refine s_iload_n (pc := 39) (dc dl_X11_turnsFirst 29 rfl) rfl rfl ?_
    refine s_isub (pc := 40) (dc dl_X11_turnsFirst 30 rfl) ?_
    refine s_iload_n (pc := 41) (dc dl_X11_turnsFirst 31 rfl) rfl rfl ?_
    refine s_iast (pc := 42) lk_Mo_24 (dc dl_X11_turnsFirst 32 rfl) ?_
    refine s_iincL (pc := 43) (lf' := fun y5 => [some (.ref (ad 0)), some (.int x1), some (.int y5), some (.int v3)]) (dc dl_X11_turnsFirst 33 rfl) rfl rfl (Nat.le_of_ble_eq_true rfl) (fun _ => rfl) (fun y5 => ?_)
    refine s_goto (pc := 46) (tgt := 2) (dc dl_X11_turnsFirst 34 rfl) rfl ?_
    exact s_wk (hself1 y5) rfl
def gX11_fewestTurnings : MM Int32 :=
  loopC 100000 (fun (self1 : (Int32 × Int32) → MM Int32) (s2 : Int32 × Int32) =>
  bd (ld 0 46) fun v3 =>
  (if v3 < s2.2 then
  loopC 100000 (fun (self4 : Int32 → MM Int32) (s5 : Int32) =>
  (if s2.1 ≤ s5 then
  bd gX11_numberOfOrder fun r6 =>
  bd (sa 26 0 r6) fun _ =>
  bd (la 26 0) fun v7 =>
  bd (sa 25 v7 0) fun _ =>
  loopC 100000 (fun (self8 : (Int32 × Int32) → MM Int32) (s9 : Int32 × Int32) =>
  jn (fun (a11 : Unit) =>
  bd (la 25 0) fun v12 =>
  pr v12) (fun j10 =>
  (if s9.1 ≤ s9.2 then
  j10 ()
  else
  bd (la 25 0) fun v13 =>
  (if v13 = ((-1)) then
  loopC 100000 (fun (self14 : (Int32 × Int32) → MM Int32) (s15 : Int32 × Int32) =>
  bd (ld 0 46) fun v16 =>
  (if v16 < s15.2 then
  lt (s9.2 + 1) fun y17 =>
  self8 (s15.1, y17)
  else
  bd (la 26 s9.2) fun v18 =>
  bd (gX11_takesNumber v18) fun r19 =>
  bd (gX11_turnsFirst s15.2) fun r20 =>
  bd gX11_numberOfOrder fun r21 =>
  bd (la 25 r21) fun v22 =>
  jn (fun (a24 : Int32) =>
  lt (s15.2 + 1) fun y25 =>
  self14 (a24, y25)) (fun j23 =>
  (if v22 = ((-1)) then
  bd (la 26 s9.2) fun v26 =>
  bd (la 25 v26) fun v27 =>
  bd (sa 25 r21 (v27 + 1)) fun _ =>
  bd (sa 26 s15.1 r21) fun _ =>
  lt (s15.1 + 1) fun y28 =>
  j23 y28
  else
  j23 s15.1)))) (s9.1, 2)
  else
  j10 ())))) (1, 0)
  else
  bd (sa 25 s5 ((-1))) fun _ =>
  lt (s5 + 1) fun y29 =>
  self4 y29)) 0
  else
  lt (s2.1 * s2.2) fun y30 =>
  lt (s2.2 + 1) fun y31 =>
  self1 (y30, y31))) (1, 2)
set_option maxHeartbeats 4000000 in
theorem cn_X11_fewestTurnings (l : Launch) (G : Gl) (hG : gOk G) (ad : Nat → Nat) : Cn l G mX11_fewestTurnings 1 lay_Mo ad [.ref (ad 0)] (gX11_fewestTurnings) := by
  refine cn_of (lv := [some (.ref (ad 0)), none, none, none, none, none]) (by decide +kernel) rfl (Nat.le_of_ble_eq_true rfl) rfl ?_
  unfold gX11_fewestTurnings
  refine s_iconst (pc := 0) (v := 1) (dc dl_X11_fewestTurnings 0 rfl) ic_1 ?_
  refine s_istore_n (pc := 1) (lv' := [some (.ref (ad 0)), some (.int 1), none, none, none, none]) (dc dl_X11_fewestTurnings 1 rfl) rfl (Nat.le_of_ble_eq_true rfl) rfl ?_
  refine s_iconst (pc := 2) (v := 2) (dc dl_X11_fewestTurnings 2 rfl) ic_2 ?_
  refine s_istore_n (pc := 3) (lv' := [some (.ref (ad 0)), some (.int 1), some (.int 2), none, none, none]) (dc dl_X11_fewestTurnings 3 rfl) rfl (Nat.le_of_ble_eq_true rfl) rfl ?_
  refine s_weak (lv' := [some (.ref (ad 0)), some (.int 1), some (.int 2), none, none, none]) rfl ?_
  refine s_loop (pc := 4) (fun s2 : Int32 × Int32 => [some (.ref (ad 0)), some (.int s2.1), some (.int s2.2), none, none, none]) [] (fun self1 hself1 s2 => ?_) _ (1, 2)
  refine s_iload_n (pc := 4) (dc dl_X11_fewestTurnings 4 rfl) rfl rfl ?_
  refine s_aload_n (pc := 5) (dc dl_X11_fewestTurnings 5 rfl) rfl rfl ?_
  refine s_getI (pc := 6) fl_X11_426 lk_Mo_0 kk_Mo_0_46 (dc dl_X11_fewestTurnings 6 rfl) (fun v3 => ?_)
  refine s_icmp_gt (pc := 9) (tgt := 22) (dc dl_X11_fewestTurnings 7 rfl) rfl ?_ ?_
  · refine s_iconst (pc := 22) (v := 0) (dc dl_X11_fewestTurnings 14 rfl) ic_0 ?_
    refine s_istore_n (pc := 23) (lv' := [some (.ref (ad 0)), some (.int s2.1), some (.int 0), none, none, none]) (dc dl_X11_fewestTurnings 15 rfl) rfl (Nat.le_of_ble_eq_true rfl) rfl ?_
    refine s_weak (lv' := [some (.ref (ad 0)), some (.int s2.1), some (.int 0), none, none, none]) rfl ?_
    refine s_loop (pc := 24) (fun s5 : Int32 => [some (.ref (ad 0)), some (.int s2.1), some (.int s5), none, none, none]) [] (fun self4 hself4 s5 => ?_) _ 0
    refine s_iload_n (pc := 24) (dc dl_X11_fewestTurnings 16 rfl) rfl rfl ?_
    refine s_iload_n (pc := 25) (dc dl_X11_fewestTurnings 17 rfl) rfl rfl ?_
    refine s_icmp_ge (pc := 26) (tgt := 42) (dc dl_X11_fewestTurnings 18 rfl) rfl ?_ ?_
    · refine s_iconst (pc := 42) (v := 1) (dc dl_X11_fewestTurnings 26 rfl) ic_1 ?_
      refine s_istore_n (pc := 43) (lv' := [some (.ref (ad 0)), some (.int s2.1), some (.int 1), none, none, none]) (dc dl_X11_fewestTurnings 27 rfl) rfl (Nat.le_of_ble_eq_true rfl) rfl ?_
      refine s_aload_n (pc := 44) (dc dl_X11_fewestTurnings 28 rfl) rfl rfl ?_
      refine s_getR (pc := 45) fl_X11_89 lk_Mo_0 kk_Mo_0_49 (dc dl_X11_fewestTurnings 29 rfl) ?_
      refine s_iconst (pc := 48) (v := 0) (dc dl_X11_fewestTurnings 30 rfl) ic_0 ?_
      refine s_aload_n (pc := 49) (dc dl_X11_fewestTurnings 31 rfl) rfl rfl ?_
      refine s_call (pc := 50) (rest := [.int 0, .ref (ad 26)]) hG (calls_V (mi := mX11_fewestTurnings) (o := 0) (As := []) (rest := [.int 0, .ref (ad 26)]) hG (dc dl_X11_fewestTurnings 32 rfl) mo_X11_numberOfOrder mv_X11_numberOfOrder ml_X11_429 ⟨Nat.le_of_ble_eq_true rfl, Nat.le_of_ble_eq_true rfl⟩ rfl rfl (Nat.le_of_ble_eq_true rfl) lk_Mo_0 rfl) (cn_X11_numberOfOrder l G hG ad) rfl (fun r6 => ?_)
      refine s_iast (pc := 53) lk_Mo_26 (dc dl_X11_fewestTurnings 33 rfl) ?_
      refine s_aload_n (pc := 54) (dc dl_X11_fewestTurnings 34 rfl) rfl rfl ?_
      refine s_getR (pc := 55) fl_X11_86 lk_Mo_0 kk_Mo_0_48 (dc dl_X11_fewestTurnings 35 rfl) ?_
      refine s_aload_n (pc := 58) (dc dl_X11_fewestTurnings 36 rfl) rfl rfl ?_
      refine s_getR (pc := 59) fl_X11_89 lk_Mo_0 kk_Mo_0_49 (dc dl_X11_fewestTurnings 37 rfl) ?_
      refine s_iconst (pc := 62) (v := 0) (dc dl_X11_fewestTurnings 38 rfl) ic_0 ?_
      refine s_iald (pc := 63) lk_Mo_26 (dc dl_X11_fewestTurnings 39 rfl) (fun v7 => ?_)
      refine s_iconst (pc := 64) (v := 0) (dc dl_X11_fewestTurnings 40 rfl) ic_0 ?_
      refine s_iast (pc := 65) lk_Mo_25 (dc dl_X11_fewestTurnings 41 rfl) ?_
      refine s_iconst (pc := 66) (v := 0) (dc dl_X11_fewestTurnings 42 rfl) ic_0 ?_
      refine s_istore_n (pc := 67) (lv' := [some (.ref (ad 0)), some (.int s2.1), some (.int 1), some (.int 0), none, none]) (dc dl_X11_fewestTurnings 43 rfl) rfl (Nat.le_of_ble_eq_true rfl) rfl ?_
      refine s_weak (lv' := [some (.ref (ad 0)), none, some (.int 1), some (.int 0), none, none]) rfl ?_
      refine s_loop (pc := 68) (fun s9 : Int32 × Int32 => [some (.ref (ad 0)), none, some (.int s9.1), some (.int s9.2), none, none]) [] (fun self8 hself8 s9 => ?_) _ (1, 0)
      refine s_iload_n (pc := 68) (dc dl_X11_fewestTurnings 44 rfl) rfl rfl ?_
      refine s_iload_n (pc := 69) (dc dl_X11_fewestTurnings 45 rfl) rfl rfl ?_
      refine s_jn (pj := 175) (fun a11 : Unit => [some (.ref (ad 0)), none, none, none, none, none]) (fun a11 : Unit => []) (fun a11 => ?_) (fun j10 hj10 => ?_)
      · refine s_aload_n (pc := 175) (dc dl_X11_fewestTurnings 104 rfl) rfl rfl ?_
        refine s_getR (pc := 176) fl_X11_86 lk_Mo_0 kk_Mo_0_48 (dc dl_X11_fewestTurnings 105 rfl) ?_
        refine s_iconst (pc := 179) (v := 0) (dc dl_X11_fewestTurnings 106 rfl) ic_0 ?_
        refine s_iald (pc := 180) lk_Mo_25 (dc dl_X11_fewestTurnings 107 rfl) (fun v12 => ?_)
        exact s_ireturn (pc := 181) rfl (dc dl_X11_fewestTurnings 108 rfl)
      · refine s_icmp_ge (pc := 70) (tgt := 175) (dc dl_X11_fewestTurnings 46 rfl) rfl ?_ ?_
        · exact s_wk (hj10 ()) rfl
        · refine s_aload_n (pc := 73) (dc dl_X11_fewestTurnings 47 rfl) rfl rfl ?_
          refine s_getR (pc := 74) fl_X11_86 lk_Mo_0 kk_Mo_0_48 (dc dl_X11_fewestTurnings 48 rfl) ?_
          refine s_iconst (pc := 77) (v := 0) (dc dl_X11_fewestTurnings 49 rfl) ic_0 ?_
          refine s_iald (pc := 78) lk_Mo_25 (dc dl_X11_fewestTurnings 50 rfl) (fun v13 => ?_)
          refine s_iconst (pc := 79) (v := (-1)) (dc dl_X11_fewestTurnings 51 rfl) ic_m1 ?_
          refine s_icmp_ne (pc := 80) (tgt := 175) (dc dl_X11_fewestTurnings 52 rfl) rfl ?_ ?_
          · refine s_iconst (pc := 83) (v := 2) (dc dl_X11_fewestTurnings 53 rfl) ic_2 ?_
            refine s_istore (pc := 84) (lv' := [some (.ref (ad 0)), none, some (.int s9.1), some (.int s9.2), some (.int 2), none]) (dc dl_X11_fewestTurnings 54 rfl) (Nat.le_of_ble_eq_true rfl) rfl ?_
            refine s_weak (lv' := [some (.ref (ad 0)), none, some (.int s9.1), some (.int s9.2), some (.int 2), none]) rfl ?_
            refine s_loop (pc := 86) (fun s15 : Int32 × Int32 => [some (.ref (ad 0)), none, some (.int s15.1), some (.int s9.2), some (.int s15.2), none]) [] (fun self14 hself14 s15 => ?_) _ (s9.1, 2)
            refine s_iload (pc := 86) (dc dl_X11_fewestTurnings 55 rfl) rfl ?_
            refine s_aload_n (pc := 88) (dc dl_X11_fewestTurnings 56 rfl) rfl rfl ?_
            refine s_getI (pc := 89) fl_X11_426 lk_Mo_0 kk_Mo_0_46 (dc dl_X11_fewestTurnings 57 rfl) (fun v16 => ?_)
            refine s_icmp_gt (pc := 92) (tgt := 169) (dc dl_X11_fewestTurnings 58 rfl) rfl ?_ ?_
            · refine s_iincL (pc := 169) (lf' := fun y17 => [some (.ref (ad 0)), none, some (.int s15.1), some (.int y17), some (.int s15.2), none]) (dc dl_X11_fewestTurnings 102 rfl) rfl rfl (Nat.le_of_ble_eq_true rfl) (fun _ => rfl) (fun y17 => ?_)
              refine s_goto (pc := 172) (tgt := 68) (dc dl_X11_fewestTurnings 103 rfl) rfl ?_
              exact s_wk (hself8 (s15.1, y17)) rfl
            · refine s_aload_n (pc := 95) (dc dl_X11_fewestTurnings 59 rfl) rfl rfl ?_
              refine s_aload_n (pc := 96) (dc dl_X11_fewestTurnings 60 rfl) rfl rfl ?_
              refine s_getR (pc := 97) fl_X11_89 lk_Mo_0 kk_Mo_0_49 (dc dl_X11_fewestTurnings 61 rfl) ?_
              refine s_iload_n (pc := 100) (dc dl_X11_fewestTurnings 62 rfl) rfl rfl ?_
              refine s_iald (pc := 101) lk_Mo_26 (dc dl_X11_fewestTurnings 63 rfl) (fun v18 => ?_)
              refine s_callv (pc := 102) (rest := []) hG (calls_V (mi := mX11_fewestTurnings) (o := 0) (As := [.int v18]) (rest := []) hG (dc dl_X11_fewestTurnings 64 rfl) mo_X11_takesNumber mv_X11_takesNumber ml_X11_432 ⟨Nat.le_of_ble_eq_true rfl, Nat.le_of_ble_eq_true rfl⟩ rfl rfl (Nat.le_of_ble_eq_true rfl) lk_Mo_0 rfl) (cn_X11_takesNumber l G hG ad v18) rfl (fun r19 => ?_)
              refine s_aload_n (pc := 105) (dc dl_X11_fewestTurnings 65 rfl) rfl rfl ?_
              refine s_iload (pc := 106) (dc dl_X11_fewestTurnings 66 rfl) rfl ?_
              refine s_callv (pc := 108) (rest := []) hG (calls_V (mi := mX11_fewestTurnings) (o := 0) (As := [.int s15.2]) (rest := []) hG (dc dl_X11_fewestTurnings 67 rfl) mo_X11_turnsFirst mv_X11_turnsFirst ml_X11_435 ⟨Nat.le_of_ble_eq_true rfl, Nat.le_of_ble_eq_true rfl⟩ rfl rfl (Nat.le_of_ble_eq_true rfl) lk_Mo_0 rfl) (cn_X11_turnsFirst l G hG ad s15.2) rfl (fun r20 => ?_)
              refine s_aload_n (pc := 111) (dc dl_X11_fewestTurnings 68 rfl) rfl rfl ?_
              refine s_call (pc := 112) (rest := []) hG (calls_V (mi := mX11_fewestTurnings) (o := 0) (As := []) (rest := []) hG (dc dl_X11_fewestTurnings 69 rfl) mo_X11_numberOfOrder mv_X11_numberOfOrder ml_X11_429 ⟨Nat.le_of_ble_eq_true rfl, Nat.le_of_ble_eq_true rfl⟩ rfl rfl (Nat.le_of_ble_eq_true rfl) lk_Mo_0 rfl) (cn_X11_numberOfOrder l G hG ad) rfl (fun r21 => ?_)
              refine s_istore (pc := 115) (lv' := [some (.ref (ad 0)), none, some (.int s15.1), some (.int s9.2), some (.int s15.2), some (.int r21)]) (dc dl_X11_fewestTurnings 70 rfl) (Nat.le_of_ble_eq_true rfl) rfl ?_
              refine s_aload_n (pc := 117) (dc dl_X11_fewestTurnings 71 rfl) rfl rfl ?_
              refine s_getR (pc := 118) fl_X11_86 lk_Mo_0 kk_Mo_0_48 (dc dl_X11_fewestTurnings 72 rfl) ?_
              refine s_iload (pc := 121) (dc dl_X11_fewestTurnings 73 rfl) rfl ?_
              refine s_iald (pc := 123) lk_Mo_25 (dc dl_X11_fewestTurnings 74 rfl) (fun v22 => ?_)
              refine s_iconst (pc := 124) (v := (-1)) (dc dl_X11_fewestTurnings 75 rfl) ic_m1 ?_
              refine s_jn (pj := 163) (fun a24 : Int32 => [some (.ref (ad 0)), none, some (.int a24), some (.int s9.2), some (.int s15.2), none]) (fun a24 : Int32 => []) (fun a24 => ?_) (fun j23 hj23 => ?_)
              · refine s_iincL (pc := 163) (lf' := fun y25 => [some (.ref (ad 0)), none, some (.int a24), some (.int s9.2), some (.int y25), none]) (dc dl_X11_fewestTurnings 100 rfl) rfl rfl (Nat.le_of_ble_eq_true rfl) (fun _ => rfl) (fun y25 => ?_)
                refine s_goto (pc := 166) (tgt := 86) (dc dl_X11_fewestTurnings 101 rfl) rfl ?_
                exact s_wk (hself14 (a24, y25)) rfl
              · refine s_icmp_eq (pc := 125) (tgt := 131) (dc dl_X11_fewestTurnings 76 rfl) rfl ?_ ?_
                · refine s_aload_n (pc := 131) (dc dl_X11_fewestTurnings 78 rfl) rfl rfl ?_
                  refine s_getR (pc := 132) fl_X11_86 lk_Mo_0 kk_Mo_0_48 (dc dl_X11_fewestTurnings 79 rfl) ?_
                  refine s_iload (pc := 135) (dc dl_X11_fewestTurnings 80 rfl) rfl ?_
                  refine s_aload_n (pc := 137) (dc dl_X11_fewestTurnings 81 rfl) rfl rfl ?_
                  refine s_getR (pc := 138) fl_X11_86 lk_Mo_0 kk_Mo_0_48 (dc dl_X11_fewestTurnings 82 rfl) ?_
                  refine s_aload_n (pc := 141) (dc dl_X11_fewestTurnings 83 rfl) rfl rfl ?_
                  refine s_getR (pc := 142) fl_X11_89 lk_Mo_0 kk_Mo_0_49 (dc dl_X11_fewestTurnings 84 rfl) ?_
                  refine s_iload_n (pc := 145) (dc dl_X11_fewestTurnings 85 rfl) rfl rfl ?_
                  refine s_iald (pc := 146) lk_Mo_26 (dc dl_X11_fewestTurnings 86 rfl) (fun v26 => ?_)
                  refine s_iald (pc := 147) lk_Mo_25 (dc dl_X11_fewestTurnings 87 rfl) (fun v27 => ?_)
                  refine s_iconst (pc := 148) (v := 1) (dc dl_X11_fewestTurnings 88 rfl) ic_1 ?_
                  refine s_iadd (pc := 149) (dc dl_X11_fewestTurnings 89 rfl) ?_
                  refine s_iast (pc := 150) lk_Mo_25 (dc dl_X11_fewestTurnings 90 rfl) ?_
                  refine s_aload_n (pc := 151) (dc dl_X11_fewestTurnings 91 rfl) rfl rfl ?_
                  refine s_getR (pc := 152) fl_X11_89 lk_Mo_0 kk_Mo_0_49 (dc dl_X11_fewestTurnings 92 rfl) ?_
                  refine s_iload_n (pc := 155) (dc dl_X11_fewestTurnings 93 rfl) rfl rfl ?_
                  refine s_iload (pc := 156) (dc dl_X11_fewestTurnings 94 rfl) rfl ?_
                  refine s_iast (pc := 158) lk_Mo_26 (dc dl_X11_fewestTurnings 95 rfl) ?_
                  refine s_iload_n (pc := 159) (dc dl_X11_fewestTurnings 96 rfl) rfl rfl ?_
                  refine s_iconst (pc := 160) (v := 1) (dc dl_X11_fewestTurnings 97 rfl) ic_1 ?_
                  refine s_iadd (pc := 161) (dc dl_X11_fewestTurnings 98 rfl) ?_
                  refine s_istore_nL (pc := 162) (lf' := fun y28 => [some (.ref (ad 0)), none, some (.int y28), some (.int s9.2), some (.int s15.2), some (.int r21)]) (dc dl_X11_fewestTurnings 99 rfl) rfl (Nat.le_of_ble_eq_true rfl) (fun _ => rfl) (fun y28 => ?_)
                  exact s_wk (hj23 y28) rfl
                · refine s_goto (pc := 128) (tgt := 163) (dc dl_X11_fewestTurnings 77 rfl) rfl ?_
                  exact s_wk (hj23 s15.1) rfl
          · exact s_wk (hj10 ()) rfl
    · refine s_aload_n (pc := 29) (dc dl_X11_fewestTurnings 19 rfl) rfl rfl ?_
      refine s_getR (pc := 30) fl_X11_86 lk_Mo_0 kk_Mo_0_48 (dc dl_X11_fewestTurnings 20 rfl) ?_
      refine s_iload_n (pc := 33) (dc dl_X11_fewestTurnings 21 rfl) rfl rfl ?_
      refine s_iconst (pc := 34) (v := (-1)) (dc dl_X11_fewestTurnings 22 rfl) ic_m1 ?_
      refine s_iast (pc := 35) lk_Mo_25 (dc dl_X11_fewestTurnings 23 rfl) ?_
      refine s_iincL (pc := 36) (lf' := fun y29 => [some (.ref (ad 0)), some (.int s2.1), some (.int y29), none, none, none]) (dc dl_X11_fewestTurnings 24 rfl) rfl rfl (Nat.le_of_ble_eq_true rfl) (fun _ => rfl) (fun y29 => ?_)
      refine s_goto (pc := 39) (tgt := 24) (dc dl_X11_fewestTurnings 25 rfl) rfl ?_
      exact s_wk (hself4 y29) rfl
  · refine s_iload_n (pc := 12) (dc dl_X11_fewestTurnings 8 rfl) rfl rfl ?_
    refine s_iload_n (pc := 13) (dc dl_X11_fewestTurnings 9 rfl) rfl rfl ?_
    refine s_imul (pc := 14) (dc dl_X11_fewestTurnings 10 rfl) ?_
    refine s_istore_nL (pc := 15) (lf' := fun y30 => [some (.ref (ad 0)), some (.int y30), some (.int s2.2), none, none, none]) (dc dl_X11_fewestTurnings 11 rfl) rfl (Nat.le_of_ble_eq_true rfl) (fun _ => rfl) (fun y30 => ?_)
    refine s_iincL (pc := 16) (lf' := fun y31 => [some (.ref (ad 0)), some (.int y30), some (.int y31), none, none, none]) (dc dl_X11_fewestTurnings 12 rfl) rfl rfl (Nat.le_of_ble_eq_true rfl) (fun _ => rfl) (fun y31 => ?_)
    refine s_goto (pc := 19) (tgt := 4) (dc dl_X11_fewestTurnings 13 rfl) rfl ?_
    exact s_wk (hself1 (y30, y31)) rfl
def gX11_turnings (x1 x2 : Int32) : MM Int32 :=
  bd (sv 0 0 0) fun _ =>
  bd (gX11_isIn x2 0 1) fun r1 =>
  jn (fun (a3 : Unit) =>
  pr ((-1))) (fun j2 =>
  (if r1 = 0 then
  j2 ()
  else
  bd (gX11_takesOrder x1) fun r4 =>
  (if r4 = 0 then
  j2 ()
  else
  (if x2 = 0 then
  bd gX11_fewestTurnings fun r16 =>
  pr r16
  else
  loopC 100000 (fun (self5 : (Int32 × Int32) → MM Int32) (s6 : Int32 × Int32) =>
  bd (ld 0 46) fun v7 =>
  (if v7 ≤ s6.2 then
  pr s6.1
  else
  bd (la 24 s6.2) fun v8 =>
  bd (la 24 (s6.2 - 1)) fun v9 =>
  jn (fun (a11 : Int32) =>
  lt (s6.2 + 1) fun y12 =>
  self5 (a11, y12)) (fun j10 =>
  (if (v8 - v9) = 1 then
  j10 s6.1
  else
  bd (la 24 (s6.2 - 1)) fun v13 =>
  bd (la 24 s6.2) fun v14 =>
  (if (v13 - v14) = 1 then
  j10 s6.1
  else
  lt (s6.1 + 1) fun y15 =>
  j10 y15))))) (0, 1)))))
set_option maxHeartbeats 4000000 in
theorem cn_X11_turnings (l : Launch) (G : Gl) (hG : gOk G) (ad : Nat → Nat) (x1 x2 : Int32) : Cn l G mX11_turnings 2 lay_Mo ad [.ref (ad 0), .int x1, .int x2] (gX11_turnings x1 x2) := by
  refine cn_of (lv := [some (.ref (ad 0)), some (.int x1), some (.int x2), none, none]) (by decide +kernel) rfl (Nat.le_of_ble_eq_true rfl) rfl ?_
  unfold gX11_turnings
  refine s_aload_n (pc := 0) (dc dl_X11_turnings 0 rfl) rfl rfl ?_
  refine s_iconst (pc := 1) (v := 0) (dc dl_X11_turnings 1 rfl) ic_0 ?_
  refine s_putI (pc := 2) fw_X11_125 lk_Mo_0 kk_Mo_0_0 (dc dl_X11_turnings 2 rfl) ?_
  refine s_aload_n (pc := 5) (dc dl_X11_turnings 3 rfl) rfl rfl ?_
  refine s_iload_n (pc := 6) (dc dl_X11_turnings 4 rfl) rfl rfl ?_
  refine s_iconst (pc := 7) (v := 0) (dc dl_X11_turnings 5 rfl) ic_0 ?_
  refine s_iconst (pc := 8) (v := 1) (dc dl_X11_turnings 6 rfl) ic_1 ?_
  refine s_call (pc := 9) (rest := []) hG (calls_V (mi := mX11_turnings) (o := 0) (As := [.int x2, .int 0, .int 1]) (rest := []) hG (dc dl_X11_turnings 7 rfl) mo_X11_isIn mv_X11_isIn ml_X11_150 ⟨Nat.le_of_ble_eq_true rfl, Nat.le_of_ble_eq_true rfl⟩ rfl rfl (Nat.le_of_ble_eq_true rfl) lk_Mo_0 rfl) (cn_X11_isIn l G hG ad x2 0 1) rfl (fun r1 => ?_)
  refine s_jn (pj := 23) (fun a3 : Unit => [none, none, none, none, none]) (fun a3 : Unit => []) (fun a3 => ?_) (fun j2 hj2 => ?_)
  · refine s_iconst (pc := 23) (v := (-1)) (dc dl_X11_turnings 13 rfl) ic_m1 ?_
    exact s_ireturn (pc := 24) rfl (dc dl_X11_turnings 14 rfl)
  · refine s_if_eq (pc := 12) (tgt := 23) (dc dl_X11_turnings 8 rfl) rfl ?_ ?_
    · exact s_wk (hj2 ()) rfl
    · refine s_aload_n (pc := 15) (dc dl_X11_turnings 9 rfl) rfl rfl ?_
      refine s_iload_n (pc := 16) (dc dl_X11_turnings 10 rfl) rfl rfl ?_
      refine s_call (pc := 17) (rest := []) hG (calls_V (mi := mX11_turnings) (o := 0) (As := [.int x1]) (rest := []) hG (dc dl_X11_turnings 11 rfl) mo_X11_takesOrder mv_X11_takesOrder ml_X11_438 ⟨Nat.le_of_ble_eq_true rfl, Nat.le_of_ble_eq_true rfl⟩ rfl rfl (Nat.le_of_ble_eq_true rfl) lk_Mo_0 rfl) (cn_X11_takesOrder l G hG ad x1) rfl (fun r4 => ?_)
      refine s_if_ne (pc := 20) (tgt := 25) (dc dl_X11_turnings 12 rfl) rfl ?_ ?_
      · exact s_wk (hj2 ()) rfl
      · refine s_iload_n (pc := 25) (dc dl_X11_turnings 15 rfl) rfl rfl ?_
        refine s_if_ne (pc := 26) (tgt := 34) (dc dl_X11_turnings 16 rfl) rfl ?_ ?_
        · refine s_aload_n (pc := 29) (dc dl_X11_turnings 17 rfl) rfl rfl ?_
          refine s_call (pc := 30) (rest := []) hG (calls_V (mi := mX11_turnings) (o := 0) (As := []) (rest := []) hG (dc dl_X11_turnings 18 rfl) mo_X11_fewestTurnings mv_X11_fewestTurnings ml_X11_441 ⟨Nat.le_of_ble_eq_true rfl, Nat.le_of_ble_eq_true rfl⟩ rfl rfl (Nat.le_of_ble_eq_true rfl) lk_Mo_0 rfl) (cn_X11_fewestTurnings l G hG ad) rfl (fun r16 => ?_)
          exact s_ireturn (pc := 33) rfl (dc dl_X11_turnings 19 rfl)
        · refine s_iconst (pc := 34) (v := 0) (dc dl_X11_turnings 20 rfl) ic_0 ?_
          refine s_istore_n (pc := 35) (lv' := [some (.ref (ad 0)), some (.int x1), some (.int x2), some (.int 0), none]) (dc dl_X11_turnings 21 rfl) rfl (Nat.le_of_ble_eq_true rfl) rfl ?_
          refine s_iconst (pc := 36) (v := 1) (dc dl_X11_turnings 22 rfl) ic_1 ?_
          refine s_istore (pc := 37) (lv' := [some (.ref (ad 0)), some (.int x1), some (.int x2), some (.int 0), some (.int 1)]) (dc dl_X11_turnings 23 rfl) (Nat.le_of_ble_eq_true rfl) rfl ?_
          refine s_weak (lv' := [some (.ref (ad 0)), none, none, some (.int 0), some (.int 1)]) rfl ?_
          refine s_loop (pc := 39) (fun s6 : Int32 × Int32 => [some (.ref (ad 0)), none, none, some (.int s6.1), some (.int s6.2)]) [] (fun self5 hself5 s6 => ?_) _ (0, 1)
          refine s_iload (pc := 39) (dc dl_X11_turnings 24 rfl) rfl ?_
          refine s_aload_n (pc := 41) (dc dl_X11_turnings 25 rfl) rfl rfl ?_
          refine s_getI (pc := 42) fl_X11_426 lk_Mo_0 kk_Mo_0_46 (dc dl_X11_turnings 26 rfl) (fun v7 => ?_)
          refine s_icmp_ge (pc := 45) (tgt := 100) (dc dl_X11_turnings 27 rfl) rfl ?_ ?_
          · refine s_iload_n (pc := 100) (dc dl_X11_turnings 60 rfl) rfl rfl ?_
            exact s_ireturn (pc := 101) rfl (dc dl_X11_turnings 61 rfl)
          · refine s_aload_n (pc := 48) (dc dl_X11_turnings 28 rfl) rfl rfl ?_
            refine s_getR (pc := 49) fl_X11_83 lk_Mo_0 kk_Mo_0_47 (dc dl_X11_turnings 29 rfl) ?_
            refine s_iload (pc := 52) (dc dl_X11_turnings 30 rfl) rfl ?_
            refine s_iald (pc := 54) lk_Mo_24 (dc dl_X11_turnings 31 rfl) (fun v8 => ?_)
            refine s_aload_n (pc := 55) (dc dl_X11_turnings 32 rfl) rfl rfl ?_
            refine s_getR (pc := 56) fl_X11_83 lk_Mo_0 kk_Mo_0_47 (dc dl_X11_turnings 33 rfl) ?_
            refine s_iload (pc := 59) (dc dl_X11_turnings 34 rfl) rfl ?_
            refine s_iconst (pc := 61) (v := 1) (dc dl_X11_turnings 35 rfl) ic_1 ?_
            refine s_isub (pc := 62) (dc dl_X11_turnings 36 rfl) ?_
            refine s_iald (pc := 63) lk_Mo_24 (dc dl_X11_turnings 37 rfl) (fun v9 => ?_)
            refine s_isub (pc := 64) (dc dl_X11_turnings 38 rfl) ?_
            refine s_iconst (pc := 65) (v := 1) (dc dl_X11_turnings 39 rfl) ic_1 ?_
            refine s_jn (pj := 94) (fun a11 : Int32 => [some (.ref (ad 0)), none, none, some (.int a11), some (.int s6.2)]) (fun a11 : Int32 => []) (fun a11 => ?_) (fun j10 hj10 => ?_)
            · refine s_iincL (pc := 94) (lf' := fun y12 => [some (.ref (ad 0)), none, none, some (.int a11), some (.int y12)]) (dc dl_X11_turnings 58 rfl) rfl rfl (Nat.le_of_ble_eq_true rfl) (fun _ => rfl) (fun y12 => ?_)
              refine s_goto (pc := 97) (tgt := 39) (dc dl_X11_turnings 59 rfl) rfl ?_
              exact s_wk (hself5 (a11, y12)) rfl
            · refine s_icmp_eq (pc := 66) (tgt := 94) (dc dl_X11_turnings 40 rfl) rfl ?_ ?_
              · exact s_wk (hj10 s6.1) rfl
              · refine s_aload_n (pc := 69) (dc dl_X11_turnings 41 rfl) rfl rfl ?_
                refine s_getR (pc := 70) fl_X11_83 lk_Mo_0 kk_Mo_0_47 (dc dl_X11_turnings 42 rfl) ?_
                refine s_iload (pc := 73) (dc dl_X11_turnings 43 rfl) rfl ?_
                refine s_iconst (pc := 75) (v := 1) (dc dl_X11_turnings 44 rfl) ic_1 ?_
                refine s_isub (pc := 76) (dc dl_X11_turnings 45 rfl) ?_
                refine s_iald (pc := 77) lk_Mo_24 (dc dl_X11_turnings 46 rfl) (fun v13 => ?_)
                refine s_aload_n (pc := 78) (dc dl_X11_turnings 47 rfl) rfl rfl ?_
                refine s_getR (pc := 79) fl_X11_83 lk_Mo_0 kk_Mo_0_47 (dc dl_X11_turnings 48 rfl) ?_
                refine s_iload (pc := 82) (dc dl_X11_turnings 49 rfl) rfl ?_
                refine s_iald (pc := 84) lk_Mo_24 (dc dl_X11_turnings 50 rfl) (fun v14 => ?_)
                refine s_isub (pc := 85) (dc dl_X11_turnings 51 rfl) ?_
                refine s_iconst (pc := 86) (v := 1) (dc dl_X11_turnings 52 rfl) ic_1 ?_
                refine s_icmp_eq (pc := 87) (tgt := 94) (dc dl_X11_turnings 53 rfl) rfl ?_ ?_
                · exact s_wk (hj10 s6.1) rfl
                · refine s_iload_n (pc := 90) (dc dl_X11_turnings 54 rfl) rfl rfl ?_
                  refine s_iconst (pc := 91) (v := 1) (dc dl_X11_turnings 55 rfl) ic_1 ?_
                  refine s_iadd (pc := 92) (dc dl_X11_turnings 56 rfl) ?_
                  refine s_istore_nL (pc := 93) (lf' := fun y15 => [some (.ref (ad 0)), none, none, some (.int y15), some (.int s6.2)]) (dc dl_X11_turnings 57 rfl) rfl (Nat.le_of_ble_eq_true rfl) (fun _ => rfl) (fun y15 => ?_)
                  exact s_wk (hj10 y15) rfl
def gX11_folds (x1 x2 : Int32) : MM Int32 :=
  loopC 100000 (fun (self1 : Int32 → MM Int32) (s2 : Int32) =>
  (if (1 <<< (x1 &&& 31)) ≤ s2 then
  loopC 100000 (fun (self3 : (Int32 × Int32) → MM Int32) (s4 : Int32 × Int32) =>
  (if x1 ≤ s4.2 then
  pr 0
  else
  nz s4.1 (
  lt ((1 <<< (x1 &&& 31)) / s4.1) fun y5 =>
  bd (gX11_has x2 s4.2) fun r6 =>
  jn (fun (a8 : Int32) =>
  loopC 100000 (fun (self9 : Int32 → MM Int32) (s10 : Int32) =>
  nz 2 (
  (if (y5 / 2) ≤ s10 then
  loopC 100000 (fun (self11 : Int32 → MM Int32) (s12 : Int32) =>
  (if (1 <<< (x1 &&& 31)) ≤ s12 then
  lt (2 * s4.1) fun y13 =>
  lt (s4.2 + 1) fun y14 =>
  self3 (y13, y14)
  else
  bd (la 28 s12) fun v15 =>
  bd (sa 27 s12 v15) fun _ =>
  lt (s12 + 1) fun y16 =>
  self11 y16)) 0
  else
  jn (fun (a18 : Int32) =>
  jn (fun (a20 : Int32) =>
  loopC 100000 (fun (self21 : Int32 → MM Int32) (s22 : Int32) =>
  (if s4.1 ≤ s22 then
  lt (s10 + 1) fun y23 =>
  self9 y23
  else
  bd (la 27 ((((s4.1 * a18) + s4.1) - 1) - s22)) fun v24 =>
  bd (sa 28 (((2 * s4.1) * s10) + s22) (-v24)) fun _ =>
  bd (la 27 ((s4.1 * a20) + s22)) fun v25 =>
  bd (sa 28 ((((2 * s4.1) * s10) + s4.1) + s22) v25) fun _ =>
  lt (s22 + 1) fun y26 =>
  self21 y26)) 0) (fun j19 =>
  (if a8 = 0 then
  nz 2 (
  j19 ((y5 / 2) + s10))
  else
  j19 s10))) (fun j17 =>
  (if a8 = 0 then
  nz 2 (
  j17 (((y5 / 2) - 1) - s10))
  else
  j17 ((y5 - 1) - s10)))))) 0) (fun j7 =>
  (if r6 = 0 then
  j7 1
  else
  j7 0))))) (1, 0)
  else
  bd (sa 27 s2 (s2 + 1)) fun _ =>
  lt (s2 + 1) fun y27 =>
  self1 y27)) 0
set_option maxHeartbeats 4000000 in
theorem cn_X11_folds (l : Launch) (G : Gl) (hG : gOk G) (ad : Nat → Nat) (x1 x2 : Int32) : Cn l G mX11_folds 1 lay_Mo ad [.ref (ad 0), .int x1, .int x2] (gX11_folds x1 x2) := by
  refine cn_of (lv := [some (.ref (ad 0)), some (.int x1), some (.int x2), none, none, none, none, none, none, none, none]) (by decide +kernel) rfl (Nat.le_of_ble_eq_true rfl) rfl ?_
  unfold gX11_folds
  refine s_iconst (pc := 0) (v := 1) (dc dl_X11_folds 0 rfl) ic_1 ?_
  refine s_istore_n (pc := 1) (lv' := [some (.ref (ad 0)), some (.int x1), some (.int x2), some (.int 1), none, none, none, none, none, none, none]) (dc dl_X11_folds 1 rfl) rfl (Nat.le_of_ble_eq_true rfl) rfl ?_
  refine s_iconst (pc := 2) (v := 0) (dc dl_X11_folds 2 rfl) ic_0 ?_
  refine s_istore (pc := 3) (lv' := [some (.ref (ad 0)), some (.int x1), some (.int x2), some (.int 1), some (.int 0), none, none, none, none, none, none]) (dc dl_X11_folds 3 rfl) (Nat.le_of_ble_eq_true rfl) rfl ?_
  refine s_weak (lv' := [some (.ref (ad 0)), some (.int x1), some (.int x2), some (.int 1), some (.int 0), none, none, none, none, none, none]) rfl ?_
  refine s_loop (pc := 5) (fun s2 : Int32 => [some (.ref (ad 0)), some (.int x1), some (.int x2), some (.int 1), some (.int s2), none, none, none, none, none, none]) [] (fun self1 hself1 s2 => ?_) _ 0
  refine s_iload (pc := 5) (dc dl_X11_folds 4 rfl) rfl ?_
  refine s_iconst (pc := 7) (v := 1) (dc dl_X11_folds 5 rfl) ic_1 ?_
  refine s_iload_n (pc := 8) (dc dl_X11_folds 6 rfl) rfl rfl ?_
  refine s_ishl (pc := 9) (dc dl_X11_folds 7 rfl) ?_
  refine s_icmp_ge (pc := 10) (tgt := 30) (dc dl_X11_folds 8 rfl) rfl ?_ ?_
  · refine s_iconst (pc := 30) (v := 0) (dc dl_X11_folds 18 rfl) ic_0 ?_
    refine s_istore (pc := 31) (lv' := [some (.ref (ad 0)), some (.int x1), some (.int x2), some (.int 1), some (.int 0), none, none, none, none, none, none]) (dc dl_X11_folds 19 rfl) (Nat.le_of_ble_eq_true rfl) rfl ?_
    refine s_weak (lv' := [some (.ref (ad 0)), some (.int x1), some (.int x2), some (.int 1), some (.int 0), none, none, none, none, none, none]) rfl ?_
    refine s_loop (pc := 33) (fun s4 : Int32 × Int32 => [some (.ref (ad 0)), some (.int x1), some (.int x2), some (.int s4.1), some (.int s4.2), none, none, none, none, none, none]) [] (fun self3 hself3 s4 => ?_) _ (1, 0)
    refine s_iload (pc := 33) (dc dl_X11_folds 20 rfl) rfl ?_
    refine s_iload_n (pc := 35) (dc dl_X11_folds 21 rfl) rfl rfl ?_
    refine s_icmp_ge (pc := 36) (tgt := 241) (dc dl_X11_folds 22 rfl) rfl ?_ ?_
    · exact s_return (pc := 241) rfl (dc dl_X11_folds 146 rfl)
    · refine s_iconst (pc := 39) (v := 1) (dc dl_X11_folds 23 rfl) ic_1 ?_
      refine s_iload_n (pc := 40) (dc dl_X11_folds 24 rfl) rfl rfl ?_
      refine s_ishl (pc := 41) (dc dl_X11_folds 25 rfl) ?_
      refine s_iload_n (pc := 42) (dc dl_X11_folds 26 rfl) rfl rfl ?_
      refine s_idiv (pc := 43) (dc dl_X11_folds 27 rfl) ?_
      refine s_istoreL (pc := 44) (lf' := fun y5 => [some (.ref (ad 0)), some (.int x1), some (.int x2), some (.int s4.1), some (.int s4.2), some (.int y5), none, none, none, none, none]) (dc dl_X11_folds 28 rfl) (Nat.le_of_ble_eq_true rfl) (fun _ => rfl) (fun y5 => ?_)
      refine s_aload_n (pc := 46) (dc dl_X11_folds 29 rfl) rfl rfl ?_
      refine s_iload_n (pc := 47) (dc dl_X11_folds 30 rfl) rfl rfl ?_
      refine s_iload (pc := 48) (dc dl_X11_folds 31 rfl) rfl ?_
      refine s_call (pc := 50) (rest := []) hG (calls_V (mi := mX11_folds) (o := 0) (As := [.int x2, .int s4.2]) (rest := []) hG (dc dl_X11_folds 32 rfl) mo_X11_has mv_X11_has ml_X11_332 ⟨Nat.le_of_ble_eq_true rfl, Nat.le_of_ble_eq_true rfl⟩ rfl rfl (Nat.le_of_ble_eq_true rfl) lk_Mo_0 rfl) (cn_X11_has l G hG ad x2 s4.2) rfl (fun r6 => ?_)
      refine s_jn (pj := 61) (fun a8 : Int32 => [some (.ref (ad 0)), some (.int x1), some (.int x2), some (.int s4.1), some (.int s4.2), some (.int y5), none, none, none, none, none]) (fun a8 : Int32 => [.int a8]) (fun a8 => ?_) (fun j7 hj7 => ?_)
      · refine s_istore (pc := 61) (lv' := [some (.ref (ad 0)), some (.int x1), some (.int x2), some (.int s4.1), some (.int s4.2), some (.int y5), some (.int a8), none, none, none, none]) (dc dl_X11_folds 37 rfl) (Nat.le_of_ble_eq_true rfl) rfl ?_
        refine s_iconst (pc := 63) (v := 0) (dc dl_X11_folds 38 rfl) ic_0 ?_
        refine s_istore (pc := 64) (lv' := [some (.ref (ad 0)), some (.int x1), some (.int x2), some (.int s4.1), some (.int s4.2), some (.int y5), some (.int a8), some (.int 0), none, none, none]) (dc dl_X11_folds 39 rfl) (Nat.le_of_ble_eq_true rfl) rfl ?_
        refine s_weak (lv' := [some (.ref (ad 0)), some (.int x1), some (.int x2), some (.int s4.1), some (.int s4.2), some (.int y5), some (.int a8), some (.int 0), none, none, none]) rfl ?_
        refine s_loop (pc := 66) (fun s10 : Int32 => [some (.ref (ad 0)), some (.int x1), some (.int x2), some (.int s4.1), some (.int s4.2), some (.int y5), some (.int a8), some (.int s10), none, none, none]) [] (fun self9 hself9 s10 => ?_) _ 0
        refine s_iload (pc := 66) (dc dl_X11_folds 40 rfl) rfl ?_
        refine s_iload (pc := 68) (dc dl_X11_folds 41 rfl) rfl ?_
        refine s_iconst (pc := 70) (v := 2) (dc dl_X11_folds 42 rfl) ic_2 ?_
        refine s_idiv (pc := 71) (dc dl_X11_folds 43 rfl) ?_
        refine s_icmp_ge (pc := 72) (tgt := 200) (dc dl_X11_folds 44 rfl) rfl ?_ ?_
        · refine s_iconst (pc := 200) (v := 0) (dc dl_X11_folds 123 rfl) ic_0 ?_
          refine s_istore (pc := 201) (lv' := [some (.ref (ad 0)), some (.int x1), some (.int x2), some (.int s4.1), some (.int s4.2), some (.int y5), some (.int a8), some (.int 0), none, none, none]) (dc dl_X11_folds 124 rfl) (Nat.le_of_ble_eq_true rfl) rfl ?_
          refine s_weak (lv' := [some (.ref (ad 0)), some (.int x1), some (.int x2), some (.int s4.1), some (.int s4.2), none, none, some (.int 0), none, none, none]) rfl ?_
          refine s_loop (pc := 203) (fun s12 : Int32 => [some (.ref (ad 0)), some (.int x1), some (.int x2), some (.int s4.1), some (.int s4.2), none, none, some (.int s12), none, none, none]) [] (fun self11 hself11 s12 => ?_) _ 0
          refine s_iload (pc := 203) (dc dl_X11_folds 125 rfl) rfl ?_
          refine s_iconst (pc := 205) (v := 1) (dc dl_X11_folds 126 rfl) ic_1 ?_
          refine s_iload_n (pc := 206) (dc dl_X11_folds 127 rfl) rfl rfl ?_
          refine s_ishl (pc := 207) (dc dl_X11_folds 128 rfl) ?_
          refine s_icmp_ge (pc := 208) (tgt := 231) (dc dl_X11_folds 129 rfl) rfl ?_ ?_
          · refine s_iconst (pc := 231) (v := 2) (dc dl_X11_folds 140 rfl) ic_2 ?_
            refine s_iload_n (pc := 232) (dc dl_X11_folds 141 rfl) rfl rfl ?_
            refine s_imul (pc := 233) (dc dl_X11_folds 142 rfl) ?_
            refine s_istore_nL (pc := 234) (lf' := fun y13 => [some (.ref (ad 0)), some (.int x1), some (.int x2), some (.int y13), some (.int s4.2), none, none, some (.int s12), none, none, none]) (dc dl_X11_folds 143 rfl) rfl (Nat.le_of_ble_eq_true rfl) (fun _ => rfl) (fun y13 => ?_)
            refine s_iincL (pc := 235) (lf' := fun y14 => [some (.ref (ad 0)), some (.int x1), some (.int x2), some (.int y13), some (.int y14), none, none, some (.int s12), none, none, none]) (dc dl_X11_folds 144 rfl) rfl rfl (Nat.le_of_ble_eq_true rfl) (fun _ => rfl) (fun y14 => ?_)
            refine s_goto (pc := 238) (tgt := 33) (dc dl_X11_folds 145 rfl) rfl ?_
            exact s_wk (hself3 (y13, y14)) rfl
          · refine s_aload_n (pc := 211) (dc dl_X11_folds 130 rfl) rfl rfl ?_
            refine s_getR (pc := 212) fl_X11_92 lk_Mo_0 kk_Mo_0_50 (dc dl_X11_folds 131 rfl) ?_
            refine s_iload (pc := 215) (dc dl_X11_folds 132 rfl) rfl ?_
            refine s_aload_n (pc := 217) (dc dl_X11_folds 133 rfl) rfl rfl ?_
            refine s_getR (pc := 218) fl_X11_95 lk_Mo_0 kk_Mo_0_51 (dc dl_X11_folds 134 rfl) ?_
            refine s_iload (pc := 221) (dc dl_X11_folds 135 rfl) rfl ?_
            refine s_iald (pc := 223) lk_Mo_28 (dc dl_X11_folds 136 rfl) (fun v15 => ?_)
            refine s_iast (pc := 224) lk_Mo_27 (dc dl_X11_folds 137 rfl) ?_
            refine s_iincL (pc := 225) (lf' := fun y16 => [some (.ref (ad 0)), some (.int x1), some (.int x2), some (.int s4.1), some (.int s4.2), none, none, some (.int y16), none, none, none]) (dc dl_X11_folds 138 rfl) rfl rfl (Nat.le_of_ble_eq_true rfl) (fun _ => rfl) (fun y16 => ?_)
            refine s_goto (pc := 228) (tgt := 203) (dc dl_X11_folds 139 rfl) rfl ?_
            exact s_wk (hself11 y16) rfl
        · refine s_iload (pc := 75) (dc dl_X11_folds 45 rfl) rfl ?_
          refine s_jn (pj := 99) (fun a18 : Int32 => [some (.ref (ad 0)), some (.int x1), some (.int x2), some (.int s4.1), some (.int s4.2), some (.int y5), some (.int a8), some (.int s10), none, none, none]) (fun a18 : Int32 => [.int a18]) (fun a18 => ?_) (fun j17 hj17 => ?_)
          · refine s_istore (pc := 99) (lv' := [some (.ref (ad 0)), some (.int x1), some (.int x2), some (.int s4.1), some (.int s4.2), some (.int y5), some (.int a8), some (.int s10), some (.int a18), none, none]) (dc dl_X11_folds 60 rfl) (Nat.le_of_ble_eq_true rfl) rfl ?_
            refine s_iload (pc := 101) (dc dl_X11_folds 61 rfl) rfl ?_
            refine s_jn (pj := 118) (fun a20 : Int32 => [some (.ref (ad 0)), some (.int x1), some (.int x2), some (.int s4.1), some (.int s4.2), some (.int y5), some (.int a8), some (.int s10), some (.int a18), none, none]) (fun a20 : Int32 => [.int a20]) (fun a20 => ?_) (fun j19 hj19 => ?_)
            · refine s_istore (pc := 118) (lv' := [some (.ref (ad 0)), some (.int x1), some (.int x2), some (.int s4.1), some (.int s4.2), some (.int y5), some (.int a8), some (.int s10), some (.int a18), some (.int a20), none]) (dc dl_X11_folds 70 rfl) (Nat.le_of_ble_eq_true rfl) rfl ?_
              refine s_iconst (pc := 120) (v := 0) (dc dl_X11_folds 71 rfl) ic_0 ?_
              refine s_istore (pc := 121) (lv' := [some (.ref (ad 0)), some (.int x1), some (.int x2), some (.int s4.1), some (.int s4.2), some (.int y5), some (.int a8), some (.int s10), some (.int a18), some (.int a20), some (.int 0)]) (dc dl_X11_folds 72 rfl) (Nat.le_of_ble_eq_true rfl) rfl ?_
              refine s_weak (lv' := [some (.ref (ad 0)), some (.int x1), some (.int x2), some (.int s4.1), some (.int s4.2), some (.int y5), some (.int a8), some (.int s10), some (.int a18), some (.int a20), some (.int 0)]) rfl ?_
              refine s_loop (pc := 123) (fun s22 : Int32 => [some (.ref (ad 0)), some (.int x1), some (.int x2), some (.int s4.1), some (.int s4.2), some (.int y5), some (.int a8), some (.int s10), some (.int a18), some (.int a20), some (.int s22)]) [] (fun self21 hself21 s22 => ?_) _ 0
              refine s_iload (pc := 123) (dc dl_X11_folds 73 rfl) rfl ?_
              refine s_iload_n (pc := 125) (dc dl_X11_folds 74 rfl) rfl rfl ?_
              refine s_icmp_ge (pc := 126) (tgt := 194) (dc dl_X11_folds 75 rfl) rfl ?_ ?_
              · refine s_iincL (pc := 194) (lf' := fun y23 => [some (.ref (ad 0)), some (.int x1), some (.int x2), some (.int s4.1), some (.int s4.2), some (.int y5), some (.int a8), some (.int y23), some (.int a18), some (.int a20), some (.int s22)]) (dc dl_X11_folds 121 rfl) rfl rfl (Nat.le_of_ble_eq_true rfl) (fun _ => rfl) (fun y23 => ?_)
                refine s_goto (pc := 197) (tgt := 66) (dc dl_X11_folds 122 rfl) rfl ?_
                exact s_wk (hself9 y23) rfl
              · refine s_aload_n (pc := 129) (dc dl_X11_folds 76 rfl) rfl rfl ?_
                refine s_getR (pc := 130) fl_X11_95 lk_Mo_0 kk_Mo_0_51 (dc dl_X11_folds 77 rfl) ?_
                refine s_iconst (pc := 133) (v := 2) (dc dl_X11_folds 78 rfl) ic_2 ?_
                refine s_iload_n (pc := 134) (dc dl_X11_folds 79 rfl) rfl rfl ?_
                refine s_imul (pc := 135) (dc dl_X11_folds 80 rfl) ?_
                refine s_iload (pc := 136) (dc dl_X11_folds 81 rfl) rfl ?_
                refine s_imul (pc := 138) (dc dl_X11_folds 82 rfl) ?_
                refine s_iload (pc := 139) (dc dl_X11_folds 83 rfl) rfl ?_
                refine s_iadd (pc := 141) (dc dl_X11_folds 84 rfl) ?_
                refine s_aload_n (pc := 142) (dc dl_X11_folds 85 rfl) rfl rfl ?_
                refine s_getR (pc := 143) fl_X11_92 lk_Mo_0 kk_Mo_0_50 (dc dl_X11_folds 86 rfl) ?_
                refine s_iload_n (pc := 146) (dc dl_X11_folds 87 rfl) rfl rfl ?_
                refine s_iload (pc := 147) (dc dl_X11_folds 88 rfl) rfl ?_
                refine s_imul (pc := 149) (dc dl_X11_folds 89 rfl) ?_
                refine s_iload_n (pc := 150) (dc dl_X11_folds 90 rfl) rfl rfl ?_
                refine s_iadd (pc := 151) (dc dl_X11_folds 91 rfl) ?_
                refine s_iconst (pc := 152) (v := 1) (dc dl_X11_folds 92 rfl) ic_1 ?_
                refine s_isub (pc := 153) (dc dl_X11_folds 93 rfl) ?_
                refine s_iload (pc := 154) (dc dl_X11_folds 94 rfl) rfl ?_
                refine s_isub (pc := 156) (dc dl_X11_folds 95 rfl) ?_
                refine s_iald (pc := 157) lk_Mo_27 (dc dl_X11_folds 96 rfl) (fun v24 => ?_)
                refine s_ineg (pc := 158) (dc dl_X11_folds 97 rfl) ?_
                refine s_iast (pc := 159) lk_Mo_28 (dc dl_X11_folds 98 rfl) ?_
                refine s_aload_n (pc := 160) (dc dl_X11_folds 99 rfl) rfl rfl ?_
                refine s_getR (pc := 161) fl_X11_95 lk_Mo_0 kk_Mo_0_51 (dc dl_X11_folds 100 rfl) ?_
                refine s_iconst (pc := 164) (v := 2) (dc dl_X11_folds 101 rfl) ic_2 ?_
                refine s_iload_n (pc := 165) (dc dl_X11_folds 102 rfl) rfl rfl ?_
                refine s_imul (pc := 166) (dc dl_X11_folds 103 rfl) ?_
                refine s_iload (pc := 167) (dc dl_X11_folds 104 rfl) rfl ?_
                refine s_imul (pc := 169) (dc dl_X11_folds 105 rfl) ?_
                refine s_iload_n (pc := 170) (dc dl_X11_folds 106 rfl) rfl rfl ?_
                refine s_iadd (pc := 171) (dc dl_X11_folds 107 rfl) ?_
                refine s_iload (pc := 172) (dc dl_X11_folds 108 rfl) rfl ?_
                refine s_iadd (pc := 174) (dc dl_X11_folds 109 rfl) ?_
                refine s_aload_n (pc := 175) (dc dl_X11_folds 110 rfl) rfl rfl ?_
                refine s_getR (pc := 176) fl_X11_92 lk_Mo_0 kk_Mo_0_50 (dc dl_X11_folds 111 rfl) ?_
                refine s_iload_n (pc := 179) (dc dl_X11_folds 112 rfl) rfl rfl ?_
                refine s_iload (pc := 180) (dc dl_X11_folds 113 rfl) rfl ?_
                refine s_imul (pc := 182) (dc dl_X11_folds 114 rfl) ?_
                refine s_iload (pc := 183) (dc dl_X11_folds 115 rfl) rfl ?_
                refine s_iadd (pc := 185) (dc dl_X11_folds 116 rfl) ?_
                refine s_iald (pc := 186) lk_Mo_27 (dc dl_X11_folds 117 rfl) (fun v25 => ?_)
                refine s_iast (pc := 187) lk_Mo_28 (dc dl_X11_folds 118 rfl) ?_
                refine s_iincL (pc := 188) (lf' := fun y26 => [some (.ref (ad 0)), some (.int x1), some (.int x2), some (.int s4.1), some (.int s4.2), some (.int y5), some (.int a8), some (.int s10), some (.int a18), some (.int a20), some (.int y26)]) (dc dl_X11_folds 119 rfl) rfl rfl (Nat.le_of_ble_eq_true rfl) (fun _ => rfl) (fun y26 => ?_)
                refine s_goto (pc := 191) (tgt := 123) (dc dl_X11_folds 120 rfl) rfl ?_
                exact s_wk (hself21 y26) rfl
            · refine s_if_eq (pc := 103) (tgt := 111) (dc dl_X11_folds 62 rfl) rfl ?_ ?_
              · refine s_iload (pc := 111) (dc dl_X11_folds 65 rfl) rfl ?_
                refine s_iconst (pc := 113) (v := 2) (dc dl_X11_folds 66 rfl) ic_2 ?_
                refine s_idiv (pc := 114) (dc dl_X11_folds 67 rfl) ?_
                refine s_iload (pc := 115) (dc dl_X11_folds 68 rfl) rfl ?_
                refine s_iadd (pc := 117) (dc dl_X11_folds 69 rfl) ?_
                exact s_wk (hj19 ((y5 / 2) + s10)) rfl
              · refine s_iload (pc := 106) (dc dl_X11_folds 63 rfl) rfl ?_
                refine s_goto (pc := 108) (tgt := 118) (dc dl_X11_folds 64 rfl) rfl ?_
                exact s_wk (hj19 s10) rfl
          · refine s_if_eq (pc := 77) (tgt := 90) (dc dl_X11_folds 46 rfl) rfl ?_ ?_
            · refine s_iload (pc := 90) (dc dl_X11_folds 53 rfl) rfl ?_
              refine s_iconst (pc := 92) (v := 2) (dc dl_X11_folds 54 rfl) ic_2 ?_
              refine s_idiv (pc := 93) (dc dl_X11_folds 55 rfl) ?_
              refine s_iconst (pc := 94) (v := 1) (dc dl_X11_folds 56 rfl) ic_1 ?_
              refine s_isub (pc := 95) (dc dl_X11_folds 57 rfl) ?_
              refine s_iload (pc := 96) (dc dl_X11_folds 58 rfl) rfl ?_
              refine s_isub (pc := 98) (dc dl_X11_folds 59 rfl) ?_
              exact s_wk (hj17 (((y5 / 2) - 1) - s10)) rfl
            · refine s_iload (pc := 80) (dc dl_X11_folds 47 rfl) rfl ?_
              refine s_iconst (pc := 82) (v := 1) (dc dl_X11_folds 48 rfl) ic_1 ?_
              refine s_isub (pc := 83) (dc dl_X11_folds 49 rfl) ?_
              refine s_iload (pc := 84) (dc dl_X11_folds 50 rfl) rfl ?_
              refine s_isub (pc := 86) (dc dl_X11_folds 51 rfl) ?_
              refine s_goto (pc := 87) (tgt := 99) (dc dl_X11_folds 52 rfl) rfl ?_
              exact s_wk (hj17 ((y5 - 1) - s10)) rfl
      · refine s_if_ne (pc := 53) (tgt := 60) (dc dl_X11_folds 33 rfl) rfl ?_ ?_
        · refine s_iconst (pc := 56) (v := 1) (dc dl_X11_folds 34 rfl) ic_1 ?_
          refine s_goto (pc := 57) (tgt := 61) (dc dl_X11_folds 35 rfl) rfl ?_
          exact s_wk (hj7 1) rfl
        · refine s_iconst (pc := 60) (v := 0) (dc dl_X11_folds 36 rfl) ic_0 ?_
          exact s_wk (hj7 0) rfl
  · refine s_aload_n (pc := 13) (dc dl_X11_folds 9 rfl) rfl rfl ?_
    refine s_getR (pc := 14) fl_X11_92 lk_Mo_0 kk_Mo_0_50 (dc dl_X11_folds 10 rfl) ?_
    refine s_iload (pc := 17) (dc dl_X11_folds 11 rfl) rfl ?_
    refine s_iload (pc := 19) (dc dl_X11_folds 12 rfl) rfl ?_
    refine s_iconst (pc := 21) (v := 1) (dc dl_X11_folds 13 rfl) ic_1 ?_
    refine s_iadd (pc := 22) (dc dl_X11_folds 14 rfl) ?_
    refine s_iast (pc := 23) lk_Mo_27 (dc dl_X11_folds 15 rfl) ?_
    refine s_iincL (pc := 24) (lf' := fun y27 => [some (.ref (ad 0)), some (.int x1), some (.int x2), some (.int 1), some (.int y27), none, none, none, none, none, none]) (dc dl_X11_folds 16 rfl) rfl rfl (Nat.le_of_ble_eq_true rfl) (fun _ => rfl) (fun y27 => ?_)
    refine s_goto (pc := 27) (tgt := 5) (dc dl_X11_folds 17 rfl) rfl ?_
    exact s_wk (hself1 y27) rfl
def gX11_strip (x1 x2 x3 : Int32) : MM Int32 :=
  bd (sv 0 0 0) fun _ =>
  bd (gX11_isIn x1 0 447) fun r1 =>
  jn (fun (a3 : Unit) =>
  pr ((-1))) (fun j2 =>
  (if r1 = 0 then
  j2 ()
  else
  nz 64 (
  bd (gX11_isIn x2 0 ((1 <<< ((x1 / 64) &&& 31)) - 1)) fun r4 =>
  (if r4 = 0 then
  j2 ()
  else
  bd (gX11_isIn x3 0 2) fun r5 =>
  (if r5 = 0 then
  j2 ()
  else
  nz 64 (
  nz 64 (
  bd (gX11_folds (x1 / 64) (irm x1 64)) fun r6 =>
  (if x3 = 0 then
  bd (la 27 x2) fun v17 =>
  jn (fun (a19 : Int32) =>
  pr (a19 - 1)) (fun j18 =>
  (if 0 ≤ v17 then
  bd (la 27 x2) fun v20 =>
  j18 v20
  else
  bd (la 27 x2) fun v21 =>
  j18 (-v21)))
  else
  loopC 100000 (fun (self7 : Int32 → MM Int32) (s8 : Int32) =>
  bd (la 27 s8) fun v9 =>
  jn (fun (a11 : Unit) =>
  jn (fun (a13 : Int32) =>
  pr a13) (fun j12 =>
  (if x3 = 1 then
  j12 s8
  else
  bd (la 27 s8) fun v14 =>
  (if v14 ≤ 0 then
  j12 0
  else
  j12 1)))) (fun j10 =>
  (if v9 = (x2 + 1) then
  j10 ()
  else
  bd (la 27 s8) fun v15 =>
  (if v15 = ((-x2) - 1) then
  j10 ()
  else
  lt (s8 + 1) fun y16 =>
  self7 y16)))) 0))))))))
set_option maxHeartbeats 4000000 in
theorem cn_X11_strip (l : Launch) (G : Gl) (hG : gOk G) (ad : Nat → Nat) (x1 x2 x3 : Int32) : Cn l G mX11_strip 2 lay_Mo ad [.ref (ad 0), .int x1, .int x2, .int x3] (gX11_strip x1 x2 x3) := by
  refine cn_of (lv := [some (.ref (ad 0)), some (.int x1), some (.int x2), some (.int x3), none]) (by decide +kernel) rfl (Nat.le_of_ble_eq_true rfl) rfl ?_
  unfold gX11_strip
  refine s_aload_n (pc := 0) (dc dl_X11_strip 0 rfl) rfl rfl ?_
  refine s_iconst (pc := 1) (v := 0) (dc dl_X11_strip 1 rfl) ic_0 ?_
  refine s_putI (pc := 2) fw_X11_125 lk_Mo_0 kk_Mo_0_0 (dc dl_X11_strip 2 rfl) ?_
  refine s_aload_n (pc := 5) (dc dl_X11_strip 3 rfl) rfl rfl ?_
  refine s_iload_n (pc := 6) (dc dl_X11_strip 4 rfl) rfl rfl ?_
  refine s_iconst (pc := 7) (v := 0) (dc dl_X11_strip 5 rfl) ic_0 ?_
  refine s_sipush (pc := 8) (v := 447) (dc dl_X11_strip 6 rfl) si_447 ?_
  refine s_call (pc := 11) (rest := []) hG (calls_V (mi := mX11_strip) (o := 0) (As := [.int x1, .int 0, .int 447]) (rest := []) hG (dc dl_X11_strip 7 rfl) mo_X11_isIn mv_X11_isIn ml_X11_150 ⟨Nat.le_of_ble_eq_true rfl, Nat.le_of_ble_eq_true rfl⟩ rfl rfl (Nat.le_of_ble_eq_true rfl) lk_Mo_0 rfl) (cn_X11_isIn l G hG ad x1 0 447) rfl (fun r1 => ?_)
  refine s_jn (pj := 44) (fun a3 : Unit => [none, none, none, none, none]) (fun a3 : Unit => []) (fun a3 => ?_) (fun j2 hj2 => ?_)
  · refine s_iconst (pc := 44) (v := (-1)) (dc dl_X11_strip 27 rfl) ic_m1 ?_
    exact s_ireturn (pc := 45) rfl (dc dl_X11_strip 28 rfl)
  · refine s_if_eq (pc := 14) (tgt := 44) (dc dl_X11_strip 8 rfl) rfl ?_ ?_
    · exact s_wk (hj2 ()) rfl
    · refine s_aload_n (pc := 17) (dc dl_X11_strip 9 rfl) rfl rfl ?_
      refine s_iload_n (pc := 18) (dc dl_X11_strip 10 rfl) rfl rfl ?_
      refine s_iconst (pc := 19) (v := 0) (dc dl_X11_strip 11 rfl) ic_0 ?_
      refine s_iconst (pc := 20) (v := 1) (dc dl_X11_strip 12 rfl) ic_1 ?_
      refine s_iload_n (pc := 21) (dc dl_X11_strip 13 rfl) rfl rfl ?_
      refine s_bipush (pc := 22) (v := 64) (dc dl_X11_strip 14 rfl) bi_64 ?_
      refine s_idiv (pc := 24) (dc dl_X11_strip 15 rfl) ?_
      refine s_ishl (pc := 25) (dc dl_X11_strip 16 rfl) ?_
      refine s_iconst (pc := 26) (v := 1) (dc dl_X11_strip 17 rfl) ic_1 ?_
      refine s_isub (pc := 27) (dc dl_X11_strip 18 rfl) ?_
      refine s_call (pc := 28) (rest := []) hG (calls_V (mi := mX11_strip) (o := 0) (As := [.int x2, .int 0, .int ((1 <<< ((x1 / 64) &&& 31)) - 1)]) (rest := []) hG (dc dl_X11_strip 19 rfl) mo_X11_isIn mv_X11_isIn ml_X11_150 ⟨Nat.le_of_ble_eq_true rfl, Nat.le_of_ble_eq_true rfl⟩ rfl rfl (Nat.le_of_ble_eq_true rfl) lk_Mo_0 rfl) (cn_X11_isIn l G hG ad x2 0 ((1 <<< ((x1 / 64) &&& 31)) - 1)) rfl (fun r4 => ?_)
      refine s_if_eq (pc := 31) (tgt := 44) (dc dl_X11_strip 20 rfl) rfl ?_ ?_
      · exact s_wk (hj2 ()) rfl
      · refine s_aload_n (pc := 34) (dc dl_X11_strip 21 rfl) rfl rfl ?_
        refine s_iload_n (pc := 35) (dc dl_X11_strip 22 rfl) rfl rfl ?_
        refine s_iconst (pc := 36) (v := 0) (dc dl_X11_strip 23 rfl) ic_0 ?_
        refine s_iconst (pc := 37) (v := 2) (dc dl_X11_strip 24 rfl) ic_2 ?_
        refine s_call (pc := 38) (rest := []) hG (calls_V (mi := mX11_strip) (o := 0) (As := [.int x3, .int 0, .int 2]) (rest := []) hG (dc dl_X11_strip 25 rfl) mo_X11_isIn mv_X11_isIn ml_X11_150 ⟨Nat.le_of_ble_eq_true rfl, Nat.le_of_ble_eq_true rfl⟩ rfl rfl (Nat.le_of_ble_eq_true rfl) lk_Mo_0 rfl) (cn_X11_isIn l G hG ad x3 0 2) rfl (fun r5 => ?_)
        refine s_if_ne (pc := 41) (tgt := 46) (dc dl_X11_strip 26 rfl) rfl ?_ ?_
        · exact s_wk (hj2 ()) rfl
        · refine s_aload_n (pc := 46) (dc dl_X11_strip 29 rfl) rfl rfl ?_
          refine s_iload_n (pc := 47) (dc dl_X11_strip 30 rfl) rfl rfl ?_
          refine s_bipush (pc := 48) (v := 64) (dc dl_X11_strip 31 rfl) bi_64 ?_
          refine s_idiv (pc := 50) (dc dl_X11_strip 32 rfl) ?_
          refine s_iload_n (pc := 51) (dc dl_X11_strip 33 rfl) rfl rfl ?_
          refine s_bipush (pc := 52) (v := 64) (dc dl_X11_strip 34 rfl) bi_64 ?_
          refine s_irem (pc := 54) (dc dl_X11_strip 35 rfl) ?_
          refine s_callv (pc := 55) (rest := []) hG (calls_V (mi := mX11_strip) (o := 0) (As := [.int (x1 / 64), .int (irm x1 64)]) (rest := []) hG (dc dl_X11_strip 36 rfl) mo_X11_folds mv_X11_folds ml_X11_444 ⟨Nat.le_of_ble_eq_true rfl, Nat.le_of_ble_eq_true rfl⟩ rfl rfl (Nat.le_of_ble_eq_true rfl) lk_Mo_0 rfl) (cn_X11_folds l G hG ad (x1 / 64) (irm x1 64)) rfl (fun r6 => ?_)
          refine s_iload_n (pc := 58) (dc dl_X11_strip 37 rfl) rfl rfl ?_
          refine s_if_ne (pc := 59) (tgt := 90) (dc dl_X11_strip 38 rfl) rfl ?_ ?_
          · refine s_aload_n (pc := 62) (dc dl_X11_strip 39 rfl) rfl rfl ?_
            refine s_getR (pc := 63) fl_X11_92 lk_Mo_0 kk_Mo_0_50 (dc dl_X11_strip 40 rfl) ?_
            refine s_iload_n (pc := 66) (dc dl_X11_strip 41 rfl) rfl rfl ?_
            refine s_iald (pc := 67) lk_Mo_27 (dc dl_X11_strip 42 rfl) (fun v17 => ?_)
            refine s_jn (pj := 87) (fun a19 : Int32 => [none, none, none, none, none]) (fun a19 : Int32 => [.int a19]) (fun a19 => ?_) (fun j18 hj18 => ?_)
            · refine s_iconst (pc := 87) (v := 1) (dc dl_X11_strip 54 rfl) ic_1 ?_
              refine s_isub (pc := 88) (dc dl_X11_strip 55 rfl) ?_
              exact s_ireturn (pc := 89) rfl (dc dl_X11_strip 56 rfl)
            · refine s_if_ge (pc := 68) (tgt := 81) (dc dl_X11_strip 43 rfl) rfl ?_ ?_
              · refine s_aload_n (pc := 81) (dc dl_X11_strip 50 rfl) rfl rfl ?_
                refine s_getR (pc := 82) fl_X11_92 lk_Mo_0 kk_Mo_0_50 (dc dl_X11_strip 51 rfl) ?_
                refine s_iload_n (pc := 85) (dc dl_X11_strip 52 rfl) rfl rfl ?_
                refine s_iald (pc := 86) lk_Mo_27 (dc dl_X11_strip 53 rfl) (fun v20 => ?_)
                exact s_wk (hj18 v20) rfl
              · refine s_aload_n (pc := 71) (dc dl_X11_strip 44 rfl) rfl rfl ?_
                refine s_getR (pc := 72) fl_X11_92 lk_Mo_0 kk_Mo_0_50 (dc dl_X11_strip 45 rfl) ?_
                refine s_iload_n (pc := 75) (dc dl_X11_strip 46 rfl) rfl rfl ?_
                refine s_iald (pc := 76) lk_Mo_27 (dc dl_X11_strip 47 rfl) (fun v21 => ?_)
                refine s_ineg (pc := 77) (dc dl_X11_strip 48 rfl) ?_
                refine s_goto (pc := 78) (tgt := 87) (dc dl_X11_strip 49 rfl) rfl ?_
                exact s_wk (hj18 (-v21)) rfl
          · refine s_iconst (pc := 90) (v := 0) (dc dl_X11_strip 57 rfl) ic_0 ?_
            refine s_istore (pc := 91) (lv' := [some (.ref (ad 0)), some (.int x1), some (.int x2), some (.int x3), some (.int 0)]) (dc dl_X11_strip 58 rfl) (Nat.le_of_ble_eq_true rfl) rfl ?_
            refine s_weak (lv' := [some (.ref (ad 0)), none, some (.int x2), some (.int x3), some (.int 0)]) rfl ?_
            refine s_loop (pc := 93) (fun s8 : Int32 => [some (.ref (ad 0)), none, some (.int x2), some (.int x3), some (.int s8)]) [] (fun self7 hself7 s8 => ?_) _ 0
            refine s_aload_n (pc := 93) (dc dl_X11_strip 59 rfl) rfl rfl ?_
            refine s_getR (pc := 94) fl_X11_92 lk_Mo_0 kk_Mo_0_50 (dc dl_X11_strip 60 rfl) ?_
            refine s_iload (pc := 97) (dc dl_X11_strip 61 rfl) rfl ?_
            refine s_iald (pc := 99) lk_Mo_27 (dc dl_X11_strip 62 rfl) (fun v9 => ?_)
            refine s_iload_n (pc := 100) (dc dl_X11_strip 63 rfl) rfl rfl ?_
            refine s_iconst (pc := 101) (v := 1) (dc dl_X11_strip 64 rfl) ic_1 ?_
            refine s_iadd (pc := 102) (dc dl_X11_strip 65 rfl) ?_
            refine s_jn (pj := 129) (fun a11 : Unit => [some (.ref (ad 0)), none, none, some (.int x3), some (.int s8)]) (fun a11 : Unit => []) (fun a11 => ?_) (fun j10 hj10 => ?_)
            · refine s_iload_n (pc := 129) (dc dl_X11_strip 81 rfl) rfl rfl ?_
              refine s_iconst (pc := 130) (v := 1) (dc dl_X11_strip 82 rfl) ic_1 ?_
              refine s_jn (pj := 154) (fun a13 : Int32 => [none, none, none, none, none]) (fun a13 : Int32 => [.int a13]) (fun a13 => ?_) (fun j12 hj12 => ?_)
              · exact s_ireturn (pc := 154) rfl (dc dl_X11_strip 94 rfl)
              · refine s_icmp_ne (pc := 131) (tgt := 139) (dc dl_X11_strip 83 rfl) rfl ?_ ?_
                · refine s_iload (pc := 134) (dc dl_X11_strip 84 rfl) rfl ?_
                  refine s_goto (pc := 136) (tgt := 154) (dc dl_X11_strip 85 rfl) rfl ?_
                  exact s_wk (hj12 s8) rfl
                · refine s_aload_n (pc := 139) (dc dl_X11_strip 86 rfl) rfl rfl ?_
                  refine s_getR (pc := 140) fl_X11_92 lk_Mo_0 kk_Mo_0_50 (dc dl_X11_strip 87 rfl) ?_
                  refine s_iload (pc := 143) (dc dl_X11_strip 88 rfl) rfl ?_
                  refine s_iald (pc := 145) lk_Mo_27 (dc dl_X11_strip 89 rfl) (fun v14 => ?_)
                  refine s_if_le (pc := 146) (tgt := 153) (dc dl_X11_strip 90 rfl) rfl ?_ ?_
                  · refine s_iconst (pc := 153) (v := 0) (dc dl_X11_strip 93 rfl) ic_0 ?_
                    exact s_wk (hj12 0) rfl
                  · refine s_iconst (pc := 149) (v := 1) (dc dl_X11_strip 91 rfl) ic_1 ?_
                    refine s_goto (pc := 150) (tgt := 154) (dc dl_X11_strip 92 rfl) rfl ?_
                    exact s_wk (hj12 1) rfl
            · refine s_icmp_eq (pc := 103) (tgt := 129) (dc dl_X11_strip 66 rfl) rfl ?_ ?_
              · exact s_wk (hj10 ()) rfl
              · refine s_aload_n (pc := 106) (dc dl_X11_strip 67 rfl) rfl rfl ?_
                refine s_getR (pc := 107) fl_X11_92 lk_Mo_0 kk_Mo_0_50 (dc dl_X11_strip 68 rfl) ?_
                refine s_iload (pc := 110) (dc dl_X11_strip 69 rfl) rfl ?_
                refine s_iald (pc := 112) lk_Mo_27 (dc dl_X11_strip 70 rfl) (fun v15 => ?_)
                refine s_iload_n (pc := 113) (dc dl_X11_strip 71 rfl) rfl rfl ?_
                refine s_ineg (pc := 114) (dc dl_X11_strip 72 rfl) ?_
                refine s_iconst (pc := 115) (v := 1) (dc dl_X11_strip 73 rfl) ic_1 ?_
                refine s_isub (pc := 116) (dc dl_X11_strip 74 rfl) ?_
                refine s_icmp_eq (pc := 117) (tgt := 129) (dc dl_X11_strip 75 rfl) rfl ?_ ?_
                · exact s_wk (hj10 ()) rfl
                · refine s_iload (pc := 120) (dc dl_X11_strip 76 rfl) rfl ?_
                  refine s_iconst (pc := 122) (v := 1) (dc dl_X11_strip 77 rfl) ic_1 ?_
                  refine s_iadd (pc := 123) (dc dl_X11_strip 78 rfl) ?_
                  refine s_istoreL (pc := 124) (lf' := fun y16 => [some (.ref (ad 0)), none, some (.int x2), some (.int x3), some (.int y16)]) (dc dl_X11_strip 79 rfl) (Nat.le_of_ble_eq_true rfl) (fun _ => rfl) (fun y16 => ?_)
                  refine s_goto (pc := 126) (tgt := 93) (dc dl_X11_strip 80 rfl) rfl ?_
                  exact s_wk (hself7 y16) rfl
