def gX2_copy : MM Int32 :=
  bd (ld 7 0) fun v1 =>
  bd (sv 0 0 v1) fun _ =>
  bd (ld 7 1) fun v2 =>
  bd (sv 0 1 v2) fun _ =>
  bd (cpy 8 0 1 0 16) fun _ =>
  bd (cpy 9 0 2 0 16) fun _ =>
  bd (cpy 10 0 3 0 16) fun _ =>
  bd (cpy 11 0 4 0 16) fun _ =>
  bd (cpy 12 0 5 0 400) fun _ =>
  pr 0
set_option maxHeartbeats 4000000 in
theorem cn_X2_copy (l : Launch) (G : Gl) (hG : gOk G) (ad : Nat → Nat) : Cn l G mX2_copy 1 lay_Law2 ad [.ref (ad 0), .ref (ad 7)] (gX2_copy) := by
  refine cn_of (lv := [some (.ref (ad 0)), some (.ref (ad 7))]) (by decide +kernel) rfl (Nat.le_of_ble_eq_true rfl) rfl ?_
  unfold gX2_copy
  refine s_aload_n (pc := 0) (dc dl_X2_copy 0 rfl) rfl rfl ?_
  refine s_aload_n (pc := 1) (dc dl_X2_copy 1 rfl) rfl rfl ?_
  refine s_getI (pc := 2) fl_X2_9 lk_Law2_7 kk_Law2_7_0 (dc dl_X2_copy 2 rfl) (fun v1 => ?_)
  refine s_putI (pc := 5) fw_X2_9 lk_Law2_0 kk_Law2_0_0 (dc dl_X2_copy 3 rfl) ?_
  refine s_aload_n (pc := 8) (dc dl_X2_copy 4 rfl) rfl rfl ?_
  refine s_aload_n (pc := 9) (dc dl_X2_copy 5 rfl) rfl rfl ?_
  refine s_getI (pc := 10) fl_X2_15 lk_Law2_7 kk_Law2_7_1 (dc dl_X2_copy 6 rfl) (fun v2 => ?_)
  refine s_putI (pc := 13) fw_X2_15 lk_Law2_0 kk_Law2_0_1 (dc dl_X2_copy 7 rfl) ?_
  refine s_aload_n (pc := 16) (dc dl_X2_copy 8 rfl) rfl rfl ?_
  refine s_getR (pc := 17) fl_X2_18 lk_Law2_7 kk_Law2_7_2 (dc dl_X2_copy 9 rfl) ?_
  refine s_iconst (pc := 20) (v := 0) (dc dl_X2_copy 10 rfl) ic_0 ?_
  refine s_aload_n (pc := 21) (dc dl_X2_copy 11 rfl) rfl rfl ?_
  refine s_getR (pc := 22) fl_X2_18 lk_Law2_0 kk_Law2_0_2 (dc dl_X2_copy 12 rfl) ?_
  refine s_iconst (pc := 25) (v := 0) (dc dl_X2_copy 13 rfl) ic_0 ?_
  refine s_bipush (pc := 26) (v := 16) (dc dl_X2_copy 14 rfl) bi_16 ?_
  refine s_acopy (pc := 28) (si := 8) (di := 1) ml_X2_37 lk_Law2_8 lk_Law2_1 (Nat.le_of_ble_eq_true rfl) (dc dl_X2_copy 15 rfl) (Nat.le_of_ble_eq_true rfl) ?_
  refine s_aload_n (pc := 31) (dc dl_X2_copy 16 rfl) rfl rfl ?_
  refine s_getR (pc := 32) fl_X2_22 lk_Law2_7 kk_Law2_7_3 (dc dl_X2_copy 17 rfl) ?_
  refine s_iconst (pc := 35) (v := 0) (dc dl_X2_copy 18 rfl) ic_0 ?_
  refine s_aload_n (pc := 36) (dc dl_X2_copy 19 rfl) rfl rfl ?_
  refine s_getR (pc := 37) fl_X2_22 lk_Law2_0 kk_Law2_0_3 (dc dl_X2_copy 20 rfl) ?_
  refine s_iconst (pc := 40) (v := 0) (dc dl_X2_copy 21 rfl) ic_0 ?_
  refine s_bipush (pc := 41) (v := 16) (dc dl_X2_copy 22 rfl) bi_16 ?_
  refine s_acopy (pc := 43) (si := 9) (di := 2) ml_X2_37 lk_Law2_9 lk_Law2_2 (Nat.le_of_ble_eq_true rfl) (dc dl_X2_copy 23 rfl) (Nat.le_of_ble_eq_true rfl) ?_
  refine s_aload_n (pc := 46) (dc dl_X2_copy 24 rfl) rfl rfl ?_
  refine s_getR (pc := 47) fl_X2_25 lk_Law2_7 kk_Law2_7_4 (dc dl_X2_copy 25 rfl) ?_
  refine s_iconst (pc := 50) (v := 0) (dc dl_X2_copy 26 rfl) ic_0 ?_
  refine s_aload_n (pc := 51) (dc dl_X2_copy 27 rfl) rfl rfl ?_
  refine s_getR (pc := 52) fl_X2_25 lk_Law2_0 kk_Law2_0_4 (dc dl_X2_copy 28 rfl) ?_
  refine s_iconst (pc := 55) (v := 0) (dc dl_X2_copy 29 rfl) ic_0 ?_
  refine s_bipush (pc := 56) (v := 16) (dc dl_X2_copy 30 rfl) bi_16 ?_
  refine s_acopy (pc := 58) (si := 10) (di := 3) ml_X2_37 lk_Law2_10 lk_Law2_3 (Nat.le_of_ble_eq_true rfl) (dc dl_X2_copy 31 rfl) (Nat.le_of_ble_eq_true rfl) ?_
  refine s_aload_n (pc := 61) (dc dl_X2_copy 32 rfl) rfl rfl ?_
  refine s_getR (pc := 62) fl_X2_28 lk_Law2_7 kk_Law2_7_5 (dc dl_X2_copy 33 rfl) ?_
  refine s_iconst (pc := 65) (v := 0) (dc dl_X2_copy 34 rfl) ic_0 ?_
  refine s_aload_n (pc := 66) (dc dl_X2_copy 35 rfl) rfl rfl ?_
  refine s_getR (pc := 67) fl_X2_28 lk_Law2_0 kk_Law2_0_5 (dc dl_X2_copy 36 rfl) ?_
  refine s_iconst (pc := 70) (v := 0) (dc dl_X2_copy 37 rfl) ic_0 ?_
  refine s_bipush (pc := 71) (v := 16) (dc dl_X2_copy 38 rfl) bi_16 ?_
  refine s_acopy (pc := 73) (si := 11) (di := 4) ml_X2_37 lk_Law2_11 lk_Law2_4 (Nat.le_of_ble_eq_true rfl) (dc dl_X2_copy 39 rfl) (Nat.le_of_ble_eq_true rfl) ?_
  refine s_aload_n (pc := 76) (dc dl_X2_copy 40 rfl) rfl rfl ?_
  refine s_getR (pc := 77) fl_X2_31 lk_Law2_7 kk_Law2_7_6 (dc dl_X2_copy 41 rfl) ?_
  refine s_iconst (pc := 80) (v := 0) (dc dl_X2_copy 42 rfl) ic_0 ?_
  refine s_aload_n (pc := 81) (dc dl_X2_copy 43 rfl) rfl rfl ?_
  refine s_getR (pc := 82) fl_X2_31 lk_Law2_0 kk_Law2_0_6 (dc dl_X2_copy 44 rfl) ?_
  refine s_iconst (pc := 85) (v := 0) (dc dl_X2_copy 45 rfl) ic_0 ?_
  refine s_sipush (pc := 86) (v := 400) (dc dl_X2_copy 46 rfl) si_400 ?_
  refine s_acopy (pc := 89) (si := 12) (di := 5) ml_X2_37 lk_Law2_12 lk_Law2_5 (Nat.le_of_ble_eq_true rfl) (dc dl_X2_copy 47 rfl) (Nat.le_of_ble_eq_true rfl) ?_
  exact s_return (pc := 92) rfl (dc dl_X2_copy 48 rfl)
def gX2_worth (x1 x2 : Int32) : MM Int32 :=
  bd (lf rh0 0 (gJ9_max_7cf53 x1 0)) fun r1 =>
  loopC 100000 (fun (self2 : (Int32 × Int32) → MM Int32) (s3 : Int32 × Int32) =>
  jn (fun (a5 : Unit) =>
  jn (fun (a7 : Int32) =>
  pr a7) (fun j6 =>
  (if s3.1 ≤ 0 then
  j6 0
  else
  bd (la 6 (s3.1 - 1)) fun v8 =>
  j6 v8))) (fun j4 =>
  (if x2 ≤ s3.2 then
  j4 ()
  else
  (if 400 ≤ s3.2 then
  j4 ()
  else
  bd (la 5 s3.2) fun v9 =>
  jn (fun (a11 : Int32) =>
  lt (s3.2 + 1) fun y12 =>
  self2 (a11, y12)) (fun j10 =>
  (if 10010 ≤ v9 then
  (if v9 = 10019 then
  (if s3.1 ≤ 0 then
  j10 s3.1
  else
  bd (la 6 (s3.1 - 1)) fun v31 =>
  bd (sa 6 (s3.1 - 1) (1 - v31)) fun _ =>
  j10 s3.1)
  else
  (if s3.1 ≤ 1 then
  j10 s3.1
  else
  lt (s3.1 + (-1)) fun y13 =>
  bd (la 6 (y13 - 1)) fun v14 =>
  bd (la 6 y13) fun v15 =>
  jn (fun (a17 : Int32) =>
  bd (sa 6 (y13 - 1) a17) fun _ =>
  j10 y13) (fun j16 =>
  swt v9 10010 [lt (v14 + v15) fun y18 =>
  j16 y18,
  lt (v14 - v15) fun y19 =>
  j16 y19,
  lt (v14 * v15) fun y20 =>
  j16 y20,
  jn (fun (a22 : Int32) =>
  j16 a22) (fun j21 =>
  (if v15 = 0 then
  j21 0
  else
  nz v15 (
  j21 (v14 / v15)))),
  jn (fun (a24 : Int32) =>
  j16 a24) (fun j23 =>
  (if v15 ≤ v14 then
  j23 0
  else
  j23 1)),
  jn (fun (a26 : Int32) =>
  j16 a26) (fun j25 =>
  (if v14 = v15 then
  j25 1
  else
  j25 0)),
  jn (fun (a28 : Int32) =>
  j16 a28) (fun j27 =>
  (if v14 ≤ v15 then
  j27 0
  else
  j27 1)),
  lt (v14 &&& v15) fun y29 =>
  j16 y29,
  lt (v14 ||| v15) fun y30 =>
  j16 y30]
  (j16 v14))))
  else
  lt (v9 - 10000) fun y32 =>
  jn (fun (a34 : Int32) =>
  j10 a34) (fun j33 =>
  (if 400 ≤ s3.1 then
  j33 s3.1
  else
  jn (fun (a36 : Int32) =>
  bd (sa 6 s3.1 a36) fun _ =>
  lt (s3.1 + 1) fun y37 =>
  j33 y37) (fun j35 =>
  jn (fun (a39 : Unit) =>
  j35 v9) (fun j38 =>
  (if y32 < 0 then
  j38 ()
  else
  bd (ln 7) fun v40 =>
  (if v40 ≤ y32 then
  j38 ()
  else
  bd (la 7 y32) fun v41 =>
  j35 v41)))))))))))) (0, r1)
set_option maxHeartbeats 4000000 in
theorem cn_X2_worth (l : Launch) (G : Gl) (hG : gOk G) (ad : Nat → Nat) (x1 x2 : Int32) : Cn l G mX2_worth 1 lay_LawS ad [.ref (ad 0), .int x1, .int x2, .ref (ad 7)] (gX2_worth x1 x2) := by
  refine cn_of (lv := [some (.ref (ad 0)), some (.int x1), some (.int x2), some (.ref (ad 7)), none, none, none, none, none]) (by decide +kernel) rfl (Nat.le_of_ble_eq_true rfl) rfl ?_
  unfold gX2_worth
  refine s_iconst (pc := 0) (v := 0) (dc dl_X2_worth 0 rfl) ic_0 ?_
  refine s_istore (pc := 1) (lv' := [some (.ref (ad 0)), some (.int x1), some (.int x2), some (.ref (ad 7)), some (.int 0), none, none, none, none]) (dc dl_X2_worth 1 rfl) (Nat.le_of_ble_eq_true rfl) rfl ?_
  refine s_iload_n (pc := 3) (dc dl_X2_worth 2 rfl) rfl rfl ?_
  refine s_iconst (pc := 4) (v := 0) (dc dl_X2_worth 3 rfl) ic_0 ?_
  refine s_calll (pc := 5) (ρ := rh0) (rest := []) hG (ss_LawS_E_rh0) (calls_S (mi := mX2_worth) (As := [.int x1, .int 0]) (rest := []) hG (dc dl_X2_worth 4 rfl) mo_J9_max_7cf53 ms_J9_max_7cf53 ml_X2_51 ⟨Nat.le_of_ble_eq_true rfl, Nat.le_of_ble_eq_true rfl⟩ rfl rfl (Nat.le_of_ble_eq_true rfl)) (cn_J9_max_7cf53 l G hG (fun i => ad (rh0 i)) x1 0) rfl rfl (fun r1 => ?_)
  refine s_istore (pc := 8) (lv' := [some (.ref (ad 0)), some (.int x1), some (.int x2), some (.ref (ad 7)), some (.int 0), some (.int r1), none, none, none]) (dc dl_X2_worth 5 rfl) (Nat.le_of_ble_eq_true rfl) rfl ?_
  refine s_weak (lv' := [some (.ref (ad 0)), none, some (.int x2), some (.ref (ad 7)), some (.int 0), some (.int r1), none, none, none]) rfl ?_
  refine s_loop (pc := 10) (fun s3 : Int32 × Int32 => [some (.ref (ad 0)), none, some (.int x2), some (.ref (ad 7)), some (.int s3.1), some (.int s3.2), none, none, none]) [] (fun self2 hself2 s3 => ?_) _ (0, r1)
  refine s_iload (pc := 10) (dc dl_X2_worth 6 rfl) rfl ?_
  refine s_iload_n (pc := 12) (dc dl_X2_worth 7 rfl) rfl rfl ?_
  refine s_jn (pj := 345) (fun a5 : Unit => [some (.ref (ad 0)), none, none, none, some (.int s3.1), none, none, none, none]) (fun a5 : Unit => []) (fun a5 => ?_) (fun j4 hj4 => ?_)
  · refine s_iload (pc := 345) (dc dl_X2_worth 149 rfl) rfl ?_
    refine s_jn (pj := 363) (fun a7 : Int32 => [none, none, none, none, none, none, none, none, none]) (fun a7 : Int32 => [.int a7]) (fun a7 => ?_) (fun j6 hj6 => ?_)
    · exact s_ireturn (pc := 363) rfl (dc dl_X2_worth 159 rfl)
    · refine s_if_le (pc := 347) (tgt := 362) (dc dl_X2_worth 150 rfl) rfl ?_ ?_
      · refine s_iconst (pc := 362) (v := 0) (dc dl_X2_worth 158 rfl) ic_0 ?_
        exact s_wk (hj6 0) rfl
      · refine s_aload_n (pc := 350) (dc dl_X2_worth 151 rfl) rfl rfl ?_
        refine s_getR (pc := 351) fl_X2_34 lk_LawS_0 kk_LawS_0_7 (dc dl_X2_worth 152 rfl) ?_
        refine s_iload (pc := 354) (dc dl_X2_worth 153 rfl) rfl ?_
        refine s_iconst (pc := 356) (v := 1) (dc dl_X2_worth 154 rfl) ic_1 ?_
        refine s_isub (pc := 357) (dc dl_X2_worth 155 rfl) ?_
        refine s_iald (pc := 358) lk_LawS_6 (dc dl_X2_worth 156 rfl) (fun v8 => ?_)
        refine s_goto (pc := 359) (tgt := 363) (dc dl_X2_worth 157 rfl) rfl ?_
        exact s_wk (hj6 v8) rfl
  · refine s_icmp_ge (pc := 13) (tgt := 345) (dc dl_X2_worth 8 rfl) rfl ?_ ?_
    · exact s_wk (hj4 ()) rfl
    · refine s_iload (pc := 16) (dc dl_X2_worth 9 rfl) rfl ?_
      refine s_sipush (pc := 18) (v := 400) (dc dl_X2_worth 10 rfl) si_400 ?_
      refine s_icmp_ge (pc := 21) (tgt := 345) (dc dl_X2_worth 11 rfl) rfl ?_ ?_
      · exact s_wk (hj4 ()) rfl
      · refine s_aload_n (pc := 24) (dc dl_X2_worth 12 rfl) rfl rfl ?_
        refine s_getR (pc := 25) fl_X2_31 lk_LawS_0 kk_LawS_0_6 (dc dl_X2_worth 13 rfl) ?_
        refine s_iload (pc := 28) (dc dl_X2_worth 14 rfl) rfl ?_
        refine s_iald (pc := 30) lk_LawS_5 (dc dl_X2_worth 15 rfl) (fun v9 => ?_)
        refine s_istore (pc := 31) (lv' := [some (.ref (ad 0)), none, some (.int x2), some (.ref (ad 7)), some (.int s3.1), some (.int s3.2), some (.int v9), none, none]) (dc dl_X2_worth 16 rfl) (Nat.le_of_ble_eq_true rfl) rfl ?_
        refine s_iload (pc := 33) (dc dl_X2_worth 17 rfl) rfl ?_
        refine s_sipush (pc := 35) (v := 10010) (dc dl_X2_worth 18 rfl) si_10010 ?_
        refine s_jn (pj := 339) (fun a11 : Int32 => [some (.ref (ad 0)), none, some (.int x2), some (.ref (ad 7)), some (.int a11), some (.int s3.2), none, none, none]) (fun a11 : Int32 => []) (fun a11 => ?_) (fun j10 hj10 => ?_)
        · refine s_iincL (pc := 339) (lf' := fun y12 => [some (.ref (ad 0)), none, some (.int x2), some (.ref (ad 7)), some (.int a11), some (.int y12), none, none, none]) (dc dl_X2_worth 147 rfl) rfl rfl (Nat.le_of_ble_eq_true rfl) (fun _ => rfl) (fun y12 => ?_)
          refine s_goto (pc := 342) (tgt := 10) (dc dl_X2_worth 148 rfl) rfl ?_
          exact s_wk (hself2 (a11, y12)) rfl
        · refine s_icmp_ge (pc := 38) (tgt := 91) (dc dl_X2_worth 19 rfl) rfl ?_ ?_
          · refine s_iload (pc := 91) (dc dl_X2_worth 44 rfl) rfl ?_
            refine s_sipush (pc := 93) (v := 10019) (dc dl_X2_worth 45 rfl) si_10019 ?_
            refine s_icmp_ne (pc := 96) (tgt := 127) (dc dl_X2_worth 46 rfl) rfl ?_ ?_
            · refine s_iload (pc := 99) (dc dl_X2_worth 47 rfl) rfl ?_
              refine s_if_le (pc := 101) (tgt := 339) (dc dl_X2_worth 48 rfl) rfl ?_ ?_
              · exact s_wk (hj10 s3.1) rfl
              · refine s_aload_n (pc := 104) (dc dl_X2_worth 49 rfl) rfl rfl ?_
                refine s_getR (pc := 105) fl_X2_34 lk_LawS_0 kk_LawS_0_7 (dc dl_X2_worth 50 rfl) ?_
                refine s_iload (pc := 108) (dc dl_X2_worth 51 rfl) rfl ?_
                refine s_iconst (pc := 110) (v := 1) (dc dl_X2_worth 52 rfl) ic_1 ?_
                refine s_isub (pc := 111) (dc dl_X2_worth 53 rfl) ?_
                refine s_iconst (pc := 112) (v := 1) (dc dl_X2_worth 54 rfl) ic_1 ?_
                refine s_aload_n (pc := 113) (dc dl_X2_worth 55 rfl) rfl rfl ?_
                refine s_getR (pc := 114) fl_X2_34 lk_LawS_0 kk_LawS_0_7 (dc dl_X2_worth 56 rfl) ?_
                refine s_iload (pc := 117) (dc dl_X2_worth 57 rfl) rfl ?_
                refine s_iconst (pc := 119) (v := 1) (dc dl_X2_worth 58 rfl) ic_1 ?_
                refine s_isub (pc := 120) (dc dl_X2_worth 59 rfl) ?_
                refine s_iald (pc := 121) lk_LawS_6 (dc dl_X2_worth 60 rfl) (fun v31 => ?_)
                refine s_isub (pc := 122) (dc dl_X2_worth 61 rfl) ?_
                refine s_iast (pc := 123) lk_LawS_6 (dc dl_X2_worth 62 rfl) ?_
                refine s_goto (pc := 124) (tgt := 339) (dc dl_X2_worth 63 rfl) rfl ?_
                exact s_wk (hj10 s3.1) rfl
            · refine s_iload (pc := 127) (dc dl_X2_worth 64 rfl) rfl ?_
              refine s_iconst (pc := 129) (v := 1) (dc dl_X2_worth 65 rfl) ic_1 ?_
              refine s_icmp_le (pc := 130) (tgt := 339) (dc dl_X2_worth 66 rfl) rfl ?_ ?_
              · exact s_wk (hj10 s3.1) rfl
              · refine s_iincL (pc := 133) (lf' := fun y13 => [some (.ref (ad 0)), none, some (.int x2), some (.ref (ad 7)), some (.int y13), some (.int s3.2), some (.int v9), none, none]) (dc dl_X2_worth 67 rfl) rfl rfl (Nat.le_of_ble_eq_true rfl) (fun _ => rfl) (fun y13 => ?_)
                refine s_aload_n (pc := 136) (dc dl_X2_worth 68 rfl) rfl rfl ?_
                refine s_getR (pc := 137) fl_X2_34 lk_LawS_0 kk_LawS_0_7 (dc dl_X2_worth 69 rfl) ?_
                refine s_iload (pc := 140) (dc dl_X2_worth 70 rfl) rfl ?_
                refine s_iconst (pc := 142) (v := 1) (dc dl_X2_worth 71 rfl) ic_1 ?_
                refine s_isub (pc := 143) (dc dl_X2_worth 72 rfl) ?_
                refine s_iald (pc := 144) lk_LawS_6 (dc dl_X2_worth 73 rfl) (fun v14 => ?_)
                refine s_istore (pc := 145) (lv' := [some (.ref (ad 0)), none, some (.int x2), some (.ref (ad 7)), some (.int y13), some (.int s3.2), some (.int v9), some (.int v14), none]) (dc dl_X2_worth 74 rfl) (Nat.le_of_ble_eq_true rfl) rfl ?_
                refine s_aload_n (pc := 147) (dc dl_X2_worth 75 rfl) rfl rfl ?_
                refine s_getR (pc := 148) fl_X2_34 lk_LawS_0 kk_LawS_0_7 (dc dl_X2_worth 76 rfl) ?_
                refine s_iload (pc := 151) (dc dl_X2_worth 77 rfl) rfl ?_
                refine s_iald (pc := 153) lk_LawS_6 (dc dl_X2_worth 78 rfl) (fun v15 => ?_)
                refine s_istore (pc := 154) (lv' := [some (.ref (ad 0)), none, some (.int x2), some (.ref (ad 7)), some (.int y13), some (.int s3.2), some (.int v9), some (.int v14), some (.int v15)]) (dc dl_X2_worth 79 rfl) (Nat.le_of_ble_eq_true rfl) rfl ?_
                refine s_iload (pc := 156) (dc dl_X2_worth 80 rfl) rfl ?_
                refine s_jn (pj := 328) (fun a17 : Int32 => [some (.ref (ad 0)), none, some (.int x2), some (.ref (ad 7)), some (.int y13), some (.int s3.2), none, some (.int a17), none]) (fun a17 : Int32 => []) (fun a17 => ?_) (fun j16 hj16 => ?_)
                · refine s_aload_n (pc := 328) (dc dl_X2_worth 140 rfl) rfl rfl ?_
                  refine s_getR (pc := 329) fl_X2_34 lk_LawS_0 kk_LawS_0_7 (dc dl_X2_worth 141 rfl) ?_
                  refine s_iload (pc := 332) (dc dl_X2_worth 142 rfl) rfl ?_
                  refine s_iconst (pc := 334) (v := 1) (dc dl_X2_worth 143 rfl) ic_1 ?_
                  refine s_isub (pc := 335) (dc dl_X2_worth 144 rfl) ?_
                  refine s_iload (pc := 336) (dc dl_X2_worth 145 rfl) rfl ?_
                  refine s_iast (pc := 338) lk_LawS_6 (dc dl_X2_worth 146 rfl) ?_
                  exact s_wk (hj10 y13) rfl
                · refine s_table (pc := 158) (offs := [50, 60, 70, 80, 99, 116, 133, 150, 160]) (tgt := 328) (dc dl_X2_worth 81 rfl) (by decide) (by decide) ?_ ⟨⟨208, by decide, ?_⟩, ⟨218, by decide, ?_⟩, ⟨228, by decide, ?_⟩, ⟨238, by decide, ?_⟩, ⟨257, by decide, ?_⟩, ⟨274, by decide, ?_⟩, ⟨291, by decide, ?_⟩, ⟨308, by decide, ?_⟩, ⟨318, by decide, ?_⟩, trivial⟩
                  · exact s_wk (hj16 v14) rfl
                  · refine s_iload (pc := 208) (dc dl_X2_worth 82 rfl) rfl ?_
                    refine s_iload (pc := 210) (dc dl_X2_worth 83 rfl) rfl ?_
                    refine s_iadd (pc := 212) (dc dl_X2_worth 84 rfl) ?_
                    refine s_istoreL (pc := 213) (lf' := fun y18 => [some (.ref (ad 0)), none, some (.int x2), some (.ref (ad 7)), some (.int y13), some (.int s3.2), some (.int v9), some (.int y18), some (.int v15)]) (dc dl_X2_worth 85 rfl) (Nat.le_of_ble_eq_true rfl) (fun _ => rfl) (fun y18 => ?_)
                    refine s_goto (pc := 215) (tgt := 328) (dc dl_X2_worth 86 rfl) rfl ?_
                    exact s_wk (hj16 y18) rfl
                  · refine s_iload (pc := 218) (dc dl_X2_worth 87 rfl) rfl ?_
                    refine s_iload (pc := 220) (dc dl_X2_worth 88 rfl) rfl ?_
                    refine s_isub (pc := 222) (dc dl_X2_worth 89 rfl) ?_
                    refine s_istoreL (pc := 223) (lf' := fun y19 => [some (.ref (ad 0)), none, some (.int x2), some (.ref (ad 7)), some (.int y13), some (.int s3.2), some (.int v9), some (.int y19), some (.int v15)]) (dc dl_X2_worth 90 rfl) (Nat.le_of_ble_eq_true rfl) (fun _ => rfl) (fun y19 => ?_)
                    refine s_goto (pc := 225) (tgt := 328) (dc dl_X2_worth 91 rfl) rfl ?_
                    exact s_wk (hj16 y19) rfl
                  · refine s_iload (pc := 228) (dc dl_X2_worth 92 rfl) rfl ?_
                    refine s_iload (pc := 230) (dc dl_X2_worth 93 rfl) rfl ?_
                    refine s_imul (pc := 232) (dc dl_X2_worth 94 rfl) ?_
                    refine s_istoreL (pc := 233) (lf' := fun y20 => [some (.ref (ad 0)), none, some (.int x2), some (.ref (ad 7)), some (.int y13), some (.int s3.2), some (.int v9), some (.int y20), some (.int v15)]) (dc dl_X2_worth 95 rfl) (Nat.le_of_ble_eq_true rfl) (fun _ => rfl) (fun y20 => ?_)
                    refine s_goto (pc := 235) (tgt := 328) (dc dl_X2_worth 96 rfl) rfl ?_
                    exact s_wk (hj16 y20) rfl
                  · refine s_iload (pc := 238) (dc dl_X2_worth 97 rfl) rfl ?_
                    refine s_jn (pj := 252) (fun a22 : Int32 => [some (.ref (ad 0)), none, some (.int x2), some (.ref (ad 7)), some (.int y13), some (.int s3.2), none, none, none]) (fun a22 : Int32 => [.int a22]) (fun a22 => ?_) (fun j21 hj21 => ?_)
                    · refine s_istore (pc := 252) (lv' := [some (.ref (ad 0)), none, some (.int x2), some (.ref (ad 7)), some (.int y13), some (.int s3.2), none, some (.int a22), none]) (dc dl_X2_worth 104 rfl) (Nat.le_of_ble_eq_true rfl) rfl ?_
                      refine s_goto (pc := 254) (tgt := 328) (dc dl_X2_worth 105 rfl) rfl ?_
                      exact s_wk (hj16 a22) rfl
                    · refine s_if_ne (pc := 240) (tgt := 247) (dc dl_X2_worth 98 rfl) rfl ?_ ?_
                      · refine s_iconst (pc := 243) (v := 0) (dc dl_X2_worth 99 rfl) ic_0 ?_
                        refine s_goto (pc := 244) (tgt := 252) (dc dl_X2_worth 100 rfl) rfl ?_
                        exact s_wk (hj21 0) rfl
                      · refine s_iload (pc := 247) (dc dl_X2_worth 101 rfl) rfl ?_
                        refine s_iload (pc := 249) (dc dl_X2_worth 102 rfl) rfl ?_
                        refine s_idiv (pc := 251) (dc dl_X2_worth 103 rfl) ?_
                        exact s_wk (hj21 (v14 / v15)) rfl
                  · refine s_iload (pc := 257) (dc dl_X2_worth 106 rfl) rfl ?_
                    refine s_iload (pc := 259) (dc dl_X2_worth 107 rfl) rfl ?_
                    refine s_jn (pj := 269) (fun a24 : Int32 => [some (.ref (ad 0)), none, some (.int x2), some (.ref (ad 7)), some (.int y13), some (.int s3.2), none, none, none]) (fun a24 : Int32 => [.int a24]) (fun a24 => ?_) (fun j23 hj23 => ?_)
                    · refine s_istore (pc := 269) (lv' := [some (.ref (ad 0)), none, some (.int x2), some (.ref (ad 7)), some (.int y13), some (.int s3.2), none, some (.int a24), none]) (dc dl_X2_worth 112 rfl) (Nat.le_of_ble_eq_true rfl) rfl ?_
                      refine s_goto (pc := 271) (tgt := 328) (dc dl_X2_worth 113 rfl) rfl ?_
                      exact s_wk (hj16 a24) rfl
                    · refine s_icmp_ge (pc := 261) (tgt := 268) (dc dl_X2_worth 108 rfl) rfl ?_ ?_
                      · refine s_iconst (pc := 268) (v := 0) (dc dl_X2_worth 111 rfl) ic_0 ?_
                        exact s_wk (hj23 0) rfl
                      · refine s_iconst (pc := 264) (v := 1) (dc dl_X2_worth 109 rfl) ic_1 ?_
                        refine s_goto (pc := 265) (tgt := 269) (dc dl_X2_worth 110 rfl) rfl ?_
                        exact s_wk (hj23 1) rfl
                  · refine s_iload (pc := 274) (dc dl_X2_worth 114 rfl) rfl ?_
                    refine s_iload (pc := 276) (dc dl_X2_worth 115 rfl) rfl ?_
                    refine s_jn (pj := 286) (fun a26 : Int32 => [some (.ref (ad 0)), none, some (.int x2), some (.ref (ad 7)), some (.int y13), some (.int s3.2), none, none, none]) (fun a26 : Int32 => [.int a26]) (fun a26 => ?_) (fun j25 hj25 => ?_)
                    · refine s_istore (pc := 286) (lv' := [some (.ref (ad 0)), none, some (.int x2), some (.ref (ad 7)), some (.int y13), some (.int s3.2), none, some (.int a26), none]) (dc dl_X2_worth 120 rfl) (Nat.le_of_ble_eq_true rfl) rfl ?_
                      refine s_goto (pc := 288) (tgt := 328) (dc dl_X2_worth 121 rfl) rfl ?_
                      exact s_wk (hj16 a26) rfl
                    · refine s_icmp_ne (pc := 278) (tgt := 285) (dc dl_X2_worth 116 rfl) rfl ?_ ?_
                      · refine s_iconst (pc := 281) (v := 1) (dc dl_X2_worth 117 rfl) ic_1 ?_
                        refine s_goto (pc := 282) (tgt := 286) (dc dl_X2_worth 118 rfl) rfl ?_
                        exact s_wk (hj25 1) rfl
                      · refine s_iconst (pc := 285) (v := 0) (dc dl_X2_worth 119 rfl) ic_0 ?_
                        exact s_wk (hj25 0) rfl
                  · refine s_iload (pc := 291) (dc dl_X2_worth 122 rfl) rfl ?_
                    refine s_iload (pc := 293) (dc dl_X2_worth 123 rfl) rfl ?_
                    refine s_jn (pj := 303) (fun a28 : Int32 => [some (.ref (ad 0)), none, some (.int x2), some (.ref (ad 7)), some (.int y13), some (.int s3.2), none, none, none]) (fun a28 : Int32 => [.int a28]) (fun a28 => ?_) (fun j27 hj27 => ?_)
                    · refine s_istore (pc := 303) (lv' := [some (.ref (ad 0)), none, some (.int x2), some (.ref (ad 7)), some (.int y13), some (.int s3.2), none, some (.int a28), none]) (dc dl_X2_worth 128 rfl) (Nat.le_of_ble_eq_true rfl) rfl ?_
                      refine s_goto (pc := 305) (tgt := 328) (dc dl_X2_worth 129 rfl) rfl ?_
                      exact s_wk (hj16 a28) rfl
                    · refine s_icmp_le (pc := 295) (tgt := 302) (dc dl_X2_worth 124 rfl) rfl ?_ ?_
                      · refine s_iconst (pc := 302) (v := 0) (dc dl_X2_worth 127 rfl) ic_0 ?_
                        exact s_wk (hj27 0) rfl
                      · refine s_iconst (pc := 298) (v := 1) (dc dl_X2_worth 125 rfl) ic_1 ?_
                        refine s_goto (pc := 299) (tgt := 303) (dc dl_X2_worth 126 rfl) rfl ?_
                        exact s_wk (hj27 1) rfl
                  · refine s_iload (pc := 308) (dc dl_X2_worth 130 rfl) rfl ?_
                    refine s_iload (pc := 310) (dc dl_X2_worth 131 rfl) rfl ?_
                    refine s_iand (pc := 312) (dc dl_X2_worth 132 rfl) ?_
                    refine s_istoreL (pc := 313) (lf' := fun y29 => [some (.ref (ad 0)), none, some (.int x2), some (.ref (ad 7)), some (.int y13), some (.int s3.2), some (.int v9), some (.int y29), some (.int v15)]) (dc dl_X2_worth 133 rfl) (Nat.le_of_ble_eq_true rfl) (fun _ => rfl) (fun y29 => ?_)
                    refine s_goto (pc := 315) (tgt := 328) (dc dl_X2_worth 134 rfl) rfl ?_
                    exact s_wk (hj16 y29) rfl
                  · refine s_iload (pc := 318) (dc dl_X2_worth 135 rfl) rfl ?_
                    refine s_iload (pc := 320) (dc dl_X2_worth 136 rfl) rfl ?_
                    refine s_ior (pc := 322) (dc dl_X2_worth 137 rfl) ?_
                    refine s_istoreL (pc := 323) (lf' := fun y30 => [some (.ref (ad 0)), none, some (.int x2), some (.ref (ad 7)), some (.int y13), some (.int s3.2), some (.int v9), some (.int y30), some (.int v15)]) (dc dl_X2_worth 138 rfl) (Nat.le_of_ble_eq_true rfl) (fun _ => rfl) (fun y30 => ?_)
                    refine s_goto (pc := 325) (tgt := 328) (dc dl_X2_worth 139 rfl) rfl ?_
                    exact s_wk (hj16 y30) rfl
          · refine s_iload (pc := 41) (dc dl_X2_worth 20 rfl) rfl ?_
            refine s_sipush (pc := 43) (v := 10000) (dc dl_X2_worth 21 rfl) si_10000 ?_
            refine s_isub (pc := 46) (dc dl_X2_worth 22 rfl) ?_
            refine s_istoreL (pc := 47) (lf' := fun y32 => [some (.ref (ad 0)), none, some (.int x2), some (.ref (ad 7)), some (.int s3.1), some (.int s3.2), some (.int v9), some (.int y32), none]) (dc dl_X2_worth 23 rfl) (Nat.le_of_ble_eq_true rfl) (fun _ => rfl) (fun y32 => ?_)
            refine s_iload (pc := 49) (dc dl_X2_worth 24 rfl) rfl ?_
            refine s_sipush (pc := 51) (v := 400) (dc dl_X2_worth 25 rfl) si_400 ?_
            refine s_jn (pj := 88) (fun a34 : Int32 => [some (.ref (ad 0)), none, some (.int x2), some (.ref (ad 7)), some (.int a34), some (.int s3.2), none, none, none]) (fun a34 : Int32 => []) (fun a34 => ?_) (fun j33 hj33 => ?_)
            · refine s_goto (pc := 88) (tgt := 339) (dc dl_X2_worth 43 rfl) rfl ?_
              exact s_wk (hj10 a34) rfl
            · refine s_icmp_ge (pc := 54) (tgt := 88) (dc dl_X2_worth 26 rfl) rfl ?_ ?_
              · exact s_wk (hj33 s3.1) rfl
              · refine s_aload_n (pc := 57) (dc dl_X2_worth 27 rfl) rfl rfl ?_
                refine s_getR (pc := 58) fl_X2_34 lk_LawS_0 kk_LawS_0_7 (dc dl_X2_worth 28 rfl) ?_
                refine s_iload (pc := 61) (dc dl_X2_worth 29 rfl) rfl ?_
                refine s_iload (pc := 63) (dc dl_X2_worth 30 rfl) rfl ?_
                refine s_jn (pj := 84) (fun a36 : Int32 => [some (.ref (ad 0)), none, some (.int x2), some (.ref (ad 7)), some (.int s3.1), some (.int s3.2), none, none, none]) (fun a36 : Int32 => [.int a36, .int s3.1, .ref (ad 6)]) (fun a36 => ?_) (fun j35 hj35 => ?_)
                · refine s_iast (pc := 84) lk_LawS_6 (dc dl_X2_worth 41 rfl) ?_
                  refine s_iincL (pc := 85) (lf' := fun y37 => [some (.ref (ad 0)), none, some (.int x2), some (.ref (ad 7)), some (.int y37), some (.int s3.2), none, none, none]) (dc dl_X2_worth 42 rfl) rfl rfl (Nat.le_of_ble_eq_true rfl) (fun _ => rfl) (fun y37 => ?_)
                  exact s_wk (hj33 y37) rfl
                · refine s_jn (pj := 82) (fun a39 : Unit => [some (.ref (ad 0)), none, some (.int x2), some (.ref (ad 7)), some (.int s3.1), some (.int s3.2), some (.int v9), none, none]) (fun a39 : Unit => [.int s3.1, .ref (ad 6)]) (fun a39 => ?_) (fun j38 hj38 => ?_)
                  · refine s_iload (pc := 82) (dc dl_X2_worth 40 rfl) rfl ?_
                    exact s_wk (hj35 v9) rfl
                  · refine s_if_lt (pc := 65) (tgt := 82) (dc dl_X2_worth 31 rfl) rfl ?_ ?_
                    · exact s_wk (hj38 ()) rfl
                    · refine s_iload (pc := 68) (dc dl_X2_worth 32 rfl) rfl ?_
                      refine s_aload_n (pc := 70) (dc dl_X2_worth 33 rfl) rfl rfl ?_
                      refine s_alen (pc := 71) lk_LawS_7 (dc dl_X2_worth 34 rfl) (fun v40 => ?_)
                      refine s_icmp_ge (pc := 72) (tgt := 82) (dc dl_X2_worth 35 rfl) rfl ?_ ?_
                      · exact s_wk (hj38 ()) rfl
                      · refine s_aload_n (pc := 75) (dc dl_X2_worth 36 rfl) rfl rfl ?_
                        refine s_iload (pc := 76) (dc dl_X2_worth 37 rfl) rfl ?_
                        refine s_iald (pc := 78) lk_LawS_7 (dc dl_X2_worth 38 rfl) (fun v41 => ?_)
                        refine s_goto (pc := 79) (tgt := 84) (dc dl_X2_worth 39 rfl) rfl ?_
                        exact s_wk (hj35 v41) rfl
def gX2_lineFor (x1 : Int32) : MM Int32 :=
  loopC 100000 (fun (self1 : Int32 → MM Int32) (s2 : Int32) =>
  bd (ld 0 0) fun v3 =>
  jn (fun (a5 : Unit) =>
  pr ((-1))) (fun j4 =>
  (if v3 ≤ s2 then
  j4 ()
  else
  (if 16 ≤ s2 then
  j4 ()
  else
  bd (la 1 s2) fun v6 =>
  jn (fun (a8 : Unit) =>
  lt (s2 + 1) fun y9 =>
  self1 y9) (fun j7 =>
  (if v6 = x1 then
  bd (la 3 s2) fun v10 =>
  bd (la 4 s2) fun v11 =>
  jn (fun (a13 : Unit) =>
  pr s2) (fun j12 =>
  (if v10 = v11 then
  j12 ()
  else
  bd (la 3 s2) fun v14 =>
  bd (la 4 s2) fun v15 =>
  bd (gX2_worth v14 v15) fun r16 =>
  (if r16 = 0 then
  j7 ()
  else
  j12 ())))
  else
  j7 ())))))) 0
set_option maxHeartbeats 4000000 in
theorem cn_X2_lineFor (l : Launch) (G : Gl) (hG : gOk G) (ad : Nat → Nat) (x1 : Int32) : Cn l G mX2_lineFor 2 lay_LawS ad [.ref (ad 0), .int x1, .ref (ad 7)] (gX2_lineFor x1) := by
  refine cn_of (lv := [some (.ref (ad 0)), some (.int x1), some (.ref (ad 7)), none]) (by decide +kernel) rfl (Nat.le_of_ble_eq_true rfl) rfl ?_
  unfold gX2_lineFor
  refine s_iconst (pc := 0) (v := 0) (dc dl_X2_lineFor 0 rfl) ic_0 ?_
  refine s_istore_n (pc := 1) (lv' := [some (.ref (ad 0)), some (.int x1), some (.ref (ad 7)), some (.int 0)]) (dc dl_X2_lineFor 1 rfl) rfl (Nat.le_of_ble_eq_true rfl) rfl ?_
  refine s_weak (lv' := [some (.ref (ad 0)), some (.int x1), some (.ref (ad 7)), some (.int 0)]) rfl ?_
  refine s_loop (pc := 2) (fun s2 : Int32 => [some (.ref (ad 0)), some (.int x1), some (.ref (ad 7)), some (.int s2)]) [] (fun self1 hself1 s2 => ?_) _ 0
  refine s_iload_n (pc := 2) (dc dl_X2_lineFor 2 rfl) rfl rfl ?_
  refine s_aload_n (pc := 3) (dc dl_X2_lineFor 3 rfl) rfl rfl ?_
  refine s_getI (pc := 4) fl_X2_9 lk_LawS_0 kk_LawS_0_0 (dc dl_X2_lineFor 4 rfl) (fun v3 => ?_)
  refine s_jn (pj := 69) (fun a5 : Unit => [none, none, none, none]) (fun a5 : Unit => []) (fun a5 => ?_) (fun j4 hj4 => ?_)
  · refine s_iconst (pc := 69) (v := (-1)) (dc dl_X2_lineFor 40 rfl) ic_m1 ?_
    exact s_ireturn (pc := 70) rfl (dc dl_X2_lineFor 41 rfl)
  · refine s_icmp_ge (pc := 7) (tgt := 69) (dc dl_X2_lineFor 5 rfl) rfl ?_ ?_
    · exact s_wk (hj4 ()) rfl
    · refine s_iload_n (pc := 10) (dc dl_X2_lineFor 6 rfl) rfl rfl ?_
      refine s_bipush (pc := 11) (v := 16) (dc dl_X2_lineFor 7 rfl) bi_16 ?_
      refine s_icmp_ge (pc := 13) (tgt := 69) (dc dl_X2_lineFor 8 rfl) rfl ?_ ?_
      · exact s_wk (hj4 ()) rfl
      · refine s_aload_n (pc := 16) (dc dl_X2_lineFor 9 rfl) rfl rfl ?_
        refine s_getR (pc := 17) fl_X2_18 lk_LawS_0 kk_LawS_0_2 (dc dl_X2_lineFor 10 rfl) ?_
        refine s_iload_n (pc := 20) (dc dl_X2_lineFor 11 rfl) rfl rfl ?_
        refine s_iald (pc := 21) lk_LawS_1 (dc dl_X2_lineFor 12 rfl) (fun v6 => ?_)
        refine s_iload_n (pc := 22) (dc dl_X2_lineFor 13 rfl) rfl rfl ?_
        refine s_jn (pj := 63) (fun a8 : Unit => [some (.ref (ad 0)), some (.int x1), some (.ref (ad 7)), some (.int s2)]) (fun a8 : Unit => []) (fun a8 => ?_) (fun j7 hj7 => ?_)
        · refine s_iincL (pc := 63) (lf' := fun y9 => [some (.ref (ad 0)), some (.int x1), some (.ref (ad 7)), some (.int y9)]) (dc dl_X2_lineFor 38 rfl) rfl rfl (Nat.le_of_ble_eq_true rfl) (fun _ => rfl) (fun y9 => ?_)
          refine s_goto (pc := 66) (tgt := 2) (dc dl_X2_lineFor 39 rfl) rfl ?_
          exact s_wk (hself1 y9) rfl
        · refine s_icmp_ne (pc := 23) (tgt := 63) (dc dl_X2_lineFor 14 rfl) rfl ?_ ?_
          · refine s_aload_n (pc := 26) (dc dl_X2_lineFor 15 rfl) rfl rfl ?_
            refine s_getR (pc := 27) fl_X2_25 lk_LawS_0 kk_LawS_0_4 (dc dl_X2_lineFor 16 rfl) ?_
            refine s_iload_n (pc := 30) (dc dl_X2_lineFor 17 rfl) rfl rfl ?_
            refine s_iald (pc := 31) lk_LawS_3 (dc dl_X2_lineFor 18 rfl) (fun v10 => ?_)
            refine s_aload_n (pc := 32) (dc dl_X2_lineFor 19 rfl) rfl rfl ?_
            refine s_getR (pc := 33) fl_X2_28 lk_LawS_0 kk_LawS_0_5 (dc dl_X2_lineFor 20 rfl) ?_
            refine s_iload_n (pc := 36) (dc dl_X2_lineFor 21 rfl) rfl rfl ?_
            refine s_iald (pc := 37) lk_LawS_4 (dc dl_X2_lineFor 22 rfl) (fun v11 => ?_)
            refine s_jn (pj := 61) (fun a13 : Unit => [none, none, none, some (.int s2)]) (fun a13 : Unit => []) (fun a13 => ?_) (fun j12 hj12 => ?_)
            · refine s_iload_n (pc := 61) (dc dl_X2_lineFor 36 rfl) rfl rfl ?_
              exact s_ireturn (pc := 62) rfl (dc dl_X2_lineFor 37 rfl)
            · refine s_icmp_eq (pc := 38) (tgt := 61) (dc dl_X2_lineFor 23 rfl) rfl ?_ ?_
              · exact s_wk (hj12 ()) rfl
              · refine s_aload_n (pc := 41) (dc dl_X2_lineFor 24 rfl) rfl rfl ?_
                refine s_aload_n (pc := 42) (dc dl_X2_lineFor 25 rfl) rfl rfl ?_
                refine s_getR (pc := 43) fl_X2_25 lk_LawS_0 kk_LawS_0_4 (dc dl_X2_lineFor 26 rfl) ?_
                refine s_iload_n (pc := 46) (dc dl_X2_lineFor 27 rfl) rfl rfl ?_
                refine s_iald (pc := 47) lk_LawS_3 (dc dl_X2_lineFor 28 rfl) (fun v14 => ?_)
                refine s_aload_n (pc := 48) (dc dl_X2_lineFor 29 rfl) rfl rfl ?_
                refine s_getR (pc := 49) fl_X2_28 lk_LawS_0 kk_LawS_0_5 (dc dl_X2_lineFor 30 rfl) ?_
                refine s_iload_n (pc := 52) (dc dl_X2_lineFor 31 rfl) rfl rfl ?_
                refine s_iald (pc := 53) lk_LawS_4 (dc dl_X2_lineFor 32 rfl) (fun v15 => ?_)
                refine s_aload_n (pc := 54) (dc dl_X2_lineFor 33 rfl) rfl rfl ?_
                refine s_call (pc := 55) (rest := []) hG (calls_V (mi := mX2_lineFor) (o := 0) (As := [.int v14, .int v15, .ref (ad 7)]) (rest := []) hG (dc dl_X2_lineFor 34 rfl) mo_X2_worth mv_X2_worth ml_X2_43 ⟨Nat.le_of_ble_eq_true rfl, Nat.le_of_ble_eq_true rfl⟩ rfl rfl (Nat.le_of_ble_eq_true rfl) lk_LawS_0 rfl) (cn_X2_worth l G hG ad v14 v15) rfl (fun r16 => ?_)
                refine s_if_eq (pc := 58) (tgt := 63) (dc dl_X2_lineFor 35 rfl) rfl ?_ ?_
                · exact s_wk (hj7 ()) rfl
                · exact s_wk (hj12 ()) rfl
          · exact s_wk (hj7 ()) rfl
def gX2_told (x1 : Int32) : MM Int32 :=
  bd (lf rh0 0 (gX10_isWithin x1 0 15)) fun r1 =>
  jn (fun (a3 : Int32) =>
  pr a3) (fun j2 =>
  (if r1 = 0 then
  j2 0
  else
  bd (la 2 x1) fun v4 =>
  bd (la 3 x1) fun v5 =>
  bd (gX2_worth v4 v5) fun r6 =>
  j2 r6))
set_option maxHeartbeats 4000000 in
theorem cn_X2_told (l : Launch) (G : Gl) (hG : gOk G) (ad : Nat → Nat) (x1 : Int32) : Cn l G mX2_told 2 lay_LawS ad [.ref (ad 0), .int x1, .ref (ad 7)] (gX2_told x1) := by
  refine cn_of (lv := [some (.ref (ad 0)), some (.int x1), some (.ref (ad 7))]) (by decide +kernel) rfl (Nat.le_of_ble_eq_true rfl) rfl ?_
  unfold gX2_told
  refine s_iload_n (pc := 0) (dc dl_X2_told 0 rfl) rfl rfl ?_
  refine s_iconst (pc := 1) (v := 0) (dc dl_X2_told 1 rfl) ic_0 ?_
  refine s_bipush (pc := 2) (v := 15) (dc dl_X2_told 2 rfl) bi_15 ?_
  refine s_calll (pc := 4) (ρ := rh0) (rest := []) hG (ss_LawS_E_rh0) (calls_SN (mi := mX2_told) (As := [.int x1, .int 0, .int 15]) (rest := []) hG (dc dl_X2_told 3 rfl) mo_X10_isWithin ms_X10_isWithin ml_X2_47 ⟨Nat.le_of_ble_eq_true rfl, Nat.le_of_ble_eq_true rfl⟩ rfl rfl (Nat.le_of_ble_eq_true rfl)) (cn_X10_isWithin l G hG (fun i => ad (rh0 i)) x1 0 15) rfl rfl (fun r1 => ?_)
  refine s_jn (pj := 31) (fun a3 : Int32 => [none, none, none]) (fun a3 : Int32 => [.int a3]) (fun a3 => ?_) (fun j2 hj2 => ?_)
  · exact s_ireturn (pc := 31) rfl (dc dl_X2_told 18 rfl)
  · refine s_if_eq (pc := 7) (tgt := 30) (dc dl_X2_told 4 rfl) rfl ?_ ?_
    · refine s_iconst (pc := 30) (v := 0) (dc dl_X2_told 17 rfl) ic_0 ?_
      exact s_wk (hj2 0) rfl
    · refine s_aload_n (pc := 10) (dc dl_X2_told 5 rfl) rfl rfl ?_
      refine s_aload_n (pc := 11) (dc dl_X2_told 6 rfl) rfl rfl ?_
      refine s_getR (pc := 12) fl_X2_22 lk_LawS_0 kk_LawS_0_3 (dc dl_X2_told 7 rfl) ?_
      refine s_iload_n (pc := 15) (dc dl_X2_told 8 rfl) rfl rfl ?_
      refine s_iald (pc := 16) lk_LawS_2 (dc dl_X2_told 9 rfl) (fun v4 => ?_)
      refine s_aload_n (pc := 17) (dc dl_X2_told 10 rfl) rfl rfl ?_
      refine s_getR (pc := 18) fl_X2_25 lk_LawS_0 kk_LawS_0_4 (dc dl_X2_told 11 rfl) ?_
      refine s_iload_n (pc := 21) (dc dl_X2_told 12 rfl) rfl rfl ?_
      refine s_iald (pc := 22) lk_LawS_3 (dc dl_X2_told 13 rfl) (fun v5 => ?_)
      refine s_aload_n (pc := 23) (dc dl_X2_told 14 rfl) rfl rfl ?_
      refine s_call (pc := 24) (rest := []) hG (calls_V (mi := mX2_told) (o := 0) (As := [.int v4, .int v5, .ref (ad 7)]) (rest := []) hG (dc dl_X2_told 15 rfl) mo_X2_worth mv_X2_worth ml_X2_43 ⟨Nat.le_of_ble_eq_true rfl, Nat.le_of_ble_eq_true rfl⟩ rfl rfl (Nat.le_of_ble_eq_true rfl) lk_LawS_0 rfl) (cn_X2_worth l G hG ad v4 v5) rfl (fun r6 => ?_)
      refine s_goto (pc := 27) (tgt := 31) (dc dl_X2_told 16 rfl) rfl ?_
      exact s_wk (hj2 r6) rfl
def gX2_empty : MM Int32 :=
  bd (sv 0 0 0) fun _ =>
  bd (sv 0 1 0) fun _ =>
  pr 0
set_option maxHeartbeats 4000000 in
theorem cn_X2_empty (l : Launch) (G : Gl) (hG : gOk G) (ad : Nat → Nat) : Cn l G mX2_empty 0 lay_Law ad [.ref (ad 0)] (gX2_empty) := by
  refine cn_of (lv := [some (.ref (ad 0))]) (by decide +kernel) rfl (Nat.le_of_ble_eq_true rfl) rfl ?_
  unfold gX2_empty
  refine s_aload_n (pc := 0) (dc dl_X2_empty 0 rfl) rfl rfl ?_
  refine s_iconst (pc := 1) (v := 0) (dc dl_X2_empty 1 rfl) ic_0 ?_
  refine s_putI (pc := 2) fw_X2_9 lk_Law_0 kk_Law_0_0 (dc dl_X2_empty 2 rfl) ?_
  refine s_aload_n (pc := 5) (dc dl_X2_empty 3 rfl) rfl rfl ?_
  refine s_iconst (pc := 6) (v := 0) (dc dl_X2_empty 4 rfl) ic_0 ?_
  refine s_putI (pc := 7) fw_X2_15 lk_Law_0 kk_Law_0_1 (dc dl_X2_empty 5 rfl) ?_
  exact s_return (pc := 10) rfl (dc dl_X2_empty 6 rfl)
def gX2_put (x1 : Int32) : MM Int32 :=
  bd (ld 0 1) fun v1 =>
  jn (fun (a3 : Unit) =>
  pr 0) (fun j2 =>
  (if 400 ≤ v1 then
  j2 ()
  else
  bd (ld 0 1) fun v4 =>
  bd (sa 5 v4 x1) fun _ =>
  bd (ld 0 1) fun v5 =>
  bd (sv 0 1 (v5 + 1)) fun _ =>
  j2 ()))
set_option maxHeartbeats 4000000 in
theorem cn_X2_put (l : Launch) (G : Gl) (hG : gOk G) (ad : Nat → Nat) (x1 : Int32) : Cn l G mX2_put 0 lay_Law ad [.ref (ad 0), .int x1] (gX2_put x1) := by
  refine cn_of (lv := [some (.ref (ad 0)), some (.int x1)]) (by decide +kernel) rfl (Nat.le_of_ble_eq_true rfl) rfl ?_
  unfold gX2_put
  refine s_aload_n (pc := 0) (dc dl_X2_put 0 rfl) rfl rfl ?_
  refine s_getI (pc := 1) fl_X2_15 lk_Law_0 kk_Law_0_1 (dc dl_X2_put 1 rfl) (fun v1 => ?_)
  refine s_sipush (pc := 4) (v := 400) (dc dl_X2_put 2 rfl) si_400 ?_
  refine s_jn (pj := 30) (fun a3 : Unit => [none, none]) (fun a3 : Unit => []) (fun a3 => ?_) (fun j2 hj2 => ?_)
  · exact s_return (pc := 30) rfl (dc dl_X2_put 16 rfl)
  · refine s_icmp_ge (pc := 7) (tgt := 30) (dc dl_X2_put 3 rfl) rfl ?_ ?_
    · exact s_wk (hj2 ()) rfl
    · refine s_aload_n (pc := 10) (dc dl_X2_put 4 rfl) rfl rfl ?_
      refine s_getR (pc := 11) fl_X2_31 lk_Law_0 kk_Law_0_6 (dc dl_X2_put 5 rfl) ?_
      refine s_aload_n (pc := 14) (dc dl_X2_put 6 rfl) rfl rfl ?_
      refine s_getI (pc := 15) fl_X2_15 lk_Law_0 kk_Law_0_1 (dc dl_X2_put 7 rfl) (fun v4 => ?_)
      refine s_iload_n (pc := 18) (dc dl_X2_put 8 rfl) rfl rfl ?_
      refine s_iast (pc := 19) lk_Law_5 (dc dl_X2_put 9 rfl) ?_
      refine s_aload_n (pc := 20) (dc dl_X2_put 10 rfl) rfl rfl ?_
      refine s_dup (pc := 21) (dc dl_X2_put 11 rfl) rfl ?_
      refine s_getI (pc := 22) fl_X2_15 lk_Law_0 kk_Law_0_1 (dc dl_X2_put 12 rfl) (fun v5 => ?_)
      refine s_iconst (pc := 25) (v := 1) (dc dl_X2_put 13 rfl) ic_1 ?_
      refine s_iadd (pc := 26) (dc dl_X2_put 14 rfl) ?_
      refine s_putI (pc := 27) fw_X2_15 lk_Law_0 kk_Law_0_1 (dc dl_X2_put 15 rfl) ?_
      exact s_wk (hj2 ()) rfl
def gX2_addLine (x1 x2 x3 : Int32) : MM Int32 :=
  bd (ld 0 0) fun v1 =>
  jn (fun (a3 : Unit) =>
  pr 0) (fun j2 =>
  (if 16 ≤ v1 then
  j2 ()
  else
  bd (ld 0 0) fun v4 =>
  bd (sa 1 v4 x1) fun _ =>
  bd (ld 0 0) fun v5 =>
  bd (sa 2 v5 x2) fun _ =>
  bd (ld 0 0) fun v6 =>
  bd (sa 3 v6 x3) fun _ =>
  bd (ld 0 0) fun v7 =>
  bd (ld 0 1) fun v8 =>
  bd (sa 4 v7 v8) fun _ =>
  bd (ld 0 0) fun v9 =>
  bd (sv 0 0 (v9 + 1)) fun _ =>
  j2 ()))
set_option maxHeartbeats 4000000 in
theorem cn_X2_addLine (l : Launch) (G : Gl) (hG : gOk G) (ad : Nat → Nat) (x1 x2 x3 : Int32) : Cn l G mX2_addLine 0 lay_Law ad [.ref (ad 0), .int x1, .int x2, .int x3] (gX2_addLine x1 x2 x3) := by
  refine cn_of (lv := [some (.ref (ad 0)), some (.int x1), some (.int x2), some (.int x3)]) (by decide +kernel) rfl (Nat.le_of_ble_eq_true rfl) rfl ?_
  unfold gX2_addLine
  refine s_aload_n (pc := 0) (dc dl_X2_addLine 0 rfl) rfl rfl ?_
  refine s_getI (pc := 1) fl_X2_9 lk_Law_0 kk_Law_0_0 (dc dl_X2_addLine 1 rfl) (fun v1 => ?_)
  refine s_bipush (pc := 4) (v := 16) (dc dl_X2_addLine 2 rfl) bi_16 ?_
  refine s_jn (pj := 62) (fun a3 : Unit => [none, none, none, none]) (fun a3 : Unit => []) (fun a3 => ?_) (fun j2 hj2 => ?_)
  · exact s_return (pc := 62) rfl (dc dl_X2_addLine 35 rfl)
  · refine s_icmp_ge (pc := 6) (tgt := 62) (dc dl_X2_addLine 3 rfl) rfl ?_ ?_
    · exact s_wk (hj2 ()) rfl
    · refine s_aload_n (pc := 9) (dc dl_X2_addLine 4 rfl) rfl rfl ?_
      refine s_getR (pc := 10) fl_X2_18 lk_Law_0 kk_Law_0_2 (dc dl_X2_addLine 5 rfl) ?_
      refine s_aload_n (pc := 13) (dc dl_X2_addLine 6 rfl) rfl rfl ?_
      refine s_getI (pc := 14) fl_X2_9 lk_Law_0 kk_Law_0_0 (dc dl_X2_addLine 7 rfl) (fun v4 => ?_)
      refine s_iload_n (pc := 17) (dc dl_X2_addLine 8 rfl) rfl rfl ?_
      refine s_iast (pc := 18) lk_Law_1 (dc dl_X2_addLine 9 rfl) ?_
      refine s_aload_n (pc := 19) (dc dl_X2_addLine 10 rfl) rfl rfl ?_
      refine s_getR (pc := 20) fl_X2_22 lk_Law_0 kk_Law_0_3 (dc dl_X2_addLine 11 rfl) ?_
      refine s_aload_n (pc := 23) (dc dl_X2_addLine 12 rfl) rfl rfl ?_
      refine s_getI (pc := 24) fl_X2_9 lk_Law_0 kk_Law_0_0 (dc dl_X2_addLine 13 rfl) (fun v5 => ?_)
      refine s_iload_n (pc := 27) (dc dl_X2_addLine 14 rfl) rfl rfl ?_
      refine s_iast (pc := 28) lk_Law_2 (dc dl_X2_addLine 15 rfl) ?_
      refine s_aload_n (pc := 29) (dc dl_X2_addLine 16 rfl) rfl rfl ?_
      refine s_getR (pc := 30) fl_X2_25 lk_Law_0 kk_Law_0_4 (dc dl_X2_addLine 17 rfl) ?_
      refine s_aload_n (pc := 33) (dc dl_X2_addLine 18 rfl) rfl rfl ?_
      refine s_getI (pc := 34) fl_X2_9 lk_Law_0 kk_Law_0_0 (dc dl_X2_addLine 19 rfl) (fun v6 => ?_)
      refine s_iload_n (pc := 37) (dc dl_X2_addLine 20 rfl) rfl rfl ?_
      refine s_iast (pc := 38) lk_Law_3 (dc dl_X2_addLine 21 rfl) ?_
      refine s_aload_n (pc := 39) (dc dl_X2_addLine 22 rfl) rfl rfl ?_
      refine s_getR (pc := 40) fl_X2_28 lk_Law_0 kk_Law_0_5 (dc dl_X2_addLine 23 rfl) ?_
      refine s_aload_n (pc := 43) (dc dl_X2_addLine 24 rfl) rfl rfl ?_
      refine s_getI (pc := 44) fl_X2_9 lk_Law_0 kk_Law_0_0 (dc dl_X2_addLine 25 rfl) (fun v7 => ?_)
      refine s_aload_n (pc := 47) (dc dl_X2_addLine 26 rfl) rfl rfl ?_
      refine s_getI (pc := 48) fl_X2_15 lk_Law_0 kk_Law_0_1 (dc dl_X2_addLine 27 rfl) (fun v8 => ?_)
      refine s_iast (pc := 51) lk_Law_4 (dc dl_X2_addLine 28 rfl) ?_
      refine s_aload_n (pc := 52) (dc dl_X2_addLine 29 rfl) rfl rfl ?_
      refine s_dup (pc := 53) (dc dl_X2_addLine 30 rfl) rfl ?_
      refine s_getI (pc := 54) fl_X2_9 lk_Law_0 kk_Law_0_0 (dc dl_X2_addLine 31 rfl) (fun v9 => ?_)
      refine s_iconst (pc := 57) (v := 1) (dc dl_X2_addLine 32 rfl) ic_1 ?_
      refine s_iadd (pc := 58) (dc dl_X2_addLine 33 rfl) ?_
      refine s_putI (pc := 59) fw_X2_9 lk_Law_0 kk_Law_0_0 (dc dl_X2_addLine 34 rfl) ?_
      exact s_wk (hj2 ()) rfl
