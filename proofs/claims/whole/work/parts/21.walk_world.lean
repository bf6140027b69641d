def gX9_copy : MM Int32 :=
  bd (ld 13 1) fun v1 =>
  bd (sv 0 1 v1) fun _ =>
  bd (ld 13 2) fun v2 =>
  bd (sv 0 2 v2) fun _ =>
  bd (ld 13 3) fun v3 =>
  bd (sv 0 3 v3) fun _ =>
  bd (ld 13 4) fun v4 =>
  bd (sv 0 4 v4) fun _ =>
  bd (ld 13 5) fun v5 =>
  bd (sv 0 5 v5) fun _ =>
  bd (ld 13 6) fun v6 =>
  bd (sv 0 6 v6) fun _ =>
  bd (cpy 14 0 1 0 12) fun _ =>
  bd (cpy 15 0 2 0 12) fun _ =>
  bd (cpy 16 0 3 0 12) fun _ =>
  bd (cpy 17 0 4 0 14) fun _ =>
  bd (cpy 18 0 5 0 14) fun _ =>
  bd (cpy 19 0 6 0 14) fun _ =>
  bd (cpy 20 0 7 0 56) fun _ =>
  bd (cpy 21 0 8 0 20) fun _ =>
  bd (cpy 22 0 9 0 20) fun _ =>
  bd (cpy 23 0 10 0 20) fun _ =>
  bd (cpy 24 0 11 0 20) fun _ =>
  bd (cpy 25 0 12 0 20) fun _ =>
  pr 0
set_option maxHeartbeats 4000000 in
theorem cn_X9_copy (l : Launch) (G : Gl) (hG : gOk G) (ad : Nat → Nat) : Cn l G mX9_copy 1 lay_World2 ad [.ref (ad 0), .ref (ad 13)] (gX9_copy) := by
  refine cn_of (lv := [some (.ref (ad 0)), some (.ref (ad 13))]) (by decide +kernel) rfl (Nat.le_of_ble_eq_true rfl) rfl ?_
  unfold gX9_copy
  refine s_aload_n (pc := 0) (dc dl_X9_copy 0 rfl) rfl rfl ?_
  refine s_aload_n (pc := 1) (dc dl_X9_copy 1 rfl) rfl rfl ?_
  refine s_getI (pc := 2) fl_X9_9 lk_World2_13 kk_World2_13_1 (dc dl_X9_copy 2 rfl) (fun v1 => ?_)
  refine s_putI (pc := 5) fw_X9_9 lk_World2_0 kk_World2_0_1 (dc dl_X9_copy 3 rfl) ?_
  refine s_aload_n (pc := 8) (dc dl_X9_copy 4 rfl) rfl rfl ?_
  refine s_aload_n (pc := 9) (dc dl_X9_copy 5 rfl) rfl rfl ?_
  refine s_getI (pc := 10) fl_X9_15 lk_World2_13 kk_World2_13_2 (dc dl_X9_copy 6 rfl) (fun v2 => ?_)
  refine s_putI (pc := 13) fw_X9_15 lk_World2_0 kk_World2_0_2 (dc dl_X9_copy 7 rfl) ?_
  refine s_aload_n (pc := 16) (dc dl_X9_copy 8 rfl) rfl rfl ?_
  refine s_aload_n (pc := 17) (dc dl_X9_copy 9 rfl) rfl rfl ?_
  refine s_getI (pc := 18) fl_X9_18 lk_World2_13 kk_World2_13_3 (dc dl_X9_copy 10 rfl) (fun v3 => ?_)
  refine s_putI (pc := 21) fw_X9_18 lk_World2_0 kk_World2_0_3 (dc dl_X9_copy 11 rfl) ?_
  refine s_aload_n (pc := 24) (dc dl_X9_copy 12 rfl) rfl rfl ?_
  refine s_aload_n (pc := 25) (dc dl_X9_copy 13 rfl) rfl rfl ?_
  refine s_getI (pc := 26) fl_X9_21 lk_World2_13 kk_World2_13_4 (dc dl_X9_copy 14 rfl) (fun v4 => ?_)
  refine s_putI (pc := 29) fw_X9_21 lk_World2_0 kk_World2_0_4 (dc dl_X9_copy 15 rfl) ?_
  refine s_aload_n (pc := 32) (dc dl_X9_copy 16 rfl) rfl rfl ?_
  refine s_aload_n (pc := 33) (dc dl_X9_copy 17 rfl) rfl rfl ?_
  refine s_getI (pc := 34) fl_X9_24 lk_World2_13 kk_World2_13_5 (dc dl_X9_copy 18 rfl) (fun v5 => ?_)
  refine s_putI (pc := 37) fw_X9_24 lk_World2_0 kk_World2_0_5 (dc dl_X9_copy 19 rfl) ?_
  refine s_aload_n (pc := 40) (dc dl_X9_copy 20 rfl) rfl rfl ?_
  refine s_aload_n (pc := 41) (dc dl_X9_copy 21 rfl) rfl rfl ?_
  refine s_getI (pc := 42) fl_X9_27 lk_World2_13 kk_World2_13_6 (dc dl_X9_copy 22 rfl) (fun v6 => ?_)
  refine s_putI (pc := 45) fw_X9_27 lk_World2_0 kk_World2_0_6 (dc dl_X9_copy 23 rfl) ?_
  refine s_aload_n (pc := 48) (dc dl_X9_copy 24 rfl) rfl rfl ?_
  refine s_getR (pc := 49) fl_X9_30 lk_World2_13 kk_World2_13_7 (dc dl_X9_copy 25 rfl) ?_
  refine s_iconst (pc := 52) (v := 0) (dc dl_X9_copy 26 rfl) ic_0 ?_
  refine s_aload_n (pc := 53) (dc dl_X9_copy 27 rfl) rfl rfl ?_
  refine s_getR (pc := 54) fl_X9_30 lk_World2_0 kk_World2_0_7 (dc dl_X9_copy 28 rfl) ?_
  refine s_iconst (pc := 57) (v := 0) (dc dl_X9_copy 29 rfl) ic_0 ?_
  refine s_bipush (pc := 58) (v := 12) (dc dl_X9_copy 30 rfl) bi_12 ?_
  refine s_acopy (pc := 60) (si := 14) (di := 1) ml_X9_71 lk_World2_14 lk_World2_1 (Nat.le_of_ble_eq_true rfl) (dc dl_X9_copy 31 rfl) (Nat.le_of_ble_eq_true rfl) ?_
  refine s_aload_n (pc := 63) (dc dl_X9_copy 32 rfl) rfl rfl ?_
  refine s_getR (pc := 64) fl_X9_34 lk_World2_13 kk_World2_13_8 (dc dl_X9_copy 33 rfl) ?_
  refine s_iconst (pc := 67) (v := 0) (dc dl_X9_copy 34 rfl) ic_0 ?_
  refine s_aload_n (pc := 68) (dc dl_X9_copy 35 rfl) rfl rfl ?_
  refine s_getR (pc := 69) fl_X9_34 lk_World2_0 kk_World2_0_8 (dc dl_X9_copy 36 rfl) ?_
  refine s_iconst (pc := 72) (v := 0) (dc dl_X9_copy 37 rfl) ic_0 ?_
  refine s_bipush (pc := 73) (v := 12) (dc dl_X9_copy 38 rfl) bi_12 ?_
  refine s_acopy (pc := 75) (si := 15) (di := 2) ml_X9_71 lk_World2_15 lk_World2_2 (Nat.le_of_ble_eq_true rfl) (dc dl_X9_copy 39 rfl) (Nat.le_of_ble_eq_true rfl) ?_
  refine s_aload_n (pc := 78) (dc dl_X9_copy 40 rfl) rfl rfl ?_
  refine s_getR (pc := 79) fl_X9_37 lk_World2_13 kk_World2_13_9 (dc dl_X9_copy 41 rfl) ?_
  refine s_iconst (pc := 82) (v := 0) (dc dl_X9_copy 42 rfl) ic_0 ?_
  refine s_aload_n (pc := 83) (dc dl_X9_copy 43 rfl) rfl rfl ?_
  refine s_getR (pc := 84) fl_X9_37 lk_World2_0 kk_World2_0_9 (dc dl_X9_copy 44 rfl) ?_
  refine s_iconst (pc := 87) (v := 0) (dc dl_X9_copy 45 rfl) ic_0 ?_
  refine s_bipush (pc := 88) (v := 12) (dc dl_X9_copy 46 rfl) bi_12 ?_
  refine s_acopy (pc := 90) (si := 16) (di := 3) ml_X9_71 lk_World2_16 lk_World2_3 (Nat.le_of_ble_eq_true rfl) (dc dl_X9_copy 47 rfl) (Nat.le_of_ble_eq_true rfl) ?_
  refine s_aload_n (pc := 93) (dc dl_X9_copy 48 rfl) rfl rfl ?_
  refine s_getR (pc := 94) fl_X9_40 lk_World2_13 kk_World2_13_10 (dc dl_X9_copy 49 rfl) ?_
  refine s_iconst (pc := 97) (v := 0) (dc dl_X9_copy 50 rfl) ic_0 ?_
  refine s_aload_n (pc := 98) (dc dl_X9_copy 51 rfl) rfl rfl ?_
  refine s_getR (pc := 99) fl_X9_40 lk_World2_0 kk_World2_0_10 (dc dl_X9_copy 52 rfl) ?_
  refine s_iconst (pc := 102) (v := 0) (dc dl_X9_copy 53 rfl) ic_0 ?_
  refine s_bipush (pc := 103) (v := 14) (dc dl_X9_copy 54 rfl) bi_14 ?_
  refine s_acopy (pc := 105) (si := 17) (di := 4) ml_X9_71 lk_World2_17 lk_World2_4 (Nat.le_of_ble_eq_true rfl) (dc dl_X9_copy 55 rfl) (Nat.le_of_ble_eq_true rfl) ?_
  refine s_aload_n (pc := 108) (dc dl_X9_copy 56 rfl) rfl rfl ?_
  refine s_getR (pc := 109) fl_X9_43 lk_World2_13 kk_World2_13_11 (dc dl_X9_copy 57 rfl) ?_
  refine s_iconst (pc := 112) (v := 0) (dc dl_X9_copy 58 rfl) ic_0 ?_
  refine s_aload_n (pc := 113) (dc dl_X9_copy 59 rfl) rfl rfl ?_
  refine s_getR (pc := 114) fl_X9_43 lk_World2_0 kk_World2_0_11 (dc dl_X9_copy 60 rfl) ?_
  refine s_iconst (pc := 117) (v := 0) (dc dl_X9_copy 61 rfl) ic_0 ?_
  refine s_bipush (pc := 118) (v := 14) (dc dl_X9_copy 62 rfl) bi_14 ?_
  refine s_acopy (pc := 120) (si := 18) (di := 5) ml_X9_71 lk_World2_18 lk_World2_5 (Nat.le_of_ble_eq_true rfl) (dc dl_X9_copy 63 rfl) (Nat.le_of_ble_eq_true rfl) ?_
  refine s_aload_n (pc := 123) (dc dl_X9_copy 64 rfl) rfl rfl ?_
  refine s_getR (pc := 124) fl_X9_46 lk_World2_13 kk_World2_13_12 (dc dl_X9_copy 65 rfl) ?_
  refine s_iconst (pc := 127) (v := 0) (dc dl_X9_copy 66 rfl) ic_0 ?_
  refine s_aload_n (pc := 128) (dc dl_X9_copy 67 rfl) rfl rfl ?_
  refine s_getR (pc := 129) fl_X9_46 lk_World2_0 kk_World2_0_12 (dc dl_X9_copy 68 rfl) ?_
  refine s_iconst (pc := 132) (v := 0) (dc dl_X9_copy 69 rfl) ic_0 ?_
  refine s_bipush (pc := 133) (v := 14) (dc dl_X9_copy 70 rfl) bi_14 ?_
  refine s_acopy (pc := 135) (si := 19) (di := 6) ml_X9_71 lk_World2_19 lk_World2_6 (Nat.le_of_ble_eq_true rfl) (dc dl_X9_copy 71 rfl) (Nat.le_of_ble_eq_true rfl) ?_
  refine s_aload_n (pc := 138) (dc dl_X9_copy 72 rfl) rfl rfl ?_
  refine s_getR (pc := 139) fl_X9_49 lk_World2_13 kk_World2_13_13 (dc dl_X9_copy 73 rfl) ?_
  refine s_iconst (pc := 142) (v := 0) (dc dl_X9_copy 74 rfl) ic_0 ?_
  refine s_aload_n (pc := 143) (dc dl_X9_copy 75 rfl) rfl rfl ?_
  refine s_getR (pc := 144) fl_X9_49 lk_World2_0 kk_World2_0_13 (dc dl_X9_copy 76 rfl) ?_
  refine s_iconst (pc := 147) (v := 0) (dc dl_X9_copy 77 rfl) ic_0 ?_
  refine s_bipush (pc := 148) (v := 56) (dc dl_X9_copy 78 rfl) bi_56 ?_
  refine s_acopy (pc := 150) (si := 20) (di := 7) ml_X9_71 lk_World2_20 lk_World2_7 (Nat.le_of_ble_eq_true rfl) (dc dl_X9_copy 79 rfl) (Nat.le_of_ble_eq_true rfl) ?_
  refine s_aload_n (pc := 153) (dc dl_X9_copy 80 rfl) rfl rfl ?_
  refine s_getR (pc := 154) fl_X9_52 lk_World2_13 kk_World2_13_14 (dc dl_X9_copy 81 rfl) ?_
  refine s_iconst (pc := 157) (v := 0) (dc dl_X9_copy 82 rfl) ic_0 ?_
  refine s_aload_n (pc := 158) (dc dl_X9_copy 83 rfl) rfl rfl ?_
  refine s_getR (pc := 159) fl_X9_52 lk_World2_0 kk_World2_0_14 (dc dl_X9_copy 84 rfl) ?_
  refine s_iconst (pc := 162) (v := 0) (dc dl_X9_copy 85 rfl) ic_0 ?_
  refine s_bipush (pc := 163) (v := 20) (dc dl_X9_copy 86 rfl) bi_20 ?_
  refine s_acopy (pc := 165) (si := 21) (di := 8) ml_X9_71 lk_World2_21 lk_World2_8 (Nat.le_of_ble_eq_true rfl) (dc dl_X9_copy 87 rfl) (Nat.le_of_ble_eq_true rfl) ?_
  refine s_aload_n (pc := 168) (dc dl_X9_copy 88 rfl) rfl rfl ?_
  refine s_getR (pc := 169) fl_X9_55 lk_World2_13 kk_World2_13_15 (dc dl_X9_copy 89 rfl) ?_
  refine s_iconst (pc := 172) (v := 0) (dc dl_X9_copy 90 rfl) ic_0 ?_
  refine s_aload_n (pc := 173) (dc dl_X9_copy 91 rfl) rfl rfl ?_
  refine s_getR (pc := 174) fl_X9_55 lk_World2_0 kk_World2_0_15 (dc dl_X9_copy 92 rfl) ?_
  refine s_iconst (pc := 177) (v := 0) (dc dl_X9_copy 93 rfl) ic_0 ?_
  refine s_bipush (pc := 178) (v := 20) (dc dl_X9_copy 94 rfl) bi_20 ?_
  refine s_acopy (pc := 180) (si := 22) (di := 9) ml_X9_71 lk_World2_22 lk_World2_9 (Nat.le_of_ble_eq_true rfl) (dc dl_X9_copy 95 rfl) (Nat.le_of_ble_eq_true rfl) ?_
  refine s_aload_n (pc := 183) (dc dl_X9_copy 96 rfl) rfl rfl ?_
  refine s_getR (pc := 184) fl_X9_58 lk_World2_13 kk_World2_13_16 (dc dl_X9_copy 97 rfl) ?_
  refine s_iconst (pc := 187) (v := 0) (dc dl_X9_copy 98 rfl) ic_0 ?_
  refine s_aload_n (pc := 188) (dc dl_X9_copy 99 rfl) rfl rfl ?_
  refine s_getR (pc := 189) fl_X9_58 lk_World2_0 kk_World2_0_16 (dc dl_X9_copy 100 rfl) ?_
  refine s_iconst (pc := 192) (v := 0) (dc dl_X9_copy 101 rfl) ic_0 ?_
  refine s_bipush (pc := 193) (v := 20) (dc dl_X9_copy 102 rfl) bi_20 ?_
  refine s_acopy (pc := 195) (si := 23) (di := 10) ml_X9_71 lk_World2_23 lk_World2_10 (Nat.le_of_ble_eq_true rfl) (dc dl_X9_copy 103 rfl) (Nat.le_of_ble_eq_true rfl) ?_
  refine s_aload_n (pc := 198) (dc dl_X9_copy 104 rfl) rfl rfl ?_
  refine s_getR (pc := 199) fl_X9_61 lk_World2_13 kk_World2_13_17 (dc dl_X9_copy 105 rfl) ?_
  refine s_iconst (pc := 202) (v := 0) (dc dl_X9_copy 106 rfl) ic_0 ?_
  refine s_aload_n (pc := 203) (dc dl_X9_copy 107 rfl) rfl rfl ?_
  refine s_getR (pc := 204) fl_X9_61 lk_World2_0 kk_World2_0_17 (dc dl_X9_copy 108 rfl) ?_
  refine s_iconst (pc := 207) (v := 0) (dc dl_X9_copy 109 rfl) ic_0 ?_
  refine s_bipush (pc := 208) (v := 20) (dc dl_X9_copy 110 rfl) bi_20 ?_
  refine s_acopy (pc := 210) (si := 24) (di := 11) ml_X9_71 lk_World2_24 lk_World2_11 (Nat.le_of_ble_eq_true rfl) (dc dl_X9_copy 111 rfl) (Nat.le_of_ble_eq_true rfl) ?_
  refine s_aload_n (pc := 213) (dc dl_X9_copy 112 rfl) rfl rfl ?_
  refine s_getR (pc := 214) fl_X9_64 lk_World2_13 kk_World2_13_18 (dc dl_X9_copy 113 rfl) ?_
  refine s_iconst (pc := 217) (v := 0) (dc dl_X9_copy 114 rfl) ic_0 ?_
  refine s_aload_n (pc := 218) (dc dl_X9_copy 115 rfl) rfl rfl ?_
  refine s_getR (pc := 219) fl_X9_64 lk_World2_0 kk_World2_0_18 (dc dl_X9_copy 116 rfl) ?_
  refine s_iconst (pc := 222) (v := 0) (dc dl_X9_copy 117 rfl) ic_0 ?_
  refine s_bipush (pc := 223) (v := 20) (dc dl_X9_copy 118 rfl) bi_20 ?_
  refine s_acopy (pc := 225) (si := 25) (di := 12) ml_X9_71 lk_World2_25 lk_World2_12 (Nat.le_of_ble_eq_true rfl) (dc dl_X9_copy 119 rfl) (Nat.le_of_ble_eq_true rfl) ?_
  exact s_return (pc := 228) rfl (dc dl_X9_copy 120 rfl)
def gX9_hasPerson (x1 : Int32) : MM Int32 :=
  jn (fun (a2 : Int32) =>
  rz a2) (fun j1 =>
  jn (fun (a4 : Unit) =>
  j1 0) (fun j3 =>
  (if x1 < 0 then
  j3 ()
  else
  bd (ld 0 4) fun v5 =>
  (if v5 ≤ x1 then
  j3 ()
  else
  j1 1))))
set_option maxHeartbeats 4000000 in
theorem cn_X9_hasPerson (l : Launch) (G : Gl) (hG : gOk G) (ad : Nat → Nat) (x1 : Int32) : Cn l G mX9_hasPerson 0 lay_World ad [.ref (ad 0), .int x1] (gX9_hasPerson x1) := by
  refine cn_of (lv := [some (.ref (ad 0)), some (.int x1)]) (by decide +kernel) rfl (Nat.le_of_ble_eq_true rfl) rfl ?_
  unfold gX9_hasPerson
  refine s_iload_n (pc := 0) (dc dl_X9_hasPerson 0 rfl) rfl rfl ?_
  refine s_jn (pj := 17) (fun a2 : Int32 => [none, none]) (fun a2 : Int32 => [.int a2]) (fun a2 => ?_) (fun j1 hj1 => ?_)
  · exact s_zreturn (pc := 17) rfl (dc dl_X9_hasPerson 9 rfl)
  · refine s_jn (pj := 16) (fun a4 : Unit => [none, none]) (fun a4 : Unit => []) (fun a4 => ?_) (fun j3 hj3 => ?_)
    · refine s_iconst (pc := 16) (v := 0) (dc dl_X9_hasPerson 8 rfl) ic_0 ?_
      exact s_wk (hj1 0) rfl
    · refine s_if_lt (pc := 1) (tgt := 16) (dc dl_X9_hasPerson 1 rfl) rfl ?_ ?_
      · exact s_wk (hj3 ()) rfl
      · refine s_iload_n (pc := 4) (dc dl_X9_hasPerson 2 rfl) rfl rfl ?_
        refine s_aload_n (pc := 5) (dc dl_X9_hasPerson 3 rfl) rfl rfl ?_
        refine s_getI (pc := 6) fl_X9_21 lk_World_0 kk_World_0_4 (dc dl_X9_hasPerson 4 rfl) (fun v5 => ?_)
        refine s_icmp_ge (pc := 9) (tgt := 16) (dc dl_X9_hasPerson 5 rfl) rfl ?_ ?_
        · exact s_wk (hj3 ()) rfl
        · refine s_iconst (pc := 12) (v := 1) (dc dl_X9_hasPerson 6 rfl) ic_1 ?_
          refine s_goto (pc := 13) (tgt := 17) (dc dl_X9_hasPerson 7 rfl) rfl ?_
          exact s_wk (hj1 1) rfl
def gX9_thingsThatAre (x1 : Int32) : MM Int32 :=
  loopC 100000 (fun (self1 : (Int32 × Int32) → MM Int32) (s2 : Int32 × Int32) =>
  bd (ld 0 6) fun v3 =>
  (if v3 ≤ s2.2 then
  pr s2.1
  else
  bd (la 12 s2.2) fun v4 =>
  jn (fun (a6 : Int32) =>
  lt (s2.2 + 1) fun y7 =>
  self1 (a6, y7)) (fun j5 =>
  (if v4 = x1 then
  lt (s2.1 ||| (1 <<< (s2.2 &&& 31))) fun y8 =>
  j5 y8
  else
  j5 s2.1)))) (0, 0)
set_option maxHeartbeats 4000000 in
theorem cn_X9_thingsThatAre (l : Launch) (G : Gl) (hG : gOk G) (ad : Nat → Nat) (x1 : Int32) : Cn l G mX9_thingsThatAre 0 lay_World ad [.ref (ad 0), .int x1] (gX9_thingsThatAre x1) := by
  refine cn_of (lv := [some (.ref (ad 0)), some (.int x1), none, none]) (by decide +kernel) rfl (Nat.le_of_ble_eq_true rfl) rfl ?_
  unfold gX9_thingsThatAre
  refine s_iconst (pc := 0) (v := 0) (dc dl_X9_thingsThatAre 0 rfl) ic_0 ?_
  refine s_istore_n (pc := 1) (lv' := [some (.ref (ad 0)), some (.int x1), some (.int 0), none]) (dc dl_X9_thingsThatAre 1 rfl) rfl (Nat.le_of_ble_eq_true rfl) rfl ?_
  refine s_iconst (pc := 2) (v := 0) (dc dl_X9_thingsThatAre 2 rfl) ic_0 ?_
  refine s_istore_n (pc := 3) (lv' := [some (.ref (ad 0)), some (.int x1), some (.int 0), some (.int 0)]) (dc dl_X9_thingsThatAre 3 rfl) rfl (Nat.le_of_ble_eq_true rfl) rfl ?_
  refine s_weak (lv' := [some (.ref (ad 0)), some (.int x1), some (.int 0), some (.int 0)]) rfl ?_
  refine s_loop (pc := 4) (fun s2 : Int32 × Int32 => [some (.ref (ad 0)), some (.int x1), some (.int s2.1), some (.int s2.2)]) [] (fun self1 hself1 s2 => ?_) _ (0, 0)
  refine s_iload_n (pc := 4) (dc dl_X9_thingsThatAre 4 rfl) rfl rfl ?_
  refine s_aload_n (pc := 5) (dc dl_X9_thingsThatAre 5 rfl) rfl rfl ?_
  refine s_getI (pc := 6) fl_X9_27 lk_World_0 kk_World_0_6 (dc dl_X9_thingsThatAre 6 rfl) (fun v3 => ?_)
  refine s_icmp_ge (pc := 9) (tgt := 34) (dc dl_X9_thingsThatAre 7 rfl) rfl ?_ ?_
  · refine s_iload_n (pc := 34) (dc dl_X9_thingsThatAre 22 rfl) rfl rfl ?_
    exact s_ireturn (pc := 35) rfl (dc dl_X9_thingsThatAre 23 rfl)
  · refine s_aload_n (pc := 12) (dc dl_X9_thingsThatAre 8 rfl) rfl rfl ?_
    refine s_getR (pc := 13) fl_X9_64 lk_World_0 kk_World_0_18 (dc dl_X9_thingsThatAre 9 rfl) ?_
    refine s_iload_n (pc := 16) (dc dl_X9_thingsThatAre 10 rfl) rfl rfl ?_
    refine s_iald (pc := 17) lk_World_12 (dc dl_X9_thingsThatAre 11 rfl) (fun v4 => ?_)
    refine s_iload_n (pc := 18) (dc dl_X9_thingsThatAre 12 rfl) rfl rfl ?_
    refine s_jn (pj := 28) (fun a6 : Int32 => [some (.ref (ad 0)), some (.int x1), some (.int a6), some (.int s2.2)]) (fun a6 : Int32 => []) (fun a6 => ?_) (fun j5 hj5 => ?_)
    · refine s_iincL (pc := 28) (lf' := fun y7 => [some (.ref (ad 0)), some (.int x1), some (.int a6), some (.int y7)]) (dc dl_X9_thingsThatAre 20 rfl) rfl rfl (Nat.le_of_ble_eq_true rfl) (fun _ => rfl) (fun y7 => ?_)
      refine s_goto (pc := 31) (tgt := 4) (dc dl_X9_thingsThatAre 21 rfl) rfl ?_
      exact s_wk (hself1 (a6, y7)) rfl
    · refine s_icmp_ne (pc := 19) (tgt := 28) (dc dl_X9_thingsThatAre 13 rfl) rfl ?_ ?_
      · refine s_iload_n (pc := 22) (dc dl_X9_thingsThatAre 14 rfl) rfl rfl ?_
        refine s_iconst (pc := 23) (v := 1) (dc dl_X9_thingsThatAre 15 rfl) ic_1 ?_
        refine s_iload_n (pc := 24) (dc dl_X9_thingsThatAre 16 rfl) rfl rfl ?_
        refine s_ishl (pc := 25) (dc dl_X9_thingsThatAre 17 rfl) ?_
        refine s_ior (pc := 26) (dc dl_X9_thingsThatAre 18 rfl) ?_
        refine s_istore_nL (pc := 27) (lf' := fun y8 => [some (.ref (ad 0)), some (.int x1), some (.int y8), some (.int s2.2)]) (dc dl_X9_thingsThatAre 19 rfl) rfl (Nat.le_of_ble_eq_true rfl) (fun _ => rfl) (fun y8 => ?_)
        exact s_wk (hj5 y8) rfl
      · exact s_wk (hj5 s2.1) rfl
def gX9_hasCloth (x1 : Int32) : MM Int32 :=
  jn (fun (a2 : Int32) =>
  rz a2) (fun j1 =>
  jn (fun (a4 : Unit) =>
  j1 0) (fun j3 =>
  (if x1 < 0 then
  j3 ()
  else
  bd (ld 0 5) fun v5 =>
  (if v5 ≤ x1 then
  j3 ()
  else
  j1 1))))
set_option maxHeartbeats 4000000 in
theorem cn_X9_hasCloth (l : Launch) (G : Gl) (hG : gOk G) (ad : Nat → Nat) (x1 : Int32) : Cn l G mX9_hasCloth 0 lay_World ad [.ref (ad 0), .int x1] (gX9_hasCloth x1) := by
  refine cn_of (lv := [some (.ref (ad 0)), some (.int x1)]) (by decide +kernel) rfl (Nat.le_of_ble_eq_true rfl) rfl ?_
  unfold gX9_hasCloth
  refine s_iload_n (pc := 0) (dc dl_X9_hasCloth 0 rfl) rfl rfl ?_
  refine s_jn (pj := 17) (fun a2 : Int32 => [none, none]) (fun a2 : Int32 => [.int a2]) (fun a2 => ?_) (fun j1 hj1 => ?_)
  · exact s_zreturn (pc := 17) rfl (dc dl_X9_hasCloth 9 rfl)
  · refine s_jn (pj := 16) (fun a4 : Unit => [none, none]) (fun a4 : Unit => []) (fun a4 => ?_) (fun j3 hj3 => ?_)
    · refine s_iconst (pc := 16) (v := 0) (dc dl_X9_hasCloth 8 rfl) ic_0 ?_
      exact s_wk (hj1 0) rfl
    · refine s_if_lt (pc := 1) (tgt := 16) (dc dl_X9_hasCloth 1 rfl) rfl ?_ ?_
      · exact s_wk (hj3 ()) rfl
      · refine s_iload_n (pc := 4) (dc dl_X9_hasCloth 2 rfl) rfl rfl ?_
        refine s_aload_n (pc := 5) (dc dl_X9_hasCloth 3 rfl) rfl rfl ?_
        refine s_getI (pc := 6) fl_X9_24 lk_World_0 kk_World_0_5 (dc dl_X9_hasCloth 4 rfl) (fun v5 => ?_)
        refine s_icmp_ge (pc := 9) (tgt := 16) (dc dl_X9_hasCloth 5 rfl) rfl ?_ ?_
        · exact s_wk (hj3 ()) rfl
        · refine s_iconst (pc := 12) (v := 1) (dc dl_X9_hasCloth 6 rfl) ic_1 ?_
          refine s_goto (pc := 13) (tgt := 17) (dc dl_X9_hasCloth 7 rfl) rfl ?_
          exact s_wk (hj1 1) rfl
def gX9_hasThing (x1 : Int32) : MM Int32 :=
  jn (fun (a2 : Int32) =>
  rz a2) (fun j1 =>
  jn (fun (a4 : Unit) =>
  j1 0) (fun j3 =>
  (if x1 < 0 then
  j3 ()
  else
  bd (ld 0 6) fun v5 =>
  (if v5 ≤ x1 then
  j3 ()
  else
  j1 1))))
set_option maxHeartbeats 4000000 in
theorem cn_X9_hasThing (l : Launch) (G : Gl) (hG : gOk G) (ad : Nat → Nat) (x1 : Int32) : Cn l G mX9_hasThing 0 lay_World ad [.ref (ad 0), .int x1] (gX9_hasThing x1) := by
  refine cn_of (lv := [some (.ref (ad 0)), some (.int x1)]) (by decide +kernel) rfl (Nat.le_of_ble_eq_true rfl) rfl ?_
  unfold gX9_hasThing
  refine s_iload_n (pc := 0) (dc dl_X9_hasThing 0 rfl) rfl rfl ?_
  refine s_jn (pj := 17) (fun a2 : Int32 => [none, none]) (fun a2 : Int32 => [.int a2]) (fun a2 => ?_) (fun j1 hj1 => ?_)
  · exact s_zreturn (pc := 17) rfl (dc dl_X9_hasThing 9 rfl)
  · refine s_jn (pj := 16) (fun a4 : Unit => [none, none]) (fun a4 : Unit => []) (fun a4 => ?_) (fun j3 hj3 => ?_)
    · refine s_iconst (pc := 16) (v := 0) (dc dl_X9_hasThing 8 rfl) ic_0 ?_
      exact s_wk (hj1 0) rfl
    · refine s_if_lt (pc := 1) (tgt := 16) (dc dl_X9_hasThing 1 rfl) rfl ?_ ?_
      · exact s_wk (hj3 ()) rfl
      · refine s_iload_n (pc := 4) (dc dl_X9_hasThing 2 rfl) rfl rfl ?_
        refine s_aload_n (pc := 5) (dc dl_X9_hasThing 3 rfl) rfl rfl ?_
        refine s_getI (pc := 6) fl_X9_27 lk_World_0 kk_World_0_6 (dc dl_X9_hasThing 4 rfl) (fun v5 => ?_)
        refine s_icmp_ge (pc := 9) (tgt := 16) (dc dl_X9_hasThing 5 rfl) rfl ?_ ?_
        · exact s_wk (hj3 ()) rfl
        · refine s_iconst (pc := 12) (v := 1) (dc dl_X9_hasThing 6 rfl) ic_1 ?_
          refine s_goto (pc := 13) (tgt := 17) (dc dl_X9_hasThing 7 rfl) rfl ?_
          exact s_wk (hj1 1) rfl
def gX9_knotAt (x1 x2 : Int32) : MM Int32 :=
  bd (gX9_hasCloth x1) fun r1 =>
  jn (fun (a3 : Unit) =>
  pr ((-1))) (fun j2 =>
  (if r1 = 0 then
  j2 ()
  else
  (if x2 < 0 then
  j2 ()
  else
  (if 4 ≤ x2 then
  j2 ()
  else
  bd (la 6 x1) fun v4 =>
  (if x2 < v4 then
  bd (la 7 ((x1 * 4) + x2)) fun v5 =>
  pr v5
  else
  j2 ())))))
set_option maxHeartbeats 4000000 in
theorem cn_X9_knotAt (l : Launch) (G : Gl) (hG : gOk G) (ad : Nat → Nat) (x1 x2 : Int32) : Cn l G mX9_knotAt 1 lay_World ad [.ref (ad 0), .int x1, .int x2] (gX9_knotAt x1 x2) := by
  refine cn_of (lv := [some (.ref (ad 0)), some (.int x1), some (.int x2)]) (by decide +kernel) rfl (Nat.le_of_ble_eq_true rfl) rfl ?_
  unfold gX9_knotAt
  refine s_aload_n (pc := 0) (dc dl_X9_knotAt 0 rfl) rfl rfl ?_
  refine s_iload_n (pc := 1) (dc dl_X9_knotAt 1 rfl) rfl rfl ?_
  refine s_call (pc := 2) (rest := []) hG (calls_V (mi := mX9_knotAt) (o := 0) (As := [.int x1]) (rest := []) hG (dc dl_X9_knotAt 2 rfl) mo_X9_hasCloth mv_X9_hasCloth ml_X9_85 ⟨Nat.le_of_ble_eq_true rfl, Nat.le_of_ble_eq_true rfl⟩ rfl rfl (Nat.le_of_ble_eq_true rfl) lk_World_0 rfl) (cn_X9_hasCloth l G hG ad x1) rfl (fun r1 => ?_)
  refine s_jn (pj := 27) (fun a3 : Unit => [none, none, none]) (fun a3 : Unit => []) (fun a3 => ?_) (fun j2 hj2 => ?_)
  · refine s_iconst (pc := 27) (v := (-1)) (dc dl_X9_knotAt 15 rfl) ic_m1 ?_
    exact s_ireturn (pc := 28) rfl (dc dl_X9_knotAt 16 rfl)
  · refine s_if_eq (pc := 5) (tgt := 27) (dc dl_X9_knotAt 3 rfl) rfl ?_ ?_
    · exact s_wk (hj2 ()) rfl
    · refine s_iload_n (pc := 8) (dc dl_X9_knotAt 4 rfl) rfl rfl ?_
      refine s_if_lt (pc := 9) (tgt := 27) (dc dl_X9_knotAt 5 rfl) rfl ?_ ?_
      · exact s_wk (hj2 ()) rfl
      · refine s_iload_n (pc := 12) (dc dl_X9_knotAt 6 rfl) rfl rfl ?_
        refine s_iconst (pc := 13) (v := 4) (dc dl_X9_knotAt 7 rfl) ic_4 ?_
        refine s_icmp_ge (pc := 14) (tgt := 27) (dc dl_X9_knotAt 8 rfl) rfl ?_ ?_
        · exact s_wk (hj2 ()) rfl
        · refine s_iload_n (pc := 17) (dc dl_X9_knotAt 9 rfl) rfl rfl ?_
          refine s_aload_n (pc := 18) (dc dl_X9_knotAt 10 rfl) rfl rfl ?_
          refine s_getR (pc := 19) fl_X9_46 lk_World_0 kk_World_0_12 (dc dl_X9_knotAt 11 rfl) ?_
          refine s_iload_n (pc := 22) (dc dl_X9_knotAt 12 rfl) rfl rfl ?_
          refine s_iald (pc := 23) lk_World_6 (dc dl_X9_knotAt 13 rfl) (fun v4 => ?_)
          refine s_icmp_lt (pc := 24) (tgt := 29) (dc dl_X9_knotAt 14 rfl) rfl ?_ ?_
          · refine s_aload_n (pc := 29) (dc dl_X9_knotAt 17 rfl) rfl rfl ?_
            refine s_getR (pc := 30) fl_X9_49 lk_World_0 kk_World_0_13 (dc dl_X9_knotAt 18 rfl) ?_
            refine s_iload_n (pc := 33) (dc dl_X9_knotAt 19 rfl) rfl rfl ?_
            refine s_iconst (pc := 34) (v := 4) (dc dl_X9_knotAt 20 rfl) ic_4 ?_
            refine s_imul (pc := 35) (dc dl_X9_knotAt 21 rfl) ?_
            refine s_iload_n (pc := 36) (dc dl_X9_knotAt 22 rfl) rfl rfl ?_
            refine s_iadd (pc := 37) (dc dl_X9_knotAt 23 rfl) ?_
            refine s_iald (pc := 38) lk_World_7 (dc dl_X9_knotAt 24 rfl) (fun v5 => ?_)
            exact s_ireturn (pc := 39) rfl (dc dl_X9_knotAt 25 rfl)
          · exact s_wk (hj2 ()) rfl
def gX9_untie (x1 : Int32) : MM Int32 :=
  bd (gX9_hasThing x1) fun r1 =>
  (if r1 = 0 then
  pr 0
  else
  bd (la 10 x1) fun v2 =>
  bd (gX9_hasCloth v2) fun r3 =>
  jn (fun (a5 : Unit) =>
  bd (sa 10 x1 ((-1))) fun _ =>
  bd (sa 11 x1 0) fun _ =>
  pr 0) (fun j4 =>
  (if r3 = 0 then
  j4 ()
  else
  loopC 100000 (fun (self6 : (Int32 × Int32) → MM Int32) (s7 : Int32 × Int32) =>
  jn (fun (a9 : Unit) =>
  bd (sa 6 v2 s7.1) fun _ =>
  j4 ()) (fun j8 =>
  (if 4 ≤ s7.2 then
  j8 ()
  else
  bd (la 6 v2) fun v10 =>
  (if v10 ≤ s7.2 then
  j8 ()
  else
  bd (la 7 ((v2 * 4) + s7.2)) fun v11 =>
  jn (fun (a13 : Int32) =>
  lt (s7.2 + 1) fun y14 =>
  self6 (a13, y14)) (fun j12 =>
  (if v11 = x1 then
  j12 s7.1
  else
  bd (sa 7 ((v2 * 4) + s7.1) v11) fun _ =>
  lt (s7.1 + 1) fun y15 =>
  j12 y15)))))) (0, 0))))
set_option maxHeartbeats 4000000 in
theorem cn_X9_untie (l : Launch) (G : Gl) (hG : gOk G) (ad : Nat → Nat) (x1 : Int32) : Cn l G mX9_untie 1 lay_World ad [.ref (ad 0), .int x1] (gX9_untie x1) := by
  refine cn_of (lv := [some (.ref (ad 0)), some (.int x1), none, none, none, none]) (by decide +kernel) rfl (Nat.le_of_ble_eq_true rfl) rfl ?_
  unfold gX9_untie
  refine s_aload_n (pc := 0) (dc dl_X9_untie 0 rfl) rfl rfl ?_
  refine s_iload_n (pc := 1) (dc dl_X9_untie 1 rfl) rfl rfl ?_
  refine s_call (pc := 2) (rest := []) hG (calls_V (mi := mX9_untie) (o := 0) (As := [.int x1]) (rest := []) hG (dc dl_X9_untie 2 rfl) mo_X9_hasThing mv_X9_hasThing ml_X9_91 ⟨Nat.le_of_ble_eq_true rfl, Nat.le_of_ble_eq_true rfl⟩ rfl rfl (Nat.le_of_ble_eq_true rfl) lk_World_0 rfl) (cn_X9_hasThing l G hG ad x1) rfl (fun r1 => ?_)
  refine s_if_ne (pc := 5) (tgt := 9) (dc dl_X9_untie 3 rfl) rfl ?_ ?_
  · exact s_return (pc := 8) rfl (dc dl_X9_untie 4 rfl)
  · refine s_aload_n (pc := 9) (dc dl_X9_untie 5 rfl) rfl rfl ?_
    refine s_getR (pc := 10) fl_X9_58 lk_World_0 kk_World_0_16 (dc dl_X9_untie 6 rfl) ?_
    refine s_iload_n (pc := 13) (dc dl_X9_untie 7 rfl) rfl rfl ?_
    refine s_iald (pc := 14) lk_World_10 (dc dl_X9_untie 8 rfl) (fun v2 => ?_)
    refine s_istore_n (pc := 15) (lv' := [some (.ref (ad 0)), some (.int x1), some (.int v2), none, none, none]) (dc dl_X9_untie 9 rfl) rfl (Nat.le_of_ble_eq_true rfl) rfl ?_
    refine s_aload_n (pc := 16) (dc dl_X9_untie 10 rfl) rfl rfl ?_
    refine s_iload_n (pc := 17) (dc dl_X9_untie 11 rfl) rfl rfl ?_
    refine s_call (pc := 18) (rest := []) hG (calls_V (mi := mX9_untie) (o := 0) (As := [.int v2]) (rest := []) hG (dc dl_X9_untie 12 rfl) mo_X9_hasCloth mv_X9_hasCloth ml_X9_85 ⟨Nat.le_of_ble_eq_true rfl, Nat.le_of_ble_eq_true rfl⟩ rfl rfl (Nat.le_of_ble_eq_true rfl) lk_World_0 rfl) (cn_X9_hasCloth l G hG ad v2) rfl (fun r3 => ?_)
    refine s_jn (pj := 93) (fun a5 : Unit => [some (.ref (ad 0)), some (.int x1), none, none, none, none]) (fun a5 : Unit => []) (fun a5 => ?_) (fun j4 hj4 => ?_)
    · refine s_aload_n (pc := 93) (dc dl_X9_untie 56 rfl) rfl rfl ?_
      refine s_getR (pc := 94) fl_X9_58 lk_World_0 kk_World_0_16 (dc dl_X9_untie 57 rfl) ?_
      refine s_iload_n (pc := 97) (dc dl_X9_untie 58 rfl) rfl rfl ?_
      refine s_iconst (pc := 98) (v := (-1)) (dc dl_X9_untie 59 rfl) ic_m1 ?_
      refine s_iast (pc := 99) lk_World_10 (dc dl_X9_untie 60 rfl) ?_
      refine s_aload_n (pc := 100) (dc dl_X9_untie 61 rfl) rfl rfl ?_
      refine s_getR (pc := 101) fl_X9_61 lk_World_0 kk_World_0_17 (dc dl_X9_untie 62 rfl) ?_
      refine s_iload_n (pc := 104) (dc dl_X9_untie 63 rfl) rfl rfl ?_
      refine s_iconst (pc := 105) (v := 0) (dc dl_X9_untie 64 rfl) ic_0 ?_
      refine s_iast (pc := 106) lk_World_11 (dc dl_X9_untie 65 rfl) ?_
      exact s_return (pc := 107) rfl (dc dl_X9_untie 66 rfl)
    · refine s_if_eq (pc := 21) (tgt := 93) (dc dl_X9_untie 13 rfl) rfl ?_ ?_
      · exact s_wk (hj4 ()) rfl
      · refine s_iconst (pc := 24) (v := 0) (dc dl_X9_untie 14 rfl) ic_0 ?_
        refine s_istore_n (pc := 25) (lv' := [some (.ref (ad 0)), some (.int x1), some (.int v2), some (.int 0), none, none]) (dc dl_X9_untie 15 rfl) rfl (Nat.le_of_ble_eq_true rfl) rfl ?_
        refine s_iconst (pc := 26) (v := 0) (dc dl_X9_untie 16 rfl) ic_0 ?_
        refine s_istore (pc := 27) (lv' := [some (.ref (ad 0)), some (.int x1), some (.int v2), some (.int 0), some (.int 0), none]) (dc dl_X9_untie 17 rfl) (Nat.le_of_ble_eq_true rfl) rfl ?_
        refine s_weak (lv' := [some (.ref (ad 0)), some (.int x1), some (.int v2), some (.int 0), some (.int 0), none]) rfl ?_
        refine s_loop (pc := 29) (fun s7 : Int32 × Int32 => [some (.ref (ad 0)), some (.int x1), some (.int v2), some (.int s7.1), some (.int s7.2), none]) [] (fun self6 hself6 s7 => ?_) _ (0, 0)
        refine s_iload (pc := 29) (dc dl_X9_untie 18 rfl) rfl ?_
        refine s_iconst (pc := 31) (v := 4) (dc dl_X9_untie 19 rfl) ic_4 ?_
        refine s_jn (pj := 86) (fun a9 : Unit => [some (.ref (ad 0)), some (.int x1), some (.int v2), some (.int s7.1), none, none]) (fun a9 : Unit => []) (fun a9 => ?_) (fun j8 hj8 => ?_)
        · refine s_aload_n (pc := 86) (dc dl_X9_untie 51 rfl) rfl rfl ?_
          refine s_getR (pc := 87) fl_X9_46 lk_World_0 kk_World_0_12 (dc dl_X9_untie 52 rfl) ?_
          refine s_iload_n (pc := 90) (dc dl_X9_untie 53 rfl) rfl rfl ?_
          refine s_iload_n (pc := 91) (dc dl_X9_untie 54 rfl) rfl rfl ?_
          refine s_iast (pc := 92) lk_World_6 (dc dl_X9_untie 55 rfl) ?_
          exact s_wk (hj4 ()) rfl
        · refine s_icmp_ge (pc := 32) (tgt := 86) (dc dl_X9_untie 20 rfl) rfl ?_ ?_
          · exact s_wk (hj8 ()) rfl
          · refine s_iload (pc := 35) (dc dl_X9_untie 21 rfl) rfl ?_
            refine s_aload_n (pc := 37) (dc dl_X9_untie 22 rfl) rfl rfl ?_
            refine s_getR (pc := 38) fl_X9_46 lk_World_0 kk_World_0_12 (dc dl_X9_untie 23 rfl) ?_
            refine s_iload_n (pc := 41) (dc dl_X9_untie 24 rfl) rfl rfl ?_
            refine s_iald (pc := 42) lk_World_6 (dc dl_X9_untie 25 rfl) (fun v10 => ?_)
            refine s_icmp_ge (pc := 43) (tgt := 86) (dc dl_X9_untie 26 rfl) rfl ?_ ?_
            · exact s_wk (hj8 ()) rfl
            · refine s_aload_n (pc := 46) (dc dl_X9_untie 27 rfl) rfl rfl ?_
              refine s_getR (pc := 47) fl_X9_49 lk_World_0 kk_World_0_13 (dc dl_X9_untie 28 rfl) ?_
              refine s_iload_n (pc := 50) (dc dl_X9_untie 29 rfl) rfl rfl ?_
              refine s_iconst (pc := 51) (v := 4) (dc dl_X9_untie 30 rfl) ic_4 ?_
              refine s_imul (pc := 52) (dc dl_X9_untie 31 rfl) ?_
              refine s_iload (pc := 53) (dc dl_X9_untie 32 rfl) rfl ?_
              refine s_iadd (pc := 55) (dc dl_X9_untie 33 rfl) ?_
              refine s_iald (pc := 56) lk_World_7 (dc dl_X9_untie 34 rfl) (fun v11 => ?_)
              refine s_istore (pc := 57) (lv' := [some (.ref (ad 0)), some (.int x1), some (.int v2), some (.int s7.1), some (.int s7.2), some (.int v11)]) (dc dl_X9_untie 35 rfl) (Nat.le_of_ble_eq_true rfl) rfl ?_
              refine s_iload (pc := 59) (dc dl_X9_untie 36 rfl) rfl ?_
              refine s_iload_n (pc := 61) (dc dl_X9_untie 37 rfl) rfl rfl ?_
              refine s_jn (pj := 80) (fun a13 : Int32 => [some (.ref (ad 0)), some (.int x1), some (.int v2), some (.int a13), some (.int s7.2), none]) (fun a13 : Int32 => []) (fun a13 => ?_) (fun j12 hj12 => ?_)
              · refine s_iincL (pc := 80) (lf' := fun y14 => [some (.ref (ad 0)), some (.int x1), some (.int v2), some (.int a13), some (.int y14), none]) (dc dl_X9_untie 49 rfl) rfl rfl (Nat.le_of_ble_eq_true rfl) (fun _ => rfl) (fun y14 => ?_)
                refine s_goto (pc := 83) (tgt := 29) (dc dl_X9_untie 50 rfl) rfl ?_
                exact s_wk (hself6 (a13, y14)) rfl
              · refine s_icmp_eq (pc := 62) (tgt := 80) (dc dl_X9_untie 38 rfl) rfl ?_ ?_
                · exact s_wk (hj12 s7.1) rfl
                · refine s_aload_n (pc := 65) (dc dl_X9_untie 39 rfl) rfl rfl ?_
                  refine s_getR (pc := 66) fl_X9_49 lk_World_0 kk_World_0_13 (dc dl_X9_untie 40 rfl) ?_
                  refine s_iload_n (pc := 69) (dc dl_X9_untie 41 rfl) rfl rfl ?_
                  refine s_iconst (pc := 70) (v := 4) (dc dl_X9_untie 42 rfl) ic_4 ?_
                  refine s_imul (pc := 71) (dc dl_X9_untie 43 rfl) ?_
                  refine s_iload_n (pc := 72) (dc dl_X9_untie 44 rfl) rfl rfl ?_
                  refine s_iadd (pc := 73) (dc dl_X9_untie 45 rfl) ?_
                  refine s_iload (pc := 74) (dc dl_X9_untie 46 rfl) rfl ?_
                  refine s_iast (pc := 76) lk_World_7 (dc dl_X9_untie 47 rfl) ?_
                  refine s_iincL (pc := 77) (lf' := fun y15 => [some (.ref (ad 0)), some (.int x1), some (.int v2), some (.int y15), some (.int s7.2), some (.int v11)]) (dc dl_X9_untie 48 rfl) rfl rfl (Nat.le_of_ble_eq_true rfl) (fun _ => rfl) (fun y15 => ?_)
                  exact s_wk (hj12 y15) rfl
def gX9_addKnot (x1 x2 x3 : Int32) : MM Int32 :=
  bd (gX9_hasThing x1) fun r1 =>
  jn (fun (a3 : Unit) =>
  pr 0) (fun j2 =>
  (if r1 = 0 then
  j2 ()
  else
  bd (gX9_hasCloth x2) fun r4 =>
  (if r4 = 0 then
  j2 ()
  else
  bd (la 6 x2) fun v5 =>
  (if v5 < 4 then
  bd (la 6 x2) fun v6 =>
  bd (sa 7 ((x2 * 4) + v6) x1) fun _ =>
  bd (la 6 x2) fun v7 =>
  bd (sa 6 x2 (v7 + 1)) fun _ =>
  bd (sa 10 x1 x2) fun _ =>
  bd (sa 11 x1 x3) fun _ =>
  pr 0
  else
  j2 ()))))
set_option maxHeartbeats 4000000 in
theorem cn_X9_addKnot (l : Launch) (G : Gl) (hG : gOk G) (ad : Nat → Nat) (x1 x2 x3 : Int32) : Cn l G mX9_addKnot 1 lay_World ad [.ref (ad 0), .int x1, .int x2, .int x3] (gX9_addKnot x1 x2 x3) := by
  refine cn_of (lv := [some (.ref (ad 0)), some (.int x1), some (.int x2), some (.int x3)]) (by decide +kernel) rfl (Nat.le_of_ble_eq_true rfl) rfl ?_
  unfold gX9_addKnot
  refine s_aload_n (pc := 0) (dc dl_X9_addKnot 0 rfl) rfl rfl ?_
  refine s_iload_n (pc := 1) (dc dl_X9_addKnot 1 rfl) rfl rfl ?_
  refine s_call (pc := 2) (rest := []) hG (calls_V (mi := mX9_addKnot) (o := 0) (As := [.int x1]) (rest := []) hG (dc dl_X9_addKnot 2 rfl) mo_X9_hasThing mv_X9_hasThing ml_X9_91 ⟨Nat.le_of_ble_eq_true rfl, Nat.le_of_ble_eq_true rfl⟩ rfl rfl (Nat.le_of_ble_eq_true rfl) lk_World_0 rfl) (cn_X9_hasThing l G hG ad x1) rfl (fun r1 => ?_)
  refine s_jn (pj := 26) (fun a3 : Unit => [none, none, none, none]) (fun a3 : Unit => []) (fun a3 => ?_) (fun j2 hj2 => ?_)
  · exact s_return (pc := 26) rfl (dc dl_X9_addKnot 14 rfl)
  · refine s_if_eq (pc := 5) (tgt := 26) (dc dl_X9_addKnot 3 rfl) rfl ?_ ?_
    · exact s_wk (hj2 ()) rfl
    · refine s_aload_n (pc := 8) (dc dl_X9_addKnot 4 rfl) rfl rfl ?_
      refine s_iload_n (pc := 9) (dc dl_X9_addKnot 5 rfl) rfl rfl ?_
      refine s_call (pc := 10) (rest := []) hG (calls_V (mi := mX9_addKnot) (o := 0) (As := [.int x2]) (rest := []) hG (dc dl_X9_addKnot 6 rfl) mo_X9_hasCloth mv_X9_hasCloth ml_X9_85 ⟨Nat.le_of_ble_eq_true rfl, Nat.le_of_ble_eq_true rfl⟩ rfl rfl (Nat.le_of_ble_eq_true rfl) lk_World_0 rfl) (cn_X9_hasCloth l G hG ad x2) rfl (fun r4 => ?_)
      refine s_if_eq (pc := 13) (tgt := 26) (dc dl_X9_addKnot 7 rfl) rfl ?_ ?_
      · exact s_wk (hj2 ()) rfl
      · refine s_aload_n (pc := 16) (dc dl_X9_addKnot 8 rfl) rfl rfl ?_
        refine s_getR (pc := 17) fl_X9_46 lk_World_0 kk_World_0_12 (dc dl_X9_addKnot 9 rfl) ?_
        refine s_iload_n (pc := 20) (dc dl_X9_addKnot 10 rfl) rfl rfl ?_
        refine s_iald (pc := 21) lk_World_6 (dc dl_X9_addKnot 11 rfl) (fun v5 => ?_)
        refine s_iconst (pc := 22) (v := 4) (dc dl_X9_addKnot 12 rfl) ic_4 ?_
        refine s_icmp_lt (pc := 23) (tgt := 27) (dc dl_X9_addKnot 13 rfl) rfl ?_ ?_
        · refine s_aload_n (pc := 27) (dc dl_X9_addKnot 15 rfl) rfl rfl ?_
          refine s_getR (pc := 28) fl_X9_49 lk_World_0 kk_World_0_13 (dc dl_X9_addKnot 16 rfl) ?_
          refine s_iload_n (pc := 31) (dc dl_X9_addKnot 17 rfl) rfl rfl ?_
          refine s_iconst (pc := 32) (v := 4) (dc dl_X9_addKnot 18 rfl) ic_4 ?_
          refine s_imul (pc := 33) (dc dl_X9_addKnot 19 rfl) ?_
          refine s_aload_n (pc := 34) (dc dl_X9_addKnot 20 rfl) rfl rfl ?_
          refine s_getR (pc := 35) fl_X9_46 lk_World_0 kk_World_0_12 (dc dl_X9_addKnot 21 rfl) ?_
          refine s_iload_n (pc := 38) (dc dl_X9_addKnot 22 rfl) rfl rfl ?_
          refine s_iald (pc := 39) lk_World_6 (dc dl_X9_addKnot 23 rfl) (fun v6 => ?_)
          refine s_iadd (pc := 40) (dc dl_X9_addKnot 24 rfl) ?_
          refine s_iload_n (pc := 41) (dc dl_X9_addKnot 25 rfl) rfl rfl ?_
          refine s_iast (pc := 42) lk_World_7 (dc dl_X9_addKnot 26 rfl) ?_
          refine s_aload_n (pc := 43) (dc dl_X9_addKnot 27 rfl) rfl rfl ?_
          refine s_getR (pc := 44) fl_X9_46 lk_World_0 kk_World_0_12 (dc dl_X9_addKnot 28 rfl) ?_
          refine s_iload_n (pc := 47) (dc dl_X9_addKnot 29 rfl) rfl rfl ?_
          refine s_dup2 (pc := 48) (dc dl_X9_addKnot 30 rfl) rfl rfl ?_
          refine s_iald (pc := 49) lk_World_6 (dc dl_X9_addKnot 31 rfl) (fun v7 => ?_)
          refine s_iconst (pc := 50) (v := 1) (dc dl_X9_addKnot 32 rfl) ic_1 ?_
          refine s_iadd (pc := 51) (dc dl_X9_addKnot 33 rfl) ?_
          refine s_iast (pc := 52) lk_World_6 (dc dl_X9_addKnot 34 rfl) ?_
          refine s_aload_n (pc := 53) (dc dl_X9_addKnot 35 rfl) rfl rfl ?_
          refine s_getR (pc := 54) fl_X9_58 lk_World_0 kk_World_0_16 (dc dl_X9_addKnot 36 rfl) ?_
          refine s_iload_n (pc := 57) (dc dl_X9_addKnot 37 rfl) rfl rfl ?_
          refine s_iload_n (pc := 58) (dc dl_X9_addKnot 38 rfl) rfl rfl ?_
          refine s_iast (pc := 59) lk_World_10 (dc dl_X9_addKnot 39 rfl) ?_
          refine s_aload_n (pc := 60) (dc dl_X9_addKnot 40 rfl) rfl rfl ?_
          refine s_getR (pc := 61) fl_X9_61 lk_World_0 kk_World_0_17 (dc dl_X9_addKnot 41 rfl) ?_
          refine s_iload_n (pc := 64) (dc dl_X9_addKnot 42 rfl) rfl rfl ?_
          refine s_iload_n (pc := 65) (dc dl_X9_addKnot 43 rfl) rfl rfl ?_
          refine s_iast (pc := 66) lk_World_11 (dc dl_X9_addKnot 44 rfl) ?_
          exact s_return (pc := 67) rfl (dc dl_X9_addKnot 45 rfl)
        · exact s_wk (hj2 ()) rfl
def gX9_drawThousand : MM Int32 :=
  bd (ld 0 1) fun v1 =>
  bd (sv 0 1 ((1664525 * v1) + 1013904223)) fun _ =>
  bd (ld 0 1) fun v2 =>
  nz 1000 (
  pr (irm (ish v2 8) 1000))
set_option maxHeartbeats 4000000 in
theorem cn_X9_drawThousand (l : Launch) (G : Gl) (hG : gOk G) (ad : Nat → Nat) : Cn l G mX9_drawThousand 0 lay_World ad [.ref (ad 0)] (gX9_drawThousand) := by
  refine cn_of (lv := [some (.ref (ad 0))]) (by decide +kernel) rfl (Nat.le_of_ble_eq_true rfl) rfl ?_
  unfold gX9_drawThousand
  refine s_aload_n (pc := 0) (dc dl_X9_drawThousand 0 rfl) rfl rfl ?_
  refine s_ldc (pc := 1) (v := 1664525) ct_X9_98 (dc dl_X9_drawThousand 1 rfl) ?_
  refine s_aload_n (pc := 3) (dc dl_X9_drawThousand 2 rfl) rfl rfl ?_
  refine s_getI (pc := 4) fl_X9_9 lk_World_0 kk_World_0_1 (dc dl_X9_drawThousand 3 rfl) (fun v1 => ?_)
  refine s_imul (pc := 7) (dc dl_X9_drawThousand 4 rfl) ?_
  refine s_ldc (pc := 8) (v := 1013904223) ct_X9_99 (dc dl_X9_drawThousand 5 rfl) ?_
  refine s_iadd (pc := 10) (dc dl_X9_drawThousand 6 rfl) ?_
  refine s_putI (pc := 11) fw_X9_9 lk_World_0 kk_World_0_1 (dc dl_X9_drawThousand 7 rfl) ?_
  refine s_aload_n (pc := 14) (dc dl_X9_drawThousand 8 rfl) rfl rfl ?_
  refine s_getI (pc := 15) fl_X9_9 lk_World_0 kk_World_0_1 (dc dl_X9_drawThousand 9 rfl) (fun v2 => ?_)
  refine s_bipush (pc := 18) (v := 8) (dc dl_X9_drawThousand 10 rfl) bi_8 ?_
  refine s_iushr (pc := 20) (dc dl_X9_drawThousand 11 rfl) ?_
  refine s_sipush (pc := 21) (v := 1000) (dc dl_X9_drawThousand 12 rfl) si_1000 ?_
  refine s_irem (pc := 24) (dc dl_X9_drawThousand 13 rfl) ?_
  exact s_ireturn (pc := 25) rfl (dc dl_X9_drawThousand 14 rfl)
def gX9_happens (x1 : Int32) : MM Int32 :=
  bd (ld 0 0) fun v1 =>
  (if v1 = 0 then
  jn (fun (a3 : Int32) =>
  rz a3) (fun j2 =>
  jn (fun (a5 : Unit) =>
  j2 0) (fun j4 =>
  (if x1 ≤ 0 then
  j4 ()
  else
  bd gX9_drawThousand fun r6 =>
  (if x1 ≤ r6 then
  j4 ()
  else
  j2 1))))
  else
  jn (fun (a8 : Int32) =>
  rz a8) (fun j7 =>
  (if x1 < 500 then
  j7 0
  else
  j7 1)))
set_option maxHeartbeats 4000000 in
theorem cn_X9_happens (l : Launch) (G : Gl) (hG : gOk G) (ad : Nat → Nat) (x1 : Int32) : Cn l G mX9_happens 1 lay_World ad [.ref (ad 0), .int x1] (gX9_happens x1) := by
  refine cn_of (lv := [some (.ref (ad 0)), some (.int x1)]) (by decide +kernel) rfl (Nat.le_of_ble_eq_true rfl) rfl ?_
  unfold gX9_happens
  refine s_aload_n (pc := 0) (dc dl_X9_happens 0 rfl) rfl rfl ?_
  refine s_getI (pc := 1) fl_X9_67 lk_World_0 kk_World_0_0 (dc dl_X9_happens 1 rfl) (fun v1 => ?_)
  refine s_if_eq (pc := 4) (tgt := 20) (dc dl_X9_happens 2 rfl) rfl ?_ ?_
  · refine s_iload_n (pc := 20) (dc dl_X9_happens 10 rfl) rfl rfl ?_
    refine s_jn (pj := 37) (fun a3 : Int32 => [none, none]) (fun a3 : Int32 => [.int a3]) (fun a3 => ?_) (fun j2 hj2 => ?_)
    · exact s_zreturn (pc := 37) rfl (dc dl_X9_happens 19 rfl)
    · refine s_jn (pj := 36) (fun a5 : Unit => [none, none]) (fun a5 : Unit => []) (fun a5 => ?_) (fun j4 hj4 => ?_)
      · refine s_iconst (pc := 36) (v := 0) (dc dl_X9_happens 18 rfl) ic_0 ?_
        exact s_wk (hj2 0) rfl
      · refine s_if_le (pc := 21) (tgt := 36) (dc dl_X9_happens 11 rfl) rfl ?_ ?_
        · exact s_wk (hj4 ()) rfl
        · refine s_aload_n (pc := 24) (dc dl_X9_happens 12 rfl) rfl rfl ?_
          refine s_call (pc := 25) (rest := []) hG (calls_V (mi := mX9_happens) (o := 0) (As := []) (rest := []) hG (dc dl_X9_happens 13 rfl) mo_X9_drawThousand mv_X9_drawThousand ml_X9_94 ⟨Nat.le_of_ble_eq_true rfl, Nat.le_of_ble_eq_true rfl⟩ rfl rfl (Nat.le_of_ble_eq_true rfl) lk_World_0 rfl) (cn_X9_drawThousand l G hG ad) rfl (fun r6 => ?_)
          refine s_iload_n (pc := 28) (dc dl_X9_happens 14 rfl) rfl rfl ?_
          refine s_icmp_ge (pc := 29) (tgt := 36) (dc dl_X9_happens 15 rfl) rfl ?_ ?_
          · exact s_wk (hj4 ()) rfl
          · refine s_iconst (pc := 32) (v := 1) (dc dl_X9_happens 16 rfl) ic_1 ?_
            refine s_goto (pc := 33) (tgt := 37) (dc dl_X9_happens 17 rfl) rfl ?_
            exact s_wk (hj2 1) rfl
  · refine s_iload_n (pc := 7) (dc dl_X9_happens 3 rfl) rfl rfl ?_
    refine s_sipush (pc := 8) (v := 500) (dc dl_X9_happens 4 rfl) si_500 ?_
    refine s_jn (pj := 19) (fun a8 : Int32 => [none, none]) (fun a8 : Int32 => [.int a8]) (fun a8 => ?_) (fun j7 hj7 => ?_)
    · exact s_zreturn (pc := 19) rfl (dc dl_X9_happens 9 rfl)
    · refine s_icmp_lt (pc := 11) (tgt := 18) (dc dl_X9_happens 5 rfl) rfl ?_ ?_
      · refine s_iconst (pc := 18) (v := 0) (dc dl_X9_happens 8 rfl) ic_0 ?_
        exact s_wk (hj7 0) rfl
      · refine s_iconst (pc := 14) (v := 1) (dc dl_X9_happens 6 rfl) ic_1 ?_
        refine s_goto (pc := 15) (tgt := 19) (dc dl_X9_happens 7 rfl) rfl ?_
        exact s_wk (hj7 1) rfl
def gX9_isOpen (x1 : Int32) : MM Int32 :=
  bd (gX9_hasThing x1) fun r1 =>
  jn (fun (a3 : Int32) =>
  rz a3) (fun j2 =>
  jn (fun (a5 : Unit) =>
  j2 0) (fun j4 =>
  (if r1 = 0 then
  j4 ()
  else
  bd (la 12 x1) fun v6 =>
  (if v6 = 0 then
  j2 1
  else
  j4 ()))))
set_option maxHeartbeats 4000000 in
theorem cn_X9_isOpen (l : Launch) (G : Gl) (hG : gOk G) (ad : Nat → Nat) (x1 : Int32) : Cn l G mX9_isOpen 1 lay_World ad [.ref (ad 0), .int x1] (gX9_isOpen x1) := by
  refine cn_of (lv := [some (.ref (ad 0)), some (.int x1)]) (by decide +kernel) rfl (Nat.le_of_ble_eq_true rfl) rfl ?_
  unfold gX9_isOpen
  refine s_aload_n (pc := 0) (dc dl_X9_isOpen 0 rfl) rfl rfl ?_
  refine s_iload_n (pc := 1) (dc dl_X9_isOpen 1 rfl) rfl rfl ?_
  refine s_call (pc := 2) (rest := []) hG (calls_V (mi := mX9_isOpen) (o := 0) (As := [.int x1]) (rest := []) hG (dc dl_X9_isOpen 2 rfl) mo_X9_hasThing mv_X9_hasThing ml_X9_91 ⟨Nat.le_of_ble_eq_true rfl, Nat.le_of_ble_eq_true rfl⟩ rfl rfl (Nat.le_of_ble_eq_true rfl) lk_World_0 rfl) (cn_X9_hasThing l G hG ad x1) rfl (fun r1 => ?_)
  refine s_jn (pj := 22) (fun a3 : Int32 => [none, none]) (fun a3 : Int32 => [.int a3]) (fun a3 => ?_) (fun j2 hj2 => ?_)
  · exact s_zreturn (pc := 22) rfl (dc dl_X9_isOpen 12 rfl)
  · refine s_jn (pj := 21) (fun a5 : Unit => [none, none]) (fun a5 : Unit => []) (fun a5 => ?_) (fun j4 hj4 => ?_)
    · refine s_iconst (pc := 21) (v := 0) (dc dl_X9_isOpen 11 rfl) ic_0 ?_
      exact s_wk (hj2 0) rfl
    · refine s_if_eq (pc := 5) (tgt := 21) (dc dl_X9_isOpen 3 rfl) rfl ?_ ?_
      · exact s_wk (hj4 ()) rfl
      · refine s_aload_n (pc := 8) (dc dl_X9_isOpen 4 rfl) rfl rfl ?_
        refine s_getR (pc := 9) fl_X9_64 lk_World_0 kk_World_0_18 (dc dl_X9_isOpen 5 rfl) ?_
        refine s_iload_n (pc := 12) (dc dl_X9_isOpen 6 rfl) rfl rfl ?_
        refine s_iald (pc := 13) lk_World_12 (dc dl_X9_isOpen 7 rfl) (fun v6 => ?_)
        refine s_if_ne (pc := 14) (tgt := 21) (dc dl_X9_isOpen 8 rfl) rfl ?_ ?_
        · refine s_iconst (pc := 17) (v := 1) (dc dl_X9_isOpen 9 rfl) ic_1 ?_
          refine s_goto (pc := 18) (tgt := 22) (dc dl_X9_isOpen 10 rfl) rfl ?_
          exact s_wk (hj2 1) rfl
        · exact s_wk (hj4 ()) rfl
def gX9_canDo (x1 x2 x3 : Int32) : MM Int32 :=
  swt x1 0 [bd (gX9_isOpen x2) fun r1 =>
  jn (fun (a3 : Int32) =>
  rz a3) (fun j2 =>
  jn (fun (a5 : Unit) =>
  j2 0) (fun j4 =>
  (if r1 = 0 then
  j4 ()
  else
  bd (la 10 x2) fun v6 =>
  (if v6 = ((-1)) then
  bd (gX9_hasCloth x3) fun r7 =>
  (if r7 = 0 then
  j4 ()
  else
  bd (la 6 x3) fun v8 =>
  (if 4 ≤ v8 then
  j4 ()
  else
  j2 1))
  else
  j4 ())))),
  bd (gX9_hasCloth x2) fun r9 =>
  jn (fun (a11 : Int32) =>
  rz a11) (fun j10 =>
  jn (fun (a13 : Unit) =>
  j10 0) (fun j12 =>
  (if r9 = 0 then
  j12 ()
  else
  bd (gX9_hasPerson x3) fun r14 =>
  (if r14 = 0 then
  j12 ()
  else
  bd (la 4 x2) fun v15 =>
  (if v15 = x3 then
  j12 ()
  else
  j10 1))))),
  bd (gX9_hasCloth x2) fun r16 =>
  rz r16,
  bd (gX9_hasCloth x2) fun r17 =>
  jn (fun (a19 : Int32) =>
  rz a19) (fun j18 =>
  jn (fun (a21 : Unit) =>
  j18 0) (fun j20 =>
  (if r17 = 0 then
  j20 ()
  else
  bd (la 6 x2) fun v22 =>
  (if v22 ≤ 0 then
  j20 ()
  else
  j18 1))))]
  (rz 0)
set_option maxHeartbeats 4000000 in
theorem cn_X9_canDo (l : Launch) (G : Gl) (hG : gOk G) (ad : Nat → Nat) (x1 x2 x3 : Int32) : Cn l G mX9_canDo 2 lay_World ad [.ref (ad 0), .int x1, .int x2, .int x3] (gX9_canDo x1 x2 x3) := by
  refine cn_of (lv := [some (.ref (ad 0)), some (.int x1), some (.int x2), some (.int x3)]) (by decide +kernel) rfl (Nat.le_of_ble_eq_true rfl) rfl ?_
  unfold gX9_canDo
  refine s_iload_n (pc := 0) (dc dl_X9_canDo 0 rfl) rfl rfl ?_
  refine s_table (pc := 1) (offs := [31, 73, 105, 111]) (tgt := 135) (dc dl_X9_canDo 1 rfl) (by decide) (by decide) ?_ ⟨⟨32, by decide, ?_⟩, ⟨74, by decide, ?_⟩, ⟨106, by decide, ?_⟩, ⟨112, by decide, ?_⟩, trivial⟩
  · refine s_iconst (pc := 135) (v := 0) (dc dl_X9_canDo 61 rfl) ic_0 ?_
    exact s_zreturn (pc := 136) rfl (dc dl_X9_canDo 62 rfl)
  · refine s_aload_n (pc := 32) (dc dl_X9_canDo 2 rfl) rfl rfl ?_
    refine s_iload_n (pc := 33) (dc dl_X9_canDo 3 rfl) rfl rfl ?_
    refine s_call (pc := 34) (rest := []) hG (calls_V (mi := mX9_canDo) (o := 0) (As := [.int x2]) (rest := []) hG (dc dl_X9_canDo 4 rfl) mo_X9_isOpen mv_X9_isOpen ml_X9_88 ⟨Nat.le_of_ble_eq_true rfl, Nat.le_of_ble_eq_true rfl⟩ rfl rfl (Nat.le_of_ble_eq_true rfl) lk_World_0 rfl) (cn_X9_isOpen l G hG ad x2) rfl (fun r1 => ?_)
    refine s_jn (pj := 73) (fun a3 : Int32 => [none, none, none, none]) (fun a3 : Int32 => [.int a3]) (fun a3 => ?_) (fun j2 hj2 => ?_)
    · exact s_zreturn (pc := 73) rfl (dc dl_X9_canDo 25 rfl)
    · refine s_jn (pj := 72) (fun a5 : Unit => [none, none, none, none]) (fun a5 : Unit => []) (fun a5 => ?_) (fun j4 hj4 => ?_)
      · refine s_iconst (pc := 72) (v := 0) (dc dl_X9_canDo 24 rfl) ic_0 ?_
        exact s_wk (hj2 0) rfl
      · refine s_if_eq (pc := 37) (tgt := 72) (dc dl_X9_canDo 5 rfl) rfl ?_ ?_
        · exact s_wk (hj4 ()) rfl
        · refine s_aload_n (pc := 40) (dc dl_X9_canDo 6 rfl) rfl rfl ?_
          refine s_getR (pc := 41) fl_X9_58 lk_World_0 kk_World_0_16 (dc dl_X9_canDo 7 rfl) ?_
          refine s_iload_n (pc := 44) (dc dl_X9_canDo 8 rfl) rfl rfl ?_
          refine s_iald (pc := 45) lk_World_10 (dc dl_X9_canDo 9 rfl) (fun v6 => ?_)
          refine s_iconst (pc := 46) (v := (-1)) (dc dl_X9_canDo 10 rfl) ic_m1 ?_
          refine s_icmp_ne (pc := 47) (tgt := 72) (dc dl_X9_canDo 11 rfl) rfl ?_ ?_
          · refine s_aload_n (pc := 50) (dc dl_X9_canDo 12 rfl) rfl rfl ?_
            refine s_iload_n (pc := 51) (dc dl_X9_canDo 13 rfl) rfl rfl ?_
            refine s_call (pc := 52) (rest := []) hG (calls_V (mi := mX9_canDo) (o := 0) (As := [.int x3]) (rest := []) hG (dc dl_X9_canDo 14 rfl) mo_X9_hasCloth mv_X9_hasCloth ml_X9_85 ⟨Nat.le_of_ble_eq_true rfl, Nat.le_of_ble_eq_true rfl⟩ rfl rfl (Nat.le_of_ble_eq_true rfl) lk_World_0 rfl) (cn_X9_hasCloth l G hG ad x3) rfl (fun r7 => ?_)
            refine s_if_eq (pc := 55) (tgt := 72) (dc dl_X9_canDo 15 rfl) rfl ?_ ?_
            · exact s_wk (hj4 ()) rfl
            · refine s_aload_n (pc := 58) (dc dl_X9_canDo 16 rfl) rfl rfl ?_
              refine s_getR (pc := 59) fl_X9_46 lk_World_0 kk_World_0_12 (dc dl_X9_canDo 17 rfl) ?_
              refine s_iload_n (pc := 62) (dc dl_X9_canDo 18 rfl) rfl rfl ?_
              refine s_iald (pc := 63) lk_World_6 (dc dl_X9_canDo 19 rfl) (fun v8 => ?_)
              refine s_iconst (pc := 64) (v := 4) (dc dl_X9_canDo 20 rfl) ic_4 ?_
              refine s_icmp_ge (pc := 65) (tgt := 72) (dc dl_X9_canDo 21 rfl) rfl ?_ ?_
              · exact s_wk (hj4 ()) rfl
              · refine s_iconst (pc := 68) (v := 1) (dc dl_X9_canDo 22 rfl) ic_1 ?_
                refine s_goto (pc := 69) (tgt := 73) (dc dl_X9_canDo 23 rfl) rfl ?_
                exact s_wk (hj2 1) rfl
          · exact s_wk (hj4 ()) rfl
  · refine s_aload_n (pc := 74) (dc dl_X9_canDo 26 rfl) rfl rfl ?_
    refine s_iload_n (pc := 75) (dc dl_X9_canDo 27 rfl) rfl rfl ?_
    refine s_call (pc := 76) (rest := []) hG (calls_V (mi := mX9_canDo) (o := 0) (As := [.int x2]) (rest := []) hG (dc dl_X9_canDo 28 rfl) mo_X9_hasCloth mv_X9_hasCloth ml_X9_85 ⟨Nat.le_of_ble_eq_true rfl, Nat.le_of_ble_eq_true rfl⟩ rfl rfl (Nat.le_of_ble_eq_true rfl) lk_World_0 rfl) (cn_X9_hasCloth l G hG ad x2) rfl (fun r9 => ?_)
    refine s_jn (pj := 105) (fun a11 : Int32 => [none, none, none, none]) (fun a11 : Int32 => [.int a11]) (fun a11 => ?_) (fun j10 hj10 => ?_)
    · exact s_zreturn (pc := 105) rfl (dc dl_X9_canDo 43 rfl)
    · refine s_jn (pj := 104) (fun a13 : Unit => [none, none, none, none]) (fun a13 : Unit => []) (fun a13 => ?_) (fun j12 hj12 => ?_)
      · refine s_iconst (pc := 104) (v := 0) (dc dl_X9_canDo 42 rfl) ic_0 ?_
        exact s_wk (hj10 0) rfl
      · refine s_if_eq (pc := 79) (tgt := 104) (dc dl_X9_canDo 29 rfl) rfl ?_ ?_
        · exact s_wk (hj12 ()) rfl
        · refine s_aload_n (pc := 82) (dc dl_X9_canDo 30 rfl) rfl rfl ?_
          refine s_iload_n (pc := 83) (dc dl_X9_canDo 31 rfl) rfl rfl ?_
          refine s_call (pc := 84) (rest := []) hG (calls_V (mi := mX9_canDo) (o := 0) (As := [.int x3]) (rest := []) hG (dc dl_X9_canDo 32 rfl) mo_X9_hasPerson mv_X9_hasPerson ml_X9_77 ⟨Nat.le_of_ble_eq_true rfl, Nat.le_of_ble_eq_true rfl⟩ rfl rfl (Nat.le_of_ble_eq_true rfl) lk_World_0 rfl) (cn_X9_hasPerson l G hG ad x3) rfl (fun r14 => ?_)
          refine s_if_eq (pc := 87) (tgt := 104) (dc dl_X9_canDo 33 rfl) rfl ?_ ?_
          · exact s_wk (hj12 ()) rfl
          · refine s_aload_n (pc := 90) (dc dl_X9_canDo 34 rfl) rfl rfl ?_
            refine s_getR (pc := 91) fl_X9_40 lk_World_0 kk_World_0_10 (dc dl_X9_canDo 35 rfl) ?_
            refine s_iload_n (pc := 94) (dc dl_X9_canDo 36 rfl) rfl rfl ?_
            refine s_iald (pc := 95) lk_World_4 (dc dl_X9_canDo 37 rfl) (fun v15 => ?_)
            refine s_iload_n (pc := 96) (dc dl_X9_canDo 38 rfl) rfl rfl ?_
            refine s_icmp_eq (pc := 97) (tgt := 104) (dc dl_X9_canDo 39 rfl) rfl ?_ ?_
            · exact s_wk (hj12 ()) rfl
            · refine s_iconst (pc := 100) (v := 1) (dc dl_X9_canDo 40 rfl) ic_1 ?_
              refine s_goto (pc := 101) (tgt := 105) (dc dl_X9_canDo 41 rfl) rfl ?_
              exact s_wk (hj10 1) rfl
  · refine s_aload_n (pc := 106) (dc dl_X9_canDo 44 rfl) rfl rfl ?_
    refine s_iload_n (pc := 107) (dc dl_X9_canDo 45 rfl) rfl rfl ?_
    refine s_call (pc := 108) (rest := []) hG (calls_V (mi := mX9_canDo) (o := 0) (As := [.int x2]) (rest := []) hG (dc dl_X9_canDo 46 rfl) mo_X9_hasCloth mv_X9_hasCloth ml_X9_85 ⟨Nat.le_of_ble_eq_true rfl, Nat.le_of_ble_eq_true rfl⟩ rfl rfl (Nat.le_of_ble_eq_true rfl) lk_World_0 rfl) (cn_X9_hasCloth l G hG ad x2) rfl (fun r16 => ?_)
    exact s_zreturn (pc := 111) rfl (dc dl_X9_canDo 47 rfl)
  · refine s_aload_n (pc := 112) (dc dl_X9_canDo 48 rfl) rfl rfl ?_
    refine s_iload_n (pc := 113) (dc dl_X9_canDo 49 rfl) rfl rfl ?_
    refine s_call (pc := 114) (rest := []) hG (calls_V (mi := mX9_canDo) (o := 0) (As := [.int x2]) (rest := []) hG (dc dl_X9_canDo 50 rfl) mo_X9_hasCloth mv_X9_hasCloth ml_X9_85 ⟨Nat.le_of_ble_eq_true rfl, Nat.le_of_ble_eq_true rfl⟩ rfl rfl (Nat.le_of_ble_eq_true rfl) lk_World_0 rfl) (cn_X9_hasCloth l G hG ad x2) rfl (fun r17 => ?_)
    refine s_jn (pj := 134) (fun a19 : Int32 => [none, none, none, none]) (fun a19 : Int32 => [.int a19]) (fun a19 => ?_) (fun j18 hj18 => ?_)
    · exact s_zreturn (pc := 134) rfl (dc dl_X9_canDo 60 rfl)
    · refine s_jn (pj := 133) (fun a21 : Unit => [none, none, none, none]) (fun a21 : Unit => []) (fun a21 => ?_) (fun j20 hj20 => ?_)
      · refine s_iconst (pc := 133) (v := 0) (dc dl_X9_canDo 59 rfl) ic_0 ?_
        exact s_wk (hj18 0) rfl
      · refine s_if_eq (pc := 117) (tgt := 133) (dc dl_X9_canDo 51 rfl) rfl ?_ ?_
        · exact s_wk (hj20 ()) rfl
        · refine s_aload_n (pc := 120) (dc dl_X9_canDo 52 rfl) rfl rfl ?_
          refine s_getR (pc := 121) fl_X9_46 lk_World_0 kk_World_0_12 (dc dl_X9_canDo 53 rfl) ?_
          refine s_iload_n (pc := 124) (dc dl_X9_canDo 54 rfl) rfl rfl ?_
          refine s_iald (pc := 125) lk_World_6 (dc dl_X9_canDo 55 rfl) (fun v22 => ?_)
          refine s_if_le (pc := 126) (tgt := 133) (dc dl_X9_canDo 56 rfl) rfl ?_ ?_
          · exact s_wk (hj20 ()) rfl
          · refine s_iconst (pc := 129) (v := 1) (dc dl_X9_canDo 57 rfl) ic_1 ?_
            refine s_goto (pc := 130) (tgt := 134) (dc dl_X9_canDo 58 rfl) rfl ?_
            exact s_wk (hj18 1) rfl
def gX9_holderOf (x1 : Int32) : MM Int32 :=
  bd (gX9_hasThing x1) fun r1 =>
  jn (fun (a3 : Unit) =>
  pr ((-1))) (fun j2 =>
  (if r1 = 0 then
  j2 ()
  else
  bd (la 10 x1) fun v4 =>
  bd (gX9_hasCloth v4) fun r5 =>
  (if r5 = 0 then
  j2 ()
  else
  bd (la 10 x1) fun v6 =>
  bd (la 4 v6) fun v7 =>
  pr v7)))
set_option maxHeartbeats 4000000 in
theorem cn_X9_holderOf (l : Launch) (G : Gl) (hG : gOk G) (ad : Nat → Nat) (x1 : Int32) : Cn l G mX9_holderOf 1 lay_World ad [.ref (ad 0), .int x1] (gX9_holderOf x1) := by
  refine cn_of (lv := [some (.ref (ad 0)), some (.int x1)]) (by decide +kernel) rfl (Nat.le_of_ble_eq_true rfl) rfl ?_
  unfold gX9_holderOf
  refine s_aload_n (pc := 0) (dc dl_X9_holderOf 0 rfl) rfl rfl ?_
  refine s_iload_n (pc := 1) (dc dl_X9_holderOf 1 rfl) rfl rfl ?_
  refine s_call (pc := 2) (rest := []) hG (calls_V (mi := mX9_holderOf) (o := 0) (As := [.int x1]) (rest := []) hG (dc dl_X9_holderOf 2 rfl) mo_X9_hasThing mv_X9_hasThing ml_X9_91 ⟨Nat.le_of_ble_eq_true rfl, Nat.le_of_ble_eq_true rfl⟩ rfl rfl (Nat.le_of_ble_eq_true rfl) lk_World_0 rfl) (cn_X9_hasThing l G hG ad x1) rfl (fun r1 => ?_)
  refine s_jn (pj := 21) (fun a3 : Unit => [none, none]) (fun a3 : Unit => []) (fun a3 => ?_) (fun j2 hj2 => ?_)
  · refine s_iconst (pc := 21) (v := (-1)) (dc dl_X9_holderOf 11 rfl) ic_m1 ?_
    exact s_ireturn (pc := 22) rfl (dc dl_X9_holderOf 12 rfl)
  · refine s_if_eq (pc := 5) (tgt := 21) (dc dl_X9_holderOf 3 rfl) rfl ?_ ?_
    · exact s_wk (hj2 ()) rfl
    · refine s_aload_n (pc := 8) (dc dl_X9_holderOf 4 rfl) rfl rfl ?_
      refine s_aload_n (pc := 9) (dc dl_X9_holderOf 5 rfl) rfl rfl ?_
      refine s_getR (pc := 10) fl_X9_58 lk_World_0 kk_World_0_16 (dc dl_X9_holderOf 6 rfl) ?_
      refine s_iload_n (pc := 13) (dc dl_X9_holderOf 7 rfl) rfl rfl ?_
      refine s_iald (pc := 14) lk_World_10 (dc dl_X9_holderOf 8 rfl) (fun v4 => ?_)
      refine s_call (pc := 15) (rest := []) hG (calls_V (mi := mX9_holderOf) (o := 0) (As := [.int v4]) (rest := []) hG (dc dl_X9_holderOf 9 rfl) mo_X9_hasCloth mv_X9_hasCloth ml_X9_85 ⟨Nat.le_of_ble_eq_true rfl, Nat.le_of_ble_eq_true rfl⟩ rfl rfl (Nat.le_of_ble_eq_true rfl) lk_World_0 rfl) (cn_X9_hasCloth l G hG ad v4) rfl (fun r5 => ?_)
      refine s_if_ne (pc := 18) (tgt := 23) (dc dl_X9_holderOf 10 rfl) rfl ?_ ?_
      · exact s_wk (hj2 ()) rfl
      · refine s_aload_n (pc := 23) (dc dl_X9_holderOf 13 rfl) rfl rfl ?_
        refine s_getR (pc := 24) fl_X9_40 lk_World_0 kk_World_0_10 (dc dl_X9_holderOf 14 rfl) ?_
        refine s_aload_n (pc := 27) (dc dl_X9_holderOf 15 rfl) rfl rfl ?_
        refine s_getR (pc := 28) fl_X9_58 lk_World_0 kk_World_0_16 (dc dl_X9_holderOf 16 rfl) ?_
        refine s_iload_n (pc := 31) (dc dl_X9_holderOf 17 rfl) rfl rfl ?_
        refine s_iald (pc := 32) lk_World_10 (dc dl_X9_holderOf 18 rfl) (fun v6 => ?_)
        refine s_iald (pc := 33) lk_World_4 (dc dl_X9_holderOf 19 rfl) (fun v7 => ?_)
        exact s_ireturn (pc := 34) rfl (dc dl_X9_holderOf 20 rfl)
def gX9_addPerson (x1 : Int32) : MM Int32 :=
  bd (ld 0 4) fun v1 =>
  (if v1 < 12 then
  bd (ld 0 4) fun v2 =>
  bd (sa 1 v2 x1) fun _ =>
  bd (ld 0 4) fun v3 =>
  bd (sa 2 v3 0) fun _ =>
  bd (ld 0 4) fun v4 =>
  bd (sa 3 v4 0) fun _ =>
  bd (ld 0 4) fun v5 =>
  bd (sv 0 4 (v5 + 1)) fun _ =>
  bd (ld 0 4) fun v6 =>
  pr (v6 - 1)
  else
  pr ((-1)))
set_option maxHeartbeats 4000000 in
theorem cn_X9_addPerson (l : Launch) (G : Gl) (hG : gOk G) (ad : Nat → Nat) (x1 : Int32) : Cn l G mX9_addPerson 0 lay_World ad [.ref (ad 0), .int x1] (gX9_addPerson x1) := by
  refine cn_of (lv := [some (.ref (ad 0)), some (.int x1)]) (by decide +kernel) rfl (Nat.le_of_ble_eq_true rfl) rfl ?_
  unfold gX9_addPerson
  refine s_aload_n (pc := 0) (dc dl_X9_addPerson 0 rfl) rfl rfl ?_
  refine s_getI (pc := 1) fl_X9_21 lk_World_0 kk_World_0_4 (dc dl_X9_addPerson 1 rfl) (fun v1 => ?_)
  refine s_bipush (pc := 4) (v := 12) (dc dl_X9_addPerson 2 rfl) bi_12 ?_
  refine s_icmp_lt (pc := 6) (tgt := 11) (dc dl_X9_addPerson 3 rfl) rfl ?_ ?_
  · refine s_aload_n (pc := 11) (dc dl_X9_addPerson 6 rfl) rfl rfl ?_
    refine s_getR (pc := 12) fl_X9_30 lk_World_0 kk_World_0_7 (dc dl_X9_addPerson 7 rfl) ?_
    refine s_aload_n (pc := 15) (dc dl_X9_addPerson 8 rfl) rfl rfl ?_
    refine s_getI (pc := 16) fl_X9_21 lk_World_0 kk_World_0_4 (dc dl_X9_addPerson 9 rfl) (fun v2 => ?_)
    refine s_iload_n (pc := 19) (dc dl_X9_addPerson 10 rfl) rfl rfl ?_
    refine s_iast (pc := 20) lk_World_1 (dc dl_X9_addPerson 11 rfl) ?_
    refine s_aload_n (pc := 21) (dc dl_X9_addPerson 12 rfl) rfl rfl ?_
    refine s_getR (pc := 22) fl_X9_34 lk_World_0 kk_World_0_8 (dc dl_X9_addPerson 13 rfl) ?_
    refine s_aload_n (pc := 25) (dc dl_X9_addPerson 14 rfl) rfl rfl ?_
    refine s_getI (pc := 26) fl_X9_21 lk_World_0 kk_World_0_4 (dc dl_X9_addPerson 15 rfl) (fun v3 => ?_)
    refine s_iconst (pc := 29) (v := 0) (dc dl_X9_addPerson 16 rfl) ic_0 ?_
    refine s_iast (pc := 30) lk_World_2 (dc dl_X9_addPerson 17 rfl) ?_
    refine s_aload_n (pc := 31) (dc dl_X9_addPerson 18 rfl) rfl rfl ?_
    refine s_getR (pc := 32) fl_X9_37 lk_World_0 kk_World_0_9 (dc dl_X9_addPerson 19 rfl) ?_
    refine s_aload_n (pc := 35) (dc dl_X9_addPerson 20 rfl) rfl rfl ?_
    refine s_getI (pc := 36) fl_X9_21 lk_World_0 kk_World_0_4 (dc dl_X9_addPerson 21 rfl) (fun v4 => ?_)
    refine s_iconst (pc := 39) (v := 0) (dc dl_X9_addPerson 22 rfl) ic_0 ?_
    refine s_iast (pc := 40) lk_World_3 (dc dl_X9_addPerson 23 rfl) ?_
    refine s_aload_n (pc := 41) (dc dl_X9_addPerson 24 rfl) rfl rfl ?_
    refine s_dup (pc := 42) (dc dl_X9_addPerson 25 rfl) rfl ?_
    refine s_getI (pc := 43) fl_X9_21 lk_World_0 kk_World_0_4 (dc dl_X9_addPerson 26 rfl) (fun v5 => ?_)
    refine s_iconst (pc := 46) (v := 1) (dc dl_X9_addPerson 27 rfl) ic_1 ?_
    refine s_iadd (pc := 47) (dc dl_X9_addPerson 28 rfl) ?_
    refine s_putI (pc := 48) fw_X9_21 lk_World_0 kk_World_0_4 (dc dl_X9_addPerson 29 rfl) ?_
    refine s_aload_n (pc := 51) (dc dl_X9_addPerson 30 rfl) rfl rfl ?_
    refine s_getI (pc := 52) fl_X9_21 lk_World_0 kk_World_0_4 (dc dl_X9_addPerson 31 rfl) (fun v6 => ?_)
    refine s_iconst (pc := 55) (v := 1) (dc dl_X9_addPerson 32 rfl) ic_1 ?_
    refine s_isub (pc := 56) (dc dl_X9_addPerson 33 rfl) ?_
    exact s_ireturn (pc := 57) rfl (dc dl_X9_addPerson 34 rfl)
  · refine s_iconst (pc := 9) (v := (-1)) (dc dl_X9_addPerson 4 rfl) ic_m1 ?_
    exact s_ireturn (pc := 10) rfl (dc dl_X9_addPerson 5 rfl)
def gX9_addCloth (x1 : Int32) : MM Int32 :=
  bd (gX9_hasPerson x1) fun r1 =>
  jn (fun (a3 : Unit) =>
  pr ((-1))) (fun j2 =>
  (if r1 = 0 then
  j2 ()
  else
  bd (ld 0 5) fun v4 =>
  (if v4 < 14 then
  bd (ld 0 5) fun v5 =>
  bd (sa 4 v5 x1) fun _ =>
  bd (ld 0 5) fun v6 =>
  bd (sa 5 v6 0) fun _ =>
  bd (ld 0 5) fun v7 =>
  bd (sa 6 v7 0) fun _ =>
  bd (ld 0 5) fun v8 =>
  bd (sv 0 5 (v8 + 1)) fun _ =>
  bd (ld 0 5) fun v9 =>
  pr (v9 - 1)
  else
  j2 ())))
set_option maxHeartbeats 4000000 in
theorem cn_X9_addCloth (l : Launch) (G : Gl) (hG : gOk G) (ad : Nat → Nat) (x1 : Int32) : Cn l G mX9_addCloth 1 lay_World ad [.ref (ad 0), .int x1] (gX9_addCloth x1) := by
  refine cn_of (lv := [some (.ref (ad 0)), some (.int x1)]) (by decide +kernel) rfl (Nat.le_of_ble_eq_true rfl) rfl ?_
  unfold gX9_addCloth
  refine s_aload_n (pc := 0) (dc dl_X9_addCloth 0 rfl) rfl rfl ?_
  refine s_iload_n (pc := 1) (dc dl_X9_addCloth 1 rfl) rfl rfl ?_
  refine s_call (pc := 2) (rest := []) hG (calls_V (mi := mX9_addCloth) (o := 0) (As := [.int x1]) (rest := []) hG (dc dl_X9_addCloth 2 rfl) mo_X9_hasPerson mv_X9_hasPerson ml_X9_77 ⟨Nat.le_of_ble_eq_true rfl, Nat.le_of_ble_eq_true rfl⟩ rfl rfl (Nat.le_of_ble_eq_true rfl) lk_World_0 rfl) (cn_X9_hasPerson l G hG ad x1) rfl (fun r1 => ?_)
  refine s_jn (pj := 17) (fun a3 : Unit => [none, none]) (fun a3 : Unit => []) (fun a3 => ?_) (fun j2 hj2 => ?_)
  · refine s_iconst (pc := 17) (v := (-1)) (dc dl_X9_addCloth 8 rfl) ic_m1 ?_
    exact s_ireturn (pc := 18) rfl (dc dl_X9_addCloth 9 rfl)
  · refine s_if_eq (pc := 5) (tgt := 17) (dc dl_X9_addCloth 3 rfl) rfl ?_ ?_
    · exact s_wk (hj2 ()) rfl
    · refine s_aload_n (pc := 8) (dc dl_X9_addCloth 4 rfl) rfl rfl ?_
      refine s_getI (pc := 9) fl_X9_24 lk_World_0 kk_World_0_5 (dc dl_X9_addCloth 5 rfl) (fun v4 => ?_)
      refine s_bipush (pc := 12) (v := 14) (dc dl_X9_addCloth 6 rfl) bi_14 ?_
      refine s_icmp_lt (pc := 14) (tgt := 19) (dc dl_X9_addCloth 7 rfl) rfl ?_ ?_
      · refine s_aload_n (pc := 19) (dc dl_X9_addCloth 10 rfl) rfl rfl ?_
        refine s_getR (pc := 20) fl_X9_40 lk_World_0 kk_World_0_10 (dc dl_X9_addCloth 11 rfl) ?_
        refine s_aload_n (pc := 23) (dc dl_X9_addCloth 12 rfl) rfl rfl ?_
        refine s_getI (pc := 24) fl_X9_24 lk_World_0 kk_World_0_5 (dc dl_X9_addCloth 13 rfl) (fun v5 => ?_)
        refine s_iload_n (pc := 27) (dc dl_X9_addCloth 14 rfl) rfl rfl ?_
        refine s_iast (pc := 28) lk_World_4 (dc dl_X9_addCloth 15 rfl) ?_
        refine s_aload_n (pc := 29) (dc dl_X9_addCloth 16 rfl) rfl rfl ?_
        refine s_getR (pc := 30) fl_X9_43 lk_World_0 kk_World_0_11 (dc dl_X9_addCloth 17 rfl) ?_
        refine s_aload_n (pc := 33) (dc dl_X9_addCloth 18 rfl) rfl rfl ?_
        refine s_getI (pc := 34) fl_X9_24 lk_World_0 kk_World_0_5 (dc dl_X9_addCloth 19 rfl) (fun v6 => ?_)
        refine s_iconst (pc := 37) (v := 0) (dc dl_X9_addCloth 20 rfl) ic_0 ?_
        refine s_iast (pc := 38) lk_World_5 (dc dl_X9_addCloth 21 rfl) ?_
        refine s_aload_n (pc := 39) (dc dl_X9_addCloth 22 rfl) rfl rfl ?_
        refine s_getR (pc := 40) fl_X9_46 lk_World_0 kk_World_0_12 (dc dl_X9_addCloth 23 rfl) ?_
        refine s_aload_n (pc := 43) (dc dl_X9_addCloth 24 rfl) rfl rfl ?_
        refine s_getI (pc := 44) fl_X9_24 lk_World_0 kk_World_0_5 (dc dl_X9_addCloth 25 rfl) (fun v7 => ?_)
        refine s_iconst (pc := 47) (v := 0) (dc dl_X9_addCloth 26 rfl) ic_0 ?_
        refine s_iast (pc := 48) lk_World_6 (dc dl_X9_addCloth 27 rfl) ?_
        refine s_aload_n (pc := 49) (dc dl_X9_addCloth 28 rfl) rfl rfl ?_
        refine s_dup (pc := 50) (dc dl_X9_addCloth 29 rfl) rfl ?_
        refine s_getI (pc := 51) fl_X9_24 lk_World_0 kk_World_0_5 (dc dl_X9_addCloth 30 rfl) (fun v8 => ?_)
        refine s_iconst (pc := 54) (v := 1) (dc dl_X9_addCloth 31 rfl) ic_1 ?_
        refine s_iadd (pc := 55) (dc dl_X9_addCloth 32 rfl) ?_
        refine s_putI (pc := 56) fw_X9_24 lk_World_0 kk_World_0_5 (dc dl_X9_addCloth 33 rfl) ?_
        refine s_aload_n (pc := 59) (dc dl_X9_addCloth 34 rfl) rfl rfl ?_
        refine s_getI (pc := 60) fl_X9_24 lk_World_0 kk_World_0_5 (dc dl_X9_addCloth 35 rfl) (fun v9 => ?_)
        refine s_iconst (pc := 63) (v := 1) (dc dl_X9_addCloth 36 rfl) ic_1 ?_
        refine s_isub (pc := 64) (dc dl_X9_addCloth 37 rfl) ?_
        exact s_ireturn (pc := 65) rfl (dc dl_X9_addCloth 38 rfl)
      · exact s_wk (hj2 ()) rfl
def gX9_addThing (x1 x2 : Int32) : MM Int32 :=
  bd (gX9_hasPerson x1) fun r1 =>
  jn (fun (a3 : Unit) =>
  pr ((-1))) (fun j2 =>
  (if r1 = 0 then
  j2 ()
  else
  bd (ld 0 6) fun v4 =>
  (if v4 < 20 then
  bd (ld 0 6) fun v5 =>
  bd (sa 8 v5 x1) fun _ =>
  bd (ld 0 6) fun v6 =>
  bd (sa 9 v6 x2) fun _ =>
  bd (ld 0 6) fun v7 =>
  bd (sa 10 v7 ((-1))) fun _ =>
  bd (ld 0 6) fun v8 =>
  bd (sa 11 v8 0) fun _ =>
  bd (ld 0 6) fun v9 =>
  bd (sa 12 v9 0) fun _ =>
  bd (ld 0 6) fun v10 =>
  bd (sv 0 6 (v10 + 1)) fun _ =>
  bd (ld 0 6) fun v11 =>
  pr (v11 - 1)
  else
  j2 ())))
set_option maxHeartbeats 4000000 in
theorem cn_X9_addThing (l : Launch) (G : Gl) (hG : gOk G) (ad : Nat → Nat) (x1 x2 : Int32) : Cn l G mX9_addThing 1 lay_World ad [.ref (ad 0), .int x1, .int x2] (gX9_addThing x1 x2) := by
  refine cn_of (lv := [some (.ref (ad 0)), some (.int x1), some (.int x2)]) (by decide +kernel) rfl (Nat.le_of_ble_eq_true rfl) rfl ?_
  unfold gX9_addThing
  refine s_aload_n (pc := 0) (dc dl_X9_addThing 0 rfl) rfl rfl ?_
  refine s_iload_n (pc := 1) (dc dl_X9_addThing 1 rfl) rfl rfl ?_
  refine s_call (pc := 2) (rest := []) hG (calls_V (mi := mX9_addThing) (o := 0) (As := [.int x1]) (rest := []) hG (dc dl_X9_addThing 2 rfl) mo_X9_hasPerson mv_X9_hasPerson ml_X9_77 ⟨Nat.le_of_ble_eq_true rfl, Nat.le_of_ble_eq_true rfl⟩ rfl rfl (Nat.le_of_ble_eq_true rfl) lk_World_0 rfl) (cn_X9_hasPerson l G hG ad x1) rfl (fun r1 => ?_)
  refine s_jn (pj := 17) (fun a3 : Unit => [none, none, none]) (fun a3 : Unit => []) (fun a3 => ?_) (fun j2 hj2 => ?_)
  · refine s_iconst (pc := 17) (v := (-1)) (dc dl_X9_addThing 8 rfl) ic_m1 ?_
    exact s_ireturn (pc := 18) rfl (dc dl_X9_addThing 9 rfl)
  · refine s_if_eq (pc := 5) (tgt := 17) (dc dl_X9_addThing 3 rfl) rfl ?_ ?_
    · exact s_wk (hj2 ()) rfl
    · refine s_aload_n (pc := 8) (dc dl_X9_addThing 4 rfl) rfl rfl ?_
      refine s_getI (pc := 9) fl_X9_27 lk_World_0 kk_World_0_6 (dc dl_X9_addThing 5 rfl) (fun v4 => ?_)
      refine s_bipush (pc := 12) (v := 20) (dc dl_X9_addThing 6 rfl) bi_20 ?_
      refine s_icmp_lt (pc := 14) (tgt := 19) (dc dl_X9_addThing 7 rfl) rfl ?_ ?_
      · refine s_aload_n (pc := 19) (dc dl_X9_addThing 10 rfl) rfl rfl ?_
        refine s_getR (pc := 20) fl_X9_52 lk_World_0 kk_World_0_14 (dc dl_X9_addThing 11 rfl) ?_
        refine s_aload_n (pc := 23) (dc dl_X9_addThing 12 rfl) rfl rfl ?_
        refine s_getI (pc := 24) fl_X9_27 lk_World_0 kk_World_0_6 (dc dl_X9_addThing 13 rfl) (fun v5 => ?_)
        refine s_iload_n (pc := 27) (dc dl_X9_addThing 14 rfl) rfl rfl ?_
        refine s_iast (pc := 28) lk_World_8 (dc dl_X9_addThing 15 rfl) ?_
        refine s_aload_n (pc := 29) (dc dl_X9_addThing 16 rfl) rfl rfl ?_
        refine s_getR (pc := 30) fl_X9_55 lk_World_0 kk_World_0_15 (dc dl_X9_addThing 17 rfl) ?_
        refine s_aload_n (pc := 33) (dc dl_X9_addThing 18 rfl) rfl rfl ?_
        refine s_getI (pc := 34) fl_X9_27 lk_World_0 kk_World_0_6 (dc dl_X9_addThing 19 rfl) (fun v6 => ?_)
        refine s_iload_n (pc := 37) (dc dl_X9_addThing 20 rfl) rfl rfl ?_
        refine s_iast (pc := 38) lk_World_9 (dc dl_X9_addThing 21 rfl) ?_
        refine s_aload_n (pc := 39) (dc dl_X9_addThing 22 rfl) rfl rfl ?_
        refine s_getR (pc := 40) fl_X9_58 lk_World_0 kk_World_0_16 (dc dl_X9_addThing 23 rfl) ?_
        refine s_aload_n (pc := 43) (dc dl_X9_addThing 24 rfl) rfl rfl ?_
        refine s_getI (pc := 44) fl_X9_27 lk_World_0 kk_World_0_6 (dc dl_X9_addThing 25 rfl) (fun v7 => ?_)
        refine s_iconst (pc := 47) (v := (-1)) (dc dl_X9_addThing 26 rfl) ic_m1 ?_
        refine s_iast (pc := 48) lk_World_10 (dc dl_X9_addThing 27 rfl) ?_
        refine s_aload_n (pc := 49) (dc dl_X9_addThing 28 rfl) rfl rfl ?_
        refine s_getR (pc := 50) fl_X9_61 lk_World_0 kk_World_0_17 (dc dl_X9_addThing 29 rfl) ?_
        refine s_aload_n (pc := 53) (dc dl_X9_addThing 30 rfl) rfl rfl ?_
        refine s_getI (pc := 54) fl_X9_27 lk_World_0 kk_World_0_6 (dc dl_X9_addThing 31 rfl) (fun v8 => ?_)
        refine s_iconst (pc := 57) (v := 0) (dc dl_X9_addThing 32 rfl) ic_0 ?_
        refine s_iast (pc := 58) lk_World_11 (dc dl_X9_addThing 33 rfl) ?_
        refine s_aload_n (pc := 59) (dc dl_X9_addThing 34 rfl) rfl rfl ?_
        refine s_getR (pc := 60) fl_X9_64 lk_World_0 kk_World_0_18 (dc dl_X9_addThing 35 rfl) ?_
        refine s_aload_n (pc := 63) (dc dl_X9_addThing 36 rfl) rfl rfl ?_
        refine s_getI (pc := 64) fl_X9_27 lk_World_0 kk_World_0_6 (dc dl_X9_addThing 37 rfl) (fun v9 => ?_)
        refine s_iconst (pc := 67) (v := 0) (dc dl_X9_addThing 38 rfl) ic_0 ?_
        refine s_iast (pc := 68) lk_World_12 (dc dl_X9_addThing 39 rfl) ?_
        refine s_aload_n (pc := 69) (dc dl_X9_addThing 40 rfl) rfl rfl ?_
        refine s_dup (pc := 70) (dc dl_X9_addThing 41 rfl) rfl ?_
        refine s_getI (pc := 71) fl_X9_27 lk_World_0 kk_World_0_6 (dc dl_X9_addThing 42 rfl) (fun v10 => ?_)
        refine s_iconst (pc := 74) (v := 1) (dc dl_X9_addThing 43 rfl) ic_1 ?_
        refine s_iadd (pc := 75) (dc dl_X9_addThing 44 rfl) ?_
        refine s_putI (pc := 76) fw_X9_27 lk_World_0 kk_World_0_6 (dc dl_X9_addThing 45 rfl) ?_
        refine s_aload_n (pc := 79) (dc dl_X9_addThing 46 rfl) rfl rfl ?_
        refine s_getI (pc := 80) fl_X9_27 lk_World_0 kk_World_0_6 (dc dl_X9_addThing 47 rfl) (fun v11 => ?_)
        refine s_iconst (pc := 83) (v := 1) (dc dl_X9_addThing 48 rfl) ic_1 ?_
        refine s_isub (pc := 84) (dc dl_X9_addThing 49 rfl) ?_
        exact s_ireturn (pc := 85) rfl (dc dl_X9_addThing 50 rfl)
      · exact s_wk (hj2 ()) rfl
def gX9_change (x1 x2 x3 : Int32) : MM Int32 :=
  jn (fun (a2 : Unit) =>
  rz 1) (fun j1 =>
  jn (fun (a4 : Unit) =>
  jn (fun (a6 : Unit) =>
  jn (fun (a8 : Unit) =>
  jn (fun (a10 : Unit) =>
  rz 0) (fun j9 =>
  (if x1 = 3 then
  bd (gX9_hasThing x2) fun r11 =>
  (if r11 = 0 then
  j9 ()
  else
  bd (la 10 x2) fun v12 =>
  (if v12 = ((-1)) then
  j9 ()
  else
  bd (lf rh0 0 (gX10_isWithin x3 1 9)) fun r13 =>
  (if r13 = 0 then
  j9 ()
  else
  bd (sa 11 x2 x3) fun _ =>
  j1 ())))
  else
  j9 ()))) (fun j7 =>
  (if x1 = 2 then
  bd (gX9_isOpen x2) fun r14 =>
  (if r14 = 0 then
  j7 ()
  else
  bd (lf rh0 0 (gX10_isWithin x3 0 999)) fun r15 =>
  (if r15 = 0 then
  j7 ()
  else
  bd (sa 9 x2 x3) fun _ =>
  j1 ()))
  else
  j7 ()))) (fun j5 =>
  (if x1 = 1 then
  bd (gX9_hasCloth x2) fun r16 =>
  (if r16 = 0 then
  j5 ()
  else
  bd (lf rh0 0 (gX10_isWithin x3 0 99)) fun r17 =>
  (if r17 = 0 then
  j5 ()
  else
  bd (sa 5 x2 x3) fun _ =>
  j1 ()))
  else
  j5 ()))) (fun j3 =>
  (if x1 = 0 then
  bd (gX9_hasPerson x2) fun r18 =>
  (if r18 = 0 then
  j3 ()
  else
  bd (lf rh0 0 (gX10_isWithin x3 0 9)) fun r19 =>
  (if r19 = 0 then
  j3 ()
  else
  bd (sa 1 x2 x3) fun _ =>
  j1 ()))
  else
  j3 ())))
set_option maxHeartbeats 4000000 in
theorem cn_X9_change (l : Launch) (G : Gl) (hG : gOk G) (ad : Nat → Nat) (x1 x2 x3 : Int32) : Cn l G mX9_change 2 lay_World ad [.ref (ad 0), .int x1, .int x2, .int x3] (gX9_change x1 x2 x3) := by
  refine cn_of (lv := [some (.ref (ad 0)), some (.int x1), some (.int x2), some (.int x3)]) (by decide +kernel) rfl (Nat.le_of_ble_eq_true rfl) rfl ?_
  unfold gX9_change
  refine s_iload_n (pc := 0) (dc dl_X9_change 0 rfl) rfl rfl ?_
  refine s_jn (pj := 144) (fun a2 : Unit => [none, none, none, none]) (fun a2 : Unit => []) (fun a2 => ?_) (fun j1 hj1 => ?_)
  · refine s_iconst (pc := 144) (v := 1) (dc dl_X9_change 79 rfl) ic_1 ?_
    exact s_zreturn (pc := 145) rfl (dc dl_X9_change 80 rfl)
  · refine s_jn (pj := 32) (fun a4 : Unit => [some (.ref (ad 0)), some (.int x1), some (.int x2), some (.int x3)]) (fun a4 : Unit => []) (fun a4 => ?_) (fun j3 hj3 => ?_)
    · refine s_iload_n (pc := 32) (dc dl_X9_change 17 rfl) rfl rfl ?_
      refine s_iconst (pc := 33) (v := 1) (dc dl_X9_change 18 rfl) ic_1 ?_
      refine s_jn (pj := 65) (fun a6 : Unit => [some (.ref (ad 0)), some (.int x1), some (.int x2), some (.int x3)]) (fun a6 : Unit => []) (fun a6 => ?_) (fun j5 hj5 => ?_)
      · refine s_iload_n (pc := 65) (dc dl_X9_change 35 rfl) rfl rfl ?_
        refine s_iconst (pc := 66) (v := 2) (dc dl_X9_change 36 rfl) ic_2 ?_
        refine s_jn (pj := 99) (fun a8 : Unit => [some (.ref (ad 0)), some (.int x1), some (.int x2), some (.int x3)]) (fun a8 : Unit => []) (fun a8 => ?_) (fun j7 hj7 => ?_)
        · refine s_iload_n (pc := 99) (dc dl_X9_change 53 rfl) rfl rfl ?_
          refine s_iconst (pc := 100) (v := 3) (dc dl_X9_change 54 rfl) ic_3 ?_
          refine s_jn (pj := 142) (fun a10 : Unit => [none, none, none, none]) (fun a10 : Unit => []) (fun a10 => ?_) (fun j9 hj9 => ?_)
          · refine s_iconst (pc := 142) (v := 0) (dc dl_X9_change 77 rfl) ic_0 ?_
            exact s_zreturn (pc := 143) rfl (dc dl_X9_change 78 rfl)
          · refine s_icmp_ne (pc := 101) (tgt := 142) (dc dl_X9_change 55 rfl) rfl ?_ ?_
            · refine s_aload_n (pc := 104) (dc dl_X9_change 56 rfl) rfl rfl ?_
              refine s_iload_n (pc := 105) (dc dl_X9_change 57 rfl) rfl rfl ?_
              refine s_call (pc := 106) (rest := []) hG (calls_V (mi := mX9_change) (o := 0) (As := [.int x2]) (rest := []) hG (dc dl_X9_change 58 rfl) mo_X9_hasThing mv_X9_hasThing ml_X9_91 ⟨Nat.le_of_ble_eq_true rfl, Nat.le_of_ble_eq_true rfl⟩ rfl rfl (Nat.le_of_ble_eq_true rfl) lk_World_0 rfl) (cn_X9_hasThing l G hG ad x2) rfl (fun r11 => ?_)
              refine s_if_eq (pc := 109) (tgt := 142) (dc dl_X9_change 59 rfl) rfl ?_ ?_
              · exact s_wk (hj9 ()) rfl
              · refine s_aload_n (pc := 112) (dc dl_X9_change 60 rfl) rfl rfl ?_
                refine s_getR (pc := 113) fl_X9_58 lk_World_0 kk_World_0_16 (dc dl_X9_change 61 rfl) ?_
                refine s_iload_n (pc := 116) (dc dl_X9_change 62 rfl) rfl rfl ?_
                refine s_iald (pc := 117) lk_World_10 (dc dl_X9_change 63 rfl) (fun v12 => ?_)
                refine s_iconst (pc := 118) (v := (-1)) (dc dl_X9_change 64 rfl) ic_m1 ?_
                refine s_icmp_eq (pc := 119) (tgt := 142) (dc dl_X9_change 65 rfl) rfl ?_ ?_
                · exact s_wk (hj9 ()) rfl
                · refine s_iload_n (pc := 122) (dc dl_X9_change 66 rfl) rfl rfl ?_
                  refine s_iconst (pc := 123) (v := 1) (dc dl_X9_change 67 rfl) ic_1 ?_
                  refine s_bipush (pc := 124) (v := 9) (dc dl_X9_change 68 rfl) bi_9 ?_
                  refine s_calll (pc := 126) (ρ := rh0) (rest := []) hG (ss_World_E_rh0) (calls_SN (mi := mX9_change) (As := [.int x3, .int 1, .int 9]) (rest := []) hG (dc dl_X9_change 69 rfl) mo_X10_isWithin ms_X10_isWithin ml_X9_81 ⟨Nat.le_of_ble_eq_true rfl, Nat.le_of_ble_eq_true rfl⟩ rfl rfl (Nat.le_of_ble_eq_true rfl)) (cn_X10_isWithin l G hG (fun i => ad (rh0 i)) x3 1 9) rfl rfl (fun r13 => ?_)
                  refine s_if_eq (pc := 129) (tgt := 142) (dc dl_X9_change 70 rfl) rfl ?_ ?_
                  · exact s_wk (hj9 ()) rfl
                  · refine s_aload_n (pc := 132) (dc dl_X9_change 71 rfl) rfl rfl ?_
                    refine s_getR (pc := 133) fl_X9_61 lk_World_0 kk_World_0_17 (dc dl_X9_change 72 rfl) ?_
                    refine s_iload_n (pc := 136) (dc dl_X9_change 73 rfl) rfl rfl ?_
                    refine s_iload_n (pc := 137) (dc dl_X9_change 74 rfl) rfl rfl ?_
                    refine s_iast (pc := 138) lk_World_11 (dc dl_X9_change 75 rfl) ?_
                    refine s_goto (pc := 139) (tgt := 144) (dc dl_X9_change 76 rfl) rfl ?_
                    exact s_wk (hj1 ()) rfl
            · exact s_wk (hj9 ()) rfl
        · refine s_icmp_ne (pc := 67) (tgt := 99) (dc dl_X9_change 37 rfl) rfl ?_ ?_
          · refine s_aload_n (pc := 70) (dc dl_X9_change 38 rfl) rfl rfl ?_
            refine s_iload_n (pc := 71) (dc dl_X9_change 39 rfl) rfl rfl ?_
            refine s_call (pc := 72) (rest := []) hG (calls_V (mi := mX9_change) (o := 0) (As := [.int x2]) (rest := []) hG (dc dl_X9_change 40 rfl) mo_X9_isOpen mv_X9_isOpen ml_X9_88 ⟨Nat.le_of_ble_eq_true rfl, Nat.le_of_ble_eq_true rfl⟩ rfl rfl (Nat.le_of_ble_eq_true rfl) lk_World_0 rfl) (cn_X9_isOpen l G hG ad x2) rfl (fun r14 => ?_)
            refine s_if_eq (pc := 75) (tgt := 99) (dc dl_X9_change 41 rfl) rfl ?_ ?_
            · exact s_wk (hj7 ()) rfl
            · refine s_iload_n (pc := 78) (dc dl_X9_change 42 rfl) rfl rfl ?_
              refine s_iconst (pc := 79) (v := 0) (dc dl_X9_change 43 rfl) ic_0 ?_
              refine s_sipush (pc := 80) (v := 999) (dc dl_X9_change 44 rfl) si_999 ?_
              refine s_calll (pc := 83) (ρ := rh0) (rest := []) hG (ss_World_E_rh0) (calls_SN (mi := mX9_change) (As := [.int x3, .int 0, .int 999]) (rest := []) hG (dc dl_X9_change 45 rfl) mo_X10_isWithin ms_X10_isWithin ml_X9_81 ⟨Nat.le_of_ble_eq_true rfl, Nat.le_of_ble_eq_true rfl⟩ rfl rfl (Nat.le_of_ble_eq_true rfl)) (cn_X10_isWithin l G hG (fun i => ad (rh0 i)) x3 0 999) rfl rfl (fun r15 => ?_)
              refine s_if_eq (pc := 86) (tgt := 99) (dc dl_X9_change 46 rfl) rfl ?_ ?_
              · exact s_wk (hj7 ()) rfl
              · refine s_aload_n (pc := 89) (dc dl_X9_change 47 rfl) rfl rfl ?_
                refine s_getR (pc := 90) fl_X9_55 lk_World_0 kk_World_0_15 (dc dl_X9_change 48 rfl) ?_
                refine s_iload_n (pc := 93) (dc dl_X9_change 49 rfl) rfl rfl ?_
                refine s_iload_n (pc := 94) (dc dl_X9_change 50 rfl) rfl rfl ?_
                refine s_iast (pc := 95) lk_World_9 (dc dl_X9_change 51 rfl) ?_
                refine s_goto (pc := 96) (tgt := 144) (dc dl_X9_change 52 rfl) rfl ?_
                exact s_wk (hj1 ()) rfl
          · exact s_wk (hj7 ()) rfl
      · refine s_icmp_ne (pc := 34) (tgt := 65) (dc dl_X9_change 19 rfl) rfl ?_ ?_
        · refine s_aload_n (pc := 37) (dc dl_X9_change 20 rfl) rfl rfl ?_
          refine s_iload_n (pc := 38) (dc dl_X9_change 21 rfl) rfl rfl ?_
          refine s_call (pc := 39) (rest := []) hG (calls_V (mi := mX9_change) (o := 0) (As := [.int x2]) (rest := []) hG (dc dl_X9_change 22 rfl) mo_X9_hasCloth mv_X9_hasCloth ml_X9_85 ⟨Nat.le_of_ble_eq_true rfl, Nat.le_of_ble_eq_true rfl⟩ rfl rfl (Nat.le_of_ble_eq_true rfl) lk_World_0 rfl) (cn_X9_hasCloth l G hG ad x2) rfl (fun r16 => ?_)
          refine s_if_eq (pc := 42) (tgt := 65) (dc dl_X9_change 23 rfl) rfl ?_ ?_
          · exact s_wk (hj5 ()) rfl
          · refine s_iload_n (pc := 45) (dc dl_X9_change 24 rfl) rfl rfl ?_
            refine s_iconst (pc := 46) (v := 0) (dc dl_X9_change 25 rfl) ic_0 ?_
            refine s_bipush (pc := 47) (v := 99) (dc dl_X9_change 26 rfl) bi_99 ?_
            refine s_calll (pc := 49) (ρ := rh0) (rest := []) hG (ss_World_E_rh0) (calls_SN (mi := mX9_change) (As := [.int x3, .int 0, .int 99]) (rest := []) hG (dc dl_X9_change 27 rfl) mo_X10_isWithin ms_X10_isWithin ml_X9_81 ⟨Nat.le_of_ble_eq_true rfl, Nat.le_of_ble_eq_true rfl⟩ rfl rfl (Nat.le_of_ble_eq_true rfl)) (cn_X10_isWithin l G hG (fun i => ad (rh0 i)) x3 0 99) rfl rfl (fun r17 => ?_)
            refine s_if_eq (pc := 52) (tgt := 65) (dc dl_X9_change 28 rfl) rfl ?_ ?_
            · exact s_wk (hj5 ()) rfl
            · refine s_aload_n (pc := 55) (dc dl_X9_change 29 rfl) rfl rfl ?_
              refine s_getR (pc := 56) fl_X9_43 lk_World_0 kk_World_0_11 (dc dl_X9_change 30 rfl) ?_
              refine s_iload_n (pc := 59) (dc dl_X9_change 31 rfl) rfl rfl ?_
              refine s_iload_n (pc := 60) (dc dl_X9_change 32 rfl) rfl rfl ?_
              refine s_iast (pc := 61) lk_World_5 (dc dl_X9_change 33 rfl) ?_
              refine s_goto (pc := 62) (tgt := 144) (dc dl_X9_change 34 rfl) rfl ?_
              exact s_wk (hj1 ()) rfl
        · exact s_wk (hj5 ()) rfl
    · refine s_if_ne (pc := 1) (tgt := 32) (dc dl_X9_change 1 rfl) rfl ?_ ?_
      · refine s_aload_n (pc := 4) (dc dl_X9_change 2 rfl) rfl rfl ?_
        refine s_iload_n (pc := 5) (dc dl_X9_change 3 rfl) rfl rfl ?_
        refine s_call (pc := 6) (rest := []) hG (calls_V (mi := mX9_change) (o := 0) (As := [.int x2]) (rest := []) hG (dc dl_X9_change 4 rfl) mo_X9_hasPerson mv_X9_hasPerson ml_X9_77 ⟨Nat.le_of_ble_eq_true rfl, Nat.le_of_ble_eq_true rfl⟩ rfl rfl (Nat.le_of_ble_eq_true rfl) lk_World_0 rfl) (cn_X9_hasPerson l G hG ad x2) rfl (fun r18 => ?_)
        refine s_if_eq (pc := 9) (tgt := 32) (dc dl_X9_change 5 rfl) rfl ?_ ?_
        · exact s_wk (hj3 ()) rfl
        · refine s_iload_n (pc := 12) (dc dl_X9_change 6 rfl) rfl rfl ?_
          refine s_iconst (pc := 13) (v := 0) (dc dl_X9_change 7 rfl) ic_0 ?_
          refine s_bipush (pc := 14) (v := 9) (dc dl_X9_change 8 rfl) bi_9 ?_
          refine s_calll (pc := 16) (ρ := rh0) (rest := []) hG (ss_World_E_rh0) (calls_SN (mi := mX9_change) (As := [.int x3, .int 0, .int 9]) (rest := []) hG (dc dl_X9_change 9 rfl) mo_X10_isWithin ms_X10_isWithin ml_X9_81 ⟨Nat.le_of_ble_eq_true rfl, Nat.le_of_ble_eq_true rfl⟩ rfl rfl (Nat.le_of_ble_eq_true rfl)) (cn_X10_isWithin l G hG (fun i => ad (rh0 i)) x3 0 9) rfl rfl (fun r19 => ?_)
          refine s_if_eq (pc := 19) (tgt := 32) (dc dl_X9_change 10 rfl) rfl ?_ ?_
          · exact s_wk (hj3 ()) rfl
          · refine s_aload_n (pc := 22) (dc dl_X9_change 11 rfl) rfl rfl ?_
            refine s_getR (pc := 23) fl_X9_30 lk_World_0 kk_World_0_7 (dc dl_X9_change 12 rfl) ?_
            refine s_iload_n (pc := 26) (dc dl_X9_change 13 rfl) rfl rfl ?_
            refine s_iload_n (pc := 27) (dc dl_X9_change 14 rfl) rfl rfl ?_
            refine s_iast (pc := 28) lk_World_1 (dc dl_X9_change 15 rfl) ?_
            refine s_goto (pc := 29) (tgt := 144) (dc dl_X9_change 16 rfl) rfl ?_
            exact s_wk (hj1 ()) rfl
      · exact s_wk (hj3 ()) rfl
def gX9_leftTo (x1 : Int32) : MM Int32 :=
  loopC 100000 (fun (self1 : (Int32 × Int32) → MM Int32) (s2 : Int32 × Int32) =>
  bd (ld 0 6) fun v3 =>
  (if v3 ≤ s2.2 then
  pr s2.1
  else
  bd (la 12 s2.2) fun v4 =>
  jn (fun (a6 : Int32) =>
  lt (s2.2 + 1) fun y7 =>
  self1 (a6, y7)) (fun j5 =>
  (if v4 = 0 then
  bd (la 8 s2.2) fun v8 =>
  (if v8 = x1 then
  lt (s2.1 + 1) fun y9 =>
  j5 y9
  else
  j5 s2.1)
  else
  j5 s2.1)))) (0, 0)
set_option maxHeartbeats 4000000 in
theorem cn_X9_leftTo (l : Launch) (G : Gl) (hG : gOk G) (ad : Nat → Nat) (x1 : Int32) : Cn l G mX9_leftTo 0 lay_World ad [.ref (ad 0), .int x1] (gX9_leftTo x1) := by
  refine cn_of (lv := [some (.ref (ad 0)), some (.int x1), none, none]) (by decide +kernel) rfl (Nat.le_of_ble_eq_true rfl) rfl ?_
  unfold gX9_leftTo
  refine s_iconst (pc := 0) (v := 0) (dc dl_X9_leftTo 0 rfl) ic_0 ?_
  refine s_istore_n (pc := 1) (lv' := [some (.ref (ad 0)), some (.int x1), some (.int 0), none]) (dc dl_X9_leftTo 1 rfl) rfl (Nat.le_of_ble_eq_true rfl) rfl ?_
  refine s_iconst (pc := 2) (v := 0) (dc dl_X9_leftTo 2 rfl) ic_0 ?_
  refine s_istore_n (pc := 3) (lv' := [some (.ref (ad 0)), some (.int x1), some (.int 0), some (.int 0)]) (dc dl_X9_leftTo 3 rfl) rfl (Nat.le_of_ble_eq_true rfl) rfl ?_
  refine s_weak (lv' := [some (.ref (ad 0)), some (.int x1), some (.int 0), some (.int 0)]) rfl ?_
  refine s_loop (pc := 4) (fun s2 : Int32 × Int32 => [some (.ref (ad 0)), some (.int x1), some (.int s2.1), some (.int s2.2)]) [] (fun self1 hself1 s2 => ?_) _ (0, 0)
  refine s_iload_n (pc := 4) (dc dl_X9_leftTo 4 rfl) rfl rfl ?_
  refine s_aload_n (pc := 5) (dc dl_X9_leftTo 5 rfl) rfl rfl ?_
  refine s_getI (pc := 6) fl_X9_27 lk_World_0 kk_World_0_6 (dc dl_X9_leftTo 6 rfl) (fun v3 => ?_)
  refine s_icmp_ge (pc := 9) (tgt := 40) (dc dl_X9_leftTo 7 rfl) rfl ?_ ?_
  · refine s_iload_n (pc := 40) (dc dl_X9_leftTo 22 rfl) rfl rfl ?_
    exact s_ireturn (pc := 41) rfl (dc dl_X9_leftTo 23 rfl)
  · refine s_aload_n (pc := 12) (dc dl_X9_leftTo 8 rfl) rfl rfl ?_
    refine s_getR (pc := 13) fl_X9_64 lk_World_0 kk_World_0_18 (dc dl_X9_leftTo 9 rfl) ?_
    refine s_iload_n (pc := 16) (dc dl_X9_leftTo 10 rfl) rfl rfl ?_
    refine s_iald (pc := 17) lk_World_12 (dc dl_X9_leftTo 11 rfl) (fun v4 => ?_)
    refine s_jn (pj := 34) (fun a6 : Int32 => [some (.ref (ad 0)), some (.int x1), some (.int a6), some (.int s2.2)]) (fun a6 : Int32 => []) (fun a6 => ?_) (fun j5 hj5 => ?_)
    · refine s_iincL (pc := 34) (lf' := fun y7 => [some (.ref (ad 0)), some (.int x1), some (.int a6), some (.int y7)]) (dc dl_X9_leftTo 20 rfl) rfl rfl (Nat.le_of_ble_eq_true rfl) (fun _ => rfl) (fun y7 => ?_)
      refine s_goto (pc := 37) (tgt := 4) (dc dl_X9_leftTo 21 rfl) rfl ?_
      exact s_wk (hself1 (a6, y7)) rfl
    · refine s_if_ne (pc := 18) (tgt := 34) (dc dl_X9_leftTo 12 rfl) rfl ?_ ?_
      · refine s_aload_n (pc := 21) (dc dl_X9_leftTo 13 rfl) rfl rfl ?_
        refine s_getR (pc := 22) fl_X9_52 lk_World_0 kk_World_0_14 (dc dl_X9_leftTo 14 rfl) ?_
        refine s_iload_n (pc := 25) (dc dl_X9_leftTo 15 rfl) rfl rfl ?_
        refine s_iald (pc := 26) lk_World_8 (dc dl_X9_leftTo 16 rfl) (fun v8 => ?_)
        refine s_iload_n (pc := 27) (dc dl_X9_leftTo 17 rfl) rfl rfl ?_
        refine s_icmp_ne (pc := 28) (tgt := 34) (dc dl_X9_leftTo 18 rfl) rfl ?_ ?_
        · refine s_iincL (pc := 31) (lf' := fun y9 => [some (.ref (ad 0)), some (.int x1), some (.int y9), some (.int s2.2)]) (dc dl_X9_leftTo 19 rfl) rfl rfl (Nat.le_of_ble_eq_true rfl) (fun _ => rfl) (fun y9 => ?_)
          exact s_wk (hj5 y9) rfl
        · exact s_wk (hj5 s2.1) rfl
      · exact s_wk (hj5 s2.1) rfl
def gX9_leastDueOf (x1 : Int32) : MM Int32 :=
  loopC 100000 (fun (self1 : (Int32 × Int32) → MM Int32) (s2 : Int32 × Int32) =>
  bd (ld 0 6) fun v3 =>
  (if v3 ≤ s2.2 then
  pr s2.1
  else
  bd (la 12 s2.2) fun v4 =>
  jn (fun (a6 : Int32) =>
  jn (fun (a8 : Int32) =>
  lt (s2.2 + 1) fun y9 =>
  self1 (a8, y9)) (fun j7 =>
  (if a6 = 0 then
  j7 s2.1
  else
  jn (fun (a11 : Unit) =>
  bd (la 9 s2.2) fun v12 =>
  j7 v12) (fun j10 =>
  (if s2.1 = ((-1)) then
  j10 ()
  else
  bd (la 9 s2.2) fun v13 =>
  (if s2.1 ≤ v13 then
  j7 s2.1
  else
  j10 ())))))) (fun j5 =>
  jn (fun (a15 : Unit) =>
  j5 0) (fun j14 =>
  (if v4 = 0 then
  bd (la 8 s2.2) fun v16 =>
  (if v16 = x1 then
  bd (la 9 s2.2) fun v17 =>
  bd (ld 0 2) fun v18 =>
  (if v17 < v18 then
  j14 ()
  else
  j5 1)
  else
  j14 ())
  else
  j14 ()))))) (((-1)), 0)
set_option maxHeartbeats 4000000 in
theorem cn_X9_leastDueOf (l : Launch) (G : Gl) (hG : gOk G) (ad : Nat → Nat) (x1 : Int32) : Cn l G mX9_leastDueOf 0 lay_World ad [.ref (ad 0), .int x1] (gX9_leastDueOf x1) := by
  refine cn_of (lv := [some (.ref (ad 0)), some (.int x1), none, none, none]) (by decide +kernel) rfl (Nat.le_of_ble_eq_true rfl) rfl ?_
  unfold gX9_leastDueOf
  refine s_iconst (pc := 0) (v := (-1)) (dc dl_X9_leastDueOf 0 rfl) ic_m1 ?_
  refine s_istore_n (pc := 1) (lv' := [some (.ref (ad 0)), some (.int x1), some (.int ((-1))), none, none]) (dc dl_X9_leastDueOf 1 rfl) rfl (Nat.le_of_ble_eq_true rfl) rfl ?_
  refine s_iconst (pc := 2) (v := 0) (dc dl_X9_leastDueOf 2 rfl) ic_0 ?_
  refine s_istore_n (pc := 3) (lv' := [some (.ref (ad 0)), some (.int x1), some (.int ((-1))), some (.int 0), none]) (dc dl_X9_leastDueOf 3 rfl) rfl (Nat.le_of_ble_eq_true rfl) rfl ?_
  refine s_weak (lv' := [some (.ref (ad 0)), some (.int x1), some (.int ((-1))), some (.int 0), none]) rfl ?_
  refine s_loop (pc := 4) (fun s2 : Int32 × Int32 => [some (.ref (ad 0)), some (.int x1), some (.int s2.1), some (.int s2.2), none]) [] (fun self1 hself1 s2 => ?_) _ (((-1)), 0)
  refine s_iload_n (pc := 4) (dc dl_X9_leastDueOf 4 rfl) rfl rfl ?_
  refine s_aload_n (pc := 5) (dc dl_X9_leastDueOf 5 rfl) rfl rfl ?_
  refine s_getI (pc := 6) fl_X9_27 lk_World_0 kk_World_0_6 (dc dl_X9_leastDueOf 6 rfl) (fun v3 => ?_)
  refine s_icmp_ge (pc := 9) (tgt := 84) (dc dl_X9_leastDueOf 7 rfl) rfl ?_ ?_
  · refine s_iload_n (pc := 84) (dc dl_X9_leastDueOf 48 rfl) rfl rfl ?_
    exact s_ireturn (pc := 85) rfl (dc dl_X9_leastDueOf 49 rfl)
  · refine s_aload_n (pc := 12) (dc dl_X9_leastDueOf 8 rfl) rfl rfl ?_
    refine s_getR (pc := 13) fl_X9_64 lk_World_0 kk_World_0_18 (dc dl_X9_leastDueOf 9 rfl) ?_
    refine s_iload_n (pc := 16) (dc dl_X9_leastDueOf 10 rfl) rfl rfl ?_
    refine s_iald (pc := 17) lk_World_12 (dc dl_X9_leastDueOf 11 rfl) (fun v4 => ?_)
    refine s_jn (pj := 49) (fun a6 : Int32 => [some (.ref (ad 0)), some (.int x1), some (.int s2.1), some (.int s2.2), none]) (fun a6 : Int32 => [.int a6]) (fun a6 => ?_) (fun j5 hj5 => ?_)
    · refine s_istore (pc := 49) (lv' := [some (.ref (ad 0)), some (.int x1), some (.int s2.1), some (.int s2.2), some (.int a6)]) (dc dl_X9_leastDueOf 29 rfl) (Nat.le_of_ble_eq_true rfl) rfl ?_
      refine s_iload (pc := 51) (dc dl_X9_leastDueOf 30 rfl) rfl ?_
      refine s_jn (pj := 78) (fun a8 : Int32 => [some (.ref (ad 0)), some (.int x1), some (.int a8), some (.int s2.2), none]) (fun a8 : Int32 => []) (fun a8 => ?_) (fun j7 hj7 => ?_)
      · refine s_iincL (pc := 78) (lf' := fun y9 => [some (.ref (ad 0)), some (.int x1), some (.int a8), some (.int y9), none]) (dc dl_X9_leastDueOf 46 rfl) rfl rfl (Nat.le_of_ble_eq_true rfl) (fun _ => rfl) (fun y9 => ?_)
        refine s_goto (pc := 81) (tgt := 4) (dc dl_X9_leastDueOf 47 rfl) rfl ?_
        exact s_wk (hself1 (a8, y9)) rfl
      · refine s_if_eq (pc := 53) (tgt := 78) (dc dl_X9_leastDueOf 31 rfl) rfl ?_ ?_
        · exact s_wk (hj7 s2.1) rfl
        · refine s_iload_n (pc := 56) (dc dl_X9_leastDueOf 32 rfl) rfl rfl ?_
          refine s_iconst (pc := 57) (v := (-1)) (dc dl_X9_leastDueOf 33 rfl) ic_m1 ?_
          refine s_jn (pj := 71) (fun a11 : Unit => [some (.ref (ad 0)), some (.int x1), none, some (.int s2.2), none]) (fun a11 : Unit => []) (fun a11 => ?_) (fun j10 hj10 => ?_)
          · refine s_aload_n (pc := 71) (dc dl_X9_leastDueOf 41 rfl) rfl rfl ?_
            refine s_getR (pc := 72) fl_X9_55 lk_World_0 kk_World_0_15 (dc dl_X9_leastDueOf 42 rfl) ?_
            refine s_iload_n (pc := 75) (dc dl_X9_leastDueOf 43 rfl) rfl rfl ?_
            refine s_iald (pc := 76) lk_World_9 (dc dl_X9_leastDueOf 44 rfl) (fun v12 => ?_)
            refine s_istore_n (pc := 77) (lv' := [some (.ref (ad 0)), some (.int x1), some (.int v12), some (.int s2.2), none]) (dc dl_X9_leastDueOf 45 rfl) rfl (Nat.le_of_ble_eq_true rfl) rfl ?_
            exact s_wk (hj7 v12) rfl
          · refine s_icmp_eq (pc := 58) (tgt := 71) (dc dl_X9_leastDueOf 34 rfl) rfl ?_ ?_
            · exact s_wk (hj10 ()) rfl
            · refine s_aload_n (pc := 61) (dc dl_X9_leastDueOf 35 rfl) rfl rfl ?_
              refine s_getR (pc := 62) fl_X9_55 lk_World_0 kk_World_0_15 (dc dl_X9_leastDueOf 36 rfl) ?_
              refine s_iload_n (pc := 65) (dc dl_X9_leastDueOf 37 rfl) rfl rfl ?_
              refine s_iald (pc := 66) lk_World_9 (dc dl_X9_leastDueOf 38 rfl) (fun v13 => ?_)
              refine s_iload_n (pc := 67) (dc dl_X9_leastDueOf 39 rfl) rfl rfl ?_
              refine s_icmp_ge (pc := 68) (tgt := 78) (dc dl_X9_leastDueOf 40 rfl) rfl ?_ ?_
              · exact s_wk (hj7 s2.1) rfl
              · exact s_wk (hj10 ()) rfl
    · refine s_jn (pj := 48) (fun a15 : Unit => [some (.ref (ad 0)), some (.int x1), some (.int s2.1), some (.int s2.2), none]) (fun a15 : Unit => []) (fun a15 => ?_) (fun j14 hj14 => ?_)
      · refine s_iconst (pc := 48) (v := 0) (dc dl_X9_leastDueOf 28 rfl) ic_0 ?_
        exact s_wk (hj5 0) rfl
      · refine s_if_ne (pc := 18) (tgt := 48) (dc dl_X9_leastDueOf 12 rfl) rfl ?_ ?_
        · refine s_aload_n (pc := 21) (dc dl_X9_leastDueOf 13 rfl) rfl rfl ?_
          refine s_getR (pc := 22) fl_X9_52 lk_World_0 kk_World_0_14 (dc dl_X9_leastDueOf 14 rfl) ?_
          refine s_iload_n (pc := 25) (dc dl_X9_leastDueOf 15 rfl) rfl rfl ?_
          refine s_iald (pc := 26) lk_World_8 (dc dl_X9_leastDueOf 16 rfl) (fun v16 => ?_)
          refine s_iload_n (pc := 27) (dc dl_X9_leastDueOf 17 rfl) rfl rfl ?_
          refine s_icmp_ne (pc := 28) (tgt := 48) (dc dl_X9_leastDueOf 18 rfl) rfl ?_ ?_
          · refine s_aload_n (pc := 31) (dc dl_X9_leastDueOf 19 rfl) rfl rfl ?_
            refine s_getR (pc := 32) fl_X9_55 lk_World_0 kk_World_0_15 (dc dl_X9_leastDueOf 20 rfl) ?_
            refine s_iload_n (pc := 35) (dc dl_X9_leastDueOf 21 rfl) rfl rfl ?_
            refine s_iald (pc := 36) lk_World_9 (dc dl_X9_leastDueOf 22 rfl) (fun v17 => ?_)
            refine s_aload_n (pc := 37) (dc dl_X9_leastDueOf 23 rfl) rfl rfl ?_
            refine s_getI (pc := 38) fl_X9_15 lk_World_0 kk_World_0_2 (dc dl_X9_leastDueOf 24 rfl) (fun v18 => ?_)
            refine s_icmp_lt (pc := 41) (tgt := 48) (dc dl_X9_leastDueOf 25 rfl) rfl ?_ ?_
            · exact s_wk (hj14 ()) rfl
            · refine s_iconst (pc := 44) (v := 1) (dc dl_X9_leastDueOf 26 rfl) ic_1 ?_
              refine s_goto (pc := 45) (tgt := 49) (dc dl_X9_leastDueOf 27 rfl) rfl ?_
              exact s_wk (hj5 1) rfl
          · exact s_wk (hj14 ()) rfl
        · exact s_wk (hj14 ()) rfl
def gX9_clothsWith (x1 : Int32) : MM Int32 :=
  loopC 100000 (fun (self1 : (Int32 × Int32) → MM Int32) (s2 : Int32 × Int32) =>
  bd (ld 0 5) fun v3 =>
  (if v3 ≤ s2.2 then
  pr s2.1
  else
  bd (la 4 s2.2) fun v4 =>
  jn (fun (a6 : Int32) =>
  lt (s2.2 + 1) fun y7 =>
  self1 (a6, y7)) (fun j5 =>
  (if v4 = x1 then
  lt (s2.1 ||| (1 <<< (s2.2 &&& 31))) fun y8 =>
  j5 y8
  else
  j5 s2.1)))) (0, 0)
set_option maxHeartbeats 4000000 in
theorem cn_X9_clothsWith (l : Launch) (G : Gl) (hG : gOk G) (ad : Nat → Nat) (x1 : Int32) : Cn l G mX9_clothsWith 0 lay_World ad [.ref (ad 0), .int x1] (gX9_clothsWith x1) := by
  refine cn_of (lv := [some (.ref (ad 0)), some (.int x1), none, none]) (by decide +kernel) rfl (Nat.le_of_ble_eq_true rfl) rfl ?_
  unfold gX9_clothsWith
  refine s_iconst (pc := 0) (v := 0) (dc dl_X9_clothsWith 0 rfl) ic_0 ?_
  refine s_istore_n (pc := 1) (lv' := [some (.ref (ad 0)), some (.int x1), some (.int 0), none]) (dc dl_X9_clothsWith 1 rfl) rfl (Nat.le_of_ble_eq_true rfl) rfl ?_
  refine s_iconst (pc := 2) (v := 0) (dc dl_X9_clothsWith 2 rfl) ic_0 ?_
  refine s_istore_n (pc := 3) (lv' := [some (.ref (ad 0)), some (.int x1), some (.int 0), some (.int 0)]) (dc dl_X9_clothsWith 3 rfl) rfl (Nat.le_of_ble_eq_true rfl) rfl ?_
  refine s_weak (lv' := [some (.ref (ad 0)), some (.int x1), some (.int 0), some (.int 0)]) rfl ?_
  refine s_loop (pc := 4) (fun s2 : Int32 × Int32 => [some (.ref (ad 0)), some (.int x1), some (.int s2.1), some (.int s2.2)]) [] (fun self1 hself1 s2 => ?_) _ (0, 0)
  refine s_iload_n (pc := 4) (dc dl_X9_clothsWith 4 rfl) rfl rfl ?_
  refine s_aload_n (pc := 5) (dc dl_X9_clothsWith 5 rfl) rfl rfl ?_
  refine s_getI (pc := 6) fl_X9_24 lk_World_0 kk_World_0_5 (dc dl_X9_clothsWith 6 rfl) (fun v3 => ?_)
  refine s_icmp_ge (pc := 9) (tgt := 34) (dc dl_X9_clothsWith 7 rfl) rfl ?_ ?_
  · refine s_iload_n (pc := 34) (dc dl_X9_clothsWith 22 rfl) rfl rfl ?_
    exact s_ireturn (pc := 35) rfl (dc dl_X9_clothsWith 23 rfl)
  · refine s_aload_n (pc := 12) (dc dl_X9_clothsWith 8 rfl) rfl rfl ?_
    refine s_getR (pc := 13) fl_X9_40 lk_World_0 kk_World_0_10 (dc dl_X9_clothsWith 9 rfl) ?_
    refine s_iload_n (pc := 16) (dc dl_X9_clothsWith 10 rfl) rfl rfl ?_
    refine s_iald (pc := 17) lk_World_4 (dc dl_X9_clothsWith 11 rfl) (fun v4 => ?_)
    refine s_iload_n (pc := 18) (dc dl_X9_clothsWith 12 rfl) rfl rfl ?_
    refine s_jn (pj := 28) (fun a6 : Int32 => [some (.ref (ad 0)), some (.int x1), some (.int a6), some (.int s2.2)]) (fun a6 : Int32 => []) (fun a6 => ?_) (fun j5 hj5 => ?_)
    · refine s_iincL (pc := 28) (lf' := fun y7 => [some (.ref (ad 0)), some (.int x1), some (.int a6), some (.int y7)]) (dc dl_X9_clothsWith 20 rfl) rfl rfl (Nat.le_of_ble_eq_true rfl) (fun _ => rfl) (fun y7 => ?_)
      refine s_goto (pc := 31) (tgt := 4) (dc dl_X9_clothsWith 21 rfl) rfl ?_
      exact s_wk (hself1 (a6, y7)) rfl
    · refine s_icmp_ne (pc := 19) (tgt := 28) (dc dl_X9_clothsWith 13 rfl) rfl ?_ ?_
      · refine s_iload_n (pc := 22) (dc dl_X9_clothsWith 14 rfl) rfl rfl ?_
        refine s_iconst (pc := 23) (v := 1) (dc dl_X9_clothsWith 15 rfl) ic_1 ?_
        refine s_iload_n (pc := 24) (dc dl_X9_clothsWith 16 rfl) rfl rfl ?_
        refine s_ishl (pc := 25) (dc dl_X9_clothsWith 17 rfl) ?_
        refine s_ior (pc := 26) (dc dl_X9_clothsWith 18 rfl) ?_
        refine s_istore_nL (pc := 27) (lf' := fun y8 => [some (.ref (ad 0)), some (.int x1), some (.int y8), some (.int s2.2)]) (dc dl_X9_clothsWith 19 rfl) rfl (Nat.le_of_ble_eq_true rfl) (fun _ => rfl) (fun y8 => ?_)
        exact s_wk (hj5 y8) rfl
      · exact s_wk (hj5 s2.1) rfl
