def gX3_readProduct : MM Int32 :=
  loopC 100000 (fun (self1 : (Int32 × Int32) → MM Int32) (s2 : Int32 × Int32) =>
  (if 400 ≤ s2.2 then
  rz 1
  else
  jn (fun (a4 : Unit) =>
  bd (ld 8 2) fun v5 =>
  jn (fun (a7 : Unit) =>
  bd (lf rh16 2 gX7_next) fun r8 =>
  jn (fun (a10 : Unit) =>
  bd (ld 8 2) fun v11 =>
  jn (fun (a13 : Int32) =>
  (if a13 = ((-1)) then
  rz 1
  else
  bd (lf rh16 2 gX7_next) fun r14 =>
  lt (s2.2 + 1) fun y15 =>
  self1 (a13, y15))) (fun j12 =>
  (if v11 = 42 then
  j12 10012
  else
  bd (ld 8 2) fun v16 =>
  (if v16 = 47 then
  j12 10013
  else
  j12 ((-1)))))) (fun j9 =>
  (if s2.1 = ((-1)) then
  j9 ()
  else
  bd (lf rh17 7 (gX2_put s2.1)) fun r17 =>
  j9 ()))) (fun j6 =>
  (if v5 = 257 then
  bd (ld 8 3) fun v23 =>
  bd (lf rh17 7 (gX2_put v23)) fun r24 =>
  j6 ()
  else
  bd (ld 8 2) fun v18 =>
  bd (lf rh0 0 (gX10_isWithin v18 303 311)) fun r19 =>
  (if r19 = 0 then
  bd (lf rh16 2 (gX7_refuse 1)) fun r20 =>
  rz r20
  else
  bd (ld 8 2) fun v21 =>
  bd (lf rh17 7 (gX2_put ((10000 + v21) - 303))) fun r22 =>
  j6 ())))) (fun j3 =>
  (if s2.1 = 10013 then
  bd (lf rh16 2 (gX7_isNumber 1 9999)) fun r25 =>
  (if r25 = 0 then
  rz 0
  else
  j3 ())
  else
  j3 ())))) (((-1)), 0)
set_option maxHeartbeats 4000000 in
theorem cn_X3_readProduct (l : Launch) (G : Gl) (hG : gOk G) (ad : Nat → Nat) : Cn l G mX3_readProduct 6 lay_LawR ad [.ref (ad 0), .ref (ad 8)] (gX3_readProduct) := by
  refine cn_of (lv := [some (.ref (ad 0)), some (.ref (ad 8)), none, none]) (by decide +kernel) rfl (Nat.le_of_ble_eq_true rfl) rfl ?_
  unfold gX3_readProduct
  refine s_iconst (pc := 0) (v := (-1)) (dc dl_X3_readProduct 0 rfl) ic_m1 ?_
  refine s_istore_n (pc := 1) (lv' := [some (.ref (ad 0)), some (.ref (ad 8)), some (.int ((-1))), none]) (dc dl_X3_readProduct 1 rfl) rfl (Nat.le_of_ble_eq_true rfl) rfl ?_
  refine s_iconst (pc := 2) (v := 0) (dc dl_X3_readProduct 2 rfl) ic_0 ?_
  refine s_istore_n (pc := 3) (lv' := [some (.ref (ad 0)), some (.ref (ad 8)), some (.int ((-1))), some (.int 0)]) (dc dl_X3_readProduct 3 rfl) rfl (Nat.le_of_ble_eq_true rfl) rfl ?_
  refine s_weak (lv' := [some (.ref (ad 0)), some (.ref (ad 8)), some (.int ((-1))), some (.int 0)]) rfl ?_
  refine s_loop (pc := 4) (fun s2 : Int32 × Int32 => [some (.ref (ad 0)), some (.ref (ad 8)), some (.int s2.1), some (.int s2.2)]) [] (fun self1 hself1 s2 => ?_) _ (((-1)), 0)
  refine s_iload_n (pc := 4) (dc dl_X3_readProduct 4 rfl) rfl rfl ?_
  refine s_sipush (pc := 5) (v := 400) (dc dl_X3_readProduct 5 rfl) si_400 ?_
  refine s_icmp_ge (pc := 8) (tgt := 165) (dc dl_X3_readProduct 6 rfl) rfl ?_ ?_
  · refine s_iconst (pc := 165) (v := 1) (dc dl_X3_readProduct 79 rfl) ic_1 ?_
    exact s_zreturn (pc := 166) rfl (dc dl_X3_readProduct 80 rfl)
  · refine s_iload_n (pc := 11) (dc dl_X3_readProduct 7 rfl) rfl rfl ?_
    refine s_sipush (pc := 12) (v := 10013) (dc dl_X3_readProduct 8 rfl) si_10013 ?_
    refine s_jn (pj := 31) (fun a4 : Unit => [some (.ref (ad 0)), some (.ref (ad 8)), some (.int s2.1), some (.int s2.2)]) (fun a4 : Unit => []) (fun a4 => ?_) (fun j3 hj3 => ?_)
    · refine s_aload_n (pc := 31) (dc dl_X3_readProduct 17 rfl) rfl rfl ?_
      refine s_getI (pc := 32) fl_X3_26 lk_LawR_8 kk_LawR_8_2 (dc dl_X3_readProduct 18 rfl) (fun v5 => ?_)
      refine s_sipush (pc := 35) (v := 257) (dc dl_X3_readProduct 19 rfl) si_257 ?_
      refine s_jn (pj := 99) (fun a7 : Unit => [some (.ref (ad 0)), some (.ref (ad 8)), some (.int s2.1), some (.int s2.2)]) (fun a7 : Unit => []) (fun a7 => ?_) (fun j6 hj6 => ?_)
      · refine s_aload_n (pc := 99) (dc dl_X3_readProduct 47 rfl) rfl rfl ?_
        refine s_calllv (pc := 100) (ρ := rh16) (rest := []) hG (ss_LawR_Tape_rh16) (calls_V (mi := mX3_readProduct) (o := 8) (As := []) (rest := []) hG (dc dl_X3_readProduct 48 rfl) mo_X7_next mv_X7_next ml_X3_21 ⟨Nat.le_of_ble_eq_true rfl, Nat.le_of_ble_eq_true rfl⟩ rfl rfl (Nat.le_of_ble_eq_true rfl) lk_LawR_8 rfl) (cn_X7_next l G hG (fun i => ad (rh16 i))) rfl rfl (fun r8 => ?_)
        refine s_iload_n (pc := 103) (dc dl_X3_readProduct 49 rfl) rfl rfl ?_
        refine s_iconst (pc := 104) (v := (-1)) (dc dl_X3_readProduct 50 rfl) ic_m1 ?_
        refine s_jn (pj := 116) (fun a10 : Unit => [some (.ref (ad 0)), some (.ref (ad 8)), none, some (.int s2.2)]) (fun a10 : Unit => []) (fun a10 => ?_) (fun j9 hj9 => ?_)
        · refine s_aload_n (pc := 116) (dc dl_X3_readProduct 56 rfl) rfl rfl ?_
          refine s_getI (pc := 117) fl_X3_26 lk_LawR_8 kk_LawR_8_2 (dc dl_X3_readProduct 57 rfl) (fun v11 => ?_)
          refine s_bipush (pc := 120) (v := 42) (dc dl_X3_readProduct 58 rfl) bi_42 ?_
          refine s_jn (pj := 147) (fun a13 : Int32 => [some (.ref (ad 0)), some (.ref (ad 8)), none, some (.int s2.2)]) (fun a13 : Int32 => [.int a13]) (fun a13 => ?_) (fun j12 hj12 => ?_)
          · refine s_istore_n (pc := 147) (lv' := [some (.ref (ad 0)), some (.ref (ad 8)), some (.int a13), some (.int s2.2)]) (dc dl_X3_readProduct 69 rfl) rfl (Nat.le_of_ble_eq_true rfl) rfl ?_
            refine s_iload_n (pc := 148) (dc dl_X3_readProduct 70 rfl) rfl rfl ?_
            refine s_iconst (pc := 149) (v := (-1)) (dc dl_X3_readProduct 71 rfl) ic_m1 ?_
            refine s_icmp_ne (pc := 150) (tgt := 155) (dc dl_X3_readProduct 72 rfl) rfl ?_ ?_
            · refine s_iconst (pc := 153) (v := 1) (dc dl_X3_readProduct 73 rfl) ic_1 ?_
              exact s_zreturn (pc := 154) rfl (dc dl_X3_readProduct 74 rfl)
            · refine s_aload_n (pc := 155) (dc dl_X3_readProduct 75 rfl) rfl rfl ?_
              refine s_calllv (pc := 156) (ρ := rh16) (rest := []) hG (ss_LawR_Tape_rh16) (calls_V (mi := mX3_readProduct) (o := 8) (As := []) (rest := []) hG (dc dl_X3_readProduct 76 rfl) mo_X7_next mv_X7_next ml_X3_21 ⟨Nat.le_of_ble_eq_true rfl, Nat.le_of_ble_eq_true rfl⟩ rfl rfl (Nat.le_of_ble_eq_true rfl) lk_LawR_8 rfl) (cn_X7_next l G hG (fun i => ad (rh16 i))) rfl rfl (fun r14 => ?_)
              refine s_iincL (pc := 159) (lf' := fun y15 => [some (.ref (ad 0)), some (.ref (ad 8)), some (.int a13), some (.int y15)]) (dc dl_X3_readProduct 77 rfl) rfl rfl (Nat.le_of_ble_eq_true rfl) (fun _ => rfl) (fun y15 => ?_)
              refine s_goto (pc := 162) (tgt := 4) (dc dl_X3_readProduct 78 rfl) rfl ?_
              exact s_wk (hself1 (a13, y15)) rfl
          · refine s_icmp_ne (pc := 122) (tgt := 131) (dc dl_X3_readProduct 59 rfl) rfl ?_ ?_
            · refine s_sipush (pc := 125) (v := 10012) (dc dl_X3_readProduct 60 rfl) si_10012 ?_
              refine s_goto (pc := 128) (tgt := 147) (dc dl_X3_readProduct 61 rfl) rfl ?_
              exact s_wk (hj12 10012) rfl
            · refine s_aload_n (pc := 131) (dc dl_X3_readProduct 62 rfl) rfl rfl ?_
              refine s_getI (pc := 132) fl_X3_26 lk_LawR_8 kk_LawR_8_2 (dc dl_X3_readProduct 63 rfl) (fun v16 => ?_)
              refine s_bipush (pc := 135) (v := 47) (dc dl_X3_readProduct 64 rfl) bi_47 ?_
              refine s_icmp_ne (pc := 137) (tgt := 146) (dc dl_X3_readProduct 65 rfl) rfl ?_ ?_
              · refine s_sipush (pc := 140) (v := 10013) (dc dl_X3_readProduct 66 rfl) si_10013 ?_
                refine s_goto (pc := 143) (tgt := 147) (dc dl_X3_readProduct 67 rfl) rfl ?_
                exact s_wk (hj12 10013) rfl
              · refine s_iconst (pc := 146) (v := (-1)) (dc dl_X3_readProduct 68 rfl) ic_m1 ?_
                exact s_wk (hj12 ((-1))) rfl
        · refine s_icmp_eq (pc := 105) (tgt := 116) (dc dl_X3_readProduct 51 rfl) rfl ?_ ?_
          · exact s_wk (hj9 ()) rfl
          · refine s_aload_n (pc := 108) (dc dl_X3_readProduct 52 rfl) rfl rfl ?_
            refine s_getR (pc := 109) fl_X3_12 lk_LawR_0 kk_LawR_0_0 (dc dl_X3_readProduct 53 rfl) ?_
            refine s_iload_n (pc := 112) (dc dl_X3_readProduct 54 rfl) rfl rfl ?_
            refine s_calllv (pc := 113) (ρ := rh17) (rest := []) hG (ss_LawR_Law_rh17) (calls_V (mi := mX3_readProduct) (o := 1) (As := [.int s2.1]) (rest := []) hG (dc dl_X3_readProduct 55 rfl) mo_X2_put mv_X2_put ml_X3_62 ⟨Nat.le_of_ble_eq_true rfl, Nat.le_of_ble_eq_true rfl⟩ rfl rfl (Nat.le_of_ble_eq_true rfl) lk_LawR_1 rfl) (cn_X2_put l G hG (fun i => ad (rh17 i)) s2.1) rfl rfl (fun r17 => ?_)
            exact s_wk (hj9 ()) rfl
      · refine s_icmp_ne (pc := 38) (tgt := 55) (dc dl_X3_readProduct 20 rfl) rfl ?_ ?_
        · refine s_aload_n (pc := 41) (dc dl_X3_readProduct 21 rfl) rfl rfl ?_
          refine s_getR (pc := 42) fl_X3_12 lk_LawR_0 kk_LawR_0_0 (dc dl_X3_readProduct 22 rfl) ?_
          refine s_aload_n (pc := 45) (dc dl_X3_readProduct 23 rfl) rfl rfl ?_
          refine s_getI (pc := 46) fl_X3_73 lk_LawR_8 kk_LawR_8_3 (dc dl_X3_readProduct 24 rfl) (fun v23 => ?_)
          refine s_calllv (pc := 49) (ρ := rh17) (rest := []) hG (ss_LawR_Law_rh17) (calls_V (mi := mX3_readProduct) (o := 1) (As := [.int v23]) (rest := []) hG (dc dl_X3_readProduct 25 rfl) mo_X2_put mv_X2_put ml_X3_62 ⟨Nat.le_of_ble_eq_true rfl, Nat.le_of_ble_eq_true rfl⟩ rfl rfl (Nat.le_of_ble_eq_true rfl) lk_LawR_1 rfl) (cn_X2_put l G hG (fun i => ad (rh17 i)) v23) rfl rfl (fun r24 => ?_)
          refine s_goto (pc := 52) (tgt := 99) (dc dl_X3_readProduct 26 rfl) rfl ?_
          exact s_wk (hj6 ()) rfl
        · refine s_aload_n (pc := 55) (dc dl_X3_readProduct 27 rfl) rfl rfl ?_
          refine s_getI (pc := 56) fl_X3_26 lk_LawR_8 kk_LawR_8_2 (dc dl_X3_readProduct 28 rfl) (fun v18 => ?_)
          refine s_sipush (pc := 59) (v := 303) (dc dl_X3_readProduct 29 rfl) si_303 ?_
          refine s_sipush (pc := 62) (v := 311) (dc dl_X3_readProduct 30 rfl) si_311 ?_
          refine s_calll (pc := 65) (ρ := rh0) (rest := []) hG (ss_LawR_E_rh0) (calls_SN (mi := mX3_readProduct) (As := [.int v18, .int 303, .int 311]) (rest := []) hG (dc dl_X3_readProduct 31 rfl) mo_X10_isWithin ms_X10_isWithin ml_X3_30 ⟨Nat.le_of_ble_eq_true rfl, Nat.le_of_ble_eq_true rfl⟩ rfl rfl (Nat.le_of_ble_eq_true rfl)) (cn_X10_isWithin l G hG (fun i => ad (rh0 i)) v18 303 311) rfl rfl (fun r19 => ?_)
          refine s_if_eq (pc := 68) (tgt := 93) (dc dl_X3_readProduct 32 rfl) rfl ?_ ?_
          · refine s_aload_n (pc := 93) (dc dl_X3_readProduct 43 rfl) rfl rfl ?_
            refine s_iconst (pc := 94) (v := 1) (dc dl_X3_readProduct 44 rfl) ic_1 ?_
            refine s_calll (pc := 95) (ρ := rh16) (rest := []) hG (ss_LawR_Tape_rh16) (calls_V (mi := mX3_readProduct) (o := 8) (As := [.int 1]) (rest := []) hG (dc dl_X3_readProduct 45 rfl) mo_X7_refuse mv_X7_refuse ml_X3_34 ⟨Nat.le_of_ble_eq_true rfl, Nat.le_of_ble_eq_true rfl⟩ rfl rfl (Nat.le_of_ble_eq_true rfl) lk_LawR_8 rfl) (cn_X7_refuse l G hG (fun i => ad (rh16 i)) 1) rfl rfl (fun r20 => ?_)
            exact s_zreturn (pc := 98) rfl (dc dl_X3_readProduct 46 rfl)
          · refine s_aload_n (pc := 71) (dc dl_X3_readProduct 33 rfl) rfl rfl ?_
            refine s_getR (pc := 72) fl_X3_12 lk_LawR_0 kk_LawR_0_0 (dc dl_X3_readProduct 34 rfl) ?_
            refine s_sipush (pc := 75) (v := 10000) (dc dl_X3_readProduct 35 rfl) si_10000 ?_
            refine s_aload_n (pc := 78) (dc dl_X3_readProduct 36 rfl) rfl rfl ?_
            refine s_getI (pc := 79) fl_X3_26 lk_LawR_8 kk_LawR_8_2 (dc dl_X3_readProduct 37 rfl) (fun v21 => ?_)
            refine s_iadd (pc := 82) (dc dl_X3_readProduct 38 rfl) ?_
            refine s_sipush (pc := 83) (v := 303) (dc dl_X3_readProduct 39 rfl) si_303 ?_
            refine s_isub (pc := 86) (dc dl_X3_readProduct 40 rfl) ?_
            refine s_calllv (pc := 87) (ρ := rh17) (rest := []) hG (ss_LawR_Law_rh17) (calls_V (mi := mX3_readProduct) (o := 1) (As := [.int ((10000 + v21) - 303)]) (rest := []) hG (dc dl_X3_readProduct 41 rfl) mo_X2_put mv_X2_put ml_X3_62 ⟨Nat.le_of_ble_eq_true rfl, Nat.le_of_ble_eq_true rfl⟩ rfl rfl (Nat.le_of_ble_eq_true rfl) lk_LawR_1 rfl) (cn_X2_put l G hG (fun i => ad (rh17 i)) ((10000 + v21) - 303)) rfl rfl (fun r22 => ?_)
            refine s_goto (pc := 90) (tgt := 99) (dc dl_X3_readProduct 42 rfl) rfl ?_
            exact s_wk (hj6 ()) rfl
    · refine s_icmp_ne (pc := 15) (tgt := 31) (dc dl_X3_readProduct 9 rfl) rfl ?_ ?_
      · refine s_aload_n (pc := 18) (dc dl_X3_readProduct 10 rfl) rfl rfl ?_
        refine s_iconst (pc := 19) (v := 1) (dc dl_X3_readProduct 11 rfl) ic_1 ?_
        refine s_sipush (pc := 20) (v := 9999) (dc dl_X3_readProduct 12 rfl) si_9999 ?_
        refine s_calll (pc := 23) (ρ := rh16) (rest := []) hG (ss_LawR_Tape_rh16) (calls_V (mi := mX3_readProduct) (o := 8) (As := [.int 1, .int 9999]) (rest := []) hG (dc dl_X3_readProduct 13 rfl) mo_X7_isNumber mv_X7_isNumber ml_X3_69 ⟨Nat.le_of_ble_eq_true rfl, Nat.le_of_ble_eq_true rfl⟩ rfl rfl (Nat.le_of_ble_eq_true rfl) lk_LawR_8 rfl) (cn_X7_isNumber l G hG (fun i => ad (rh16 i)) 1 9999) rfl rfl (fun r25 => ?_)
        refine s_if_ne (pc := 26) (tgt := 31) (dc dl_X3_readProduct 14 rfl) rfl ?_ ?_
        · refine s_iconst (pc := 29) (v := 0) (dc dl_X3_readProduct 15 rfl) ic_0 ?_
          exact s_zreturn (pc := 30) rfl (dc dl_X3_readProduct 16 rfl)
        · exact s_wk (hj3 ()) rfl
      · exact s_wk (hj3 ()) rfl
def gX3_readSum : MM Int32 :=
  loopC 100000 (fun (self1 : (Int32 × Int32) → MM Int32) (s2 : Int32 × Int32) =>
  (if 400 ≤ s2.2 then
  rz 1
  else
  bd gX3_readProduct fun r3 =>
  (if r3 = 0 then
  rz 0
  else
  jn (fun (a5 : Unit) =>
  bd (ld 8 2) fun v6 =>
  jn (fun (a8 : Int32) =>
  (if a8 = ((-1)) then
  rz 1
  else
  bd (lf rh16 2 gX7_next) fun r9 =>
  lt (s2.2 + 1) fun y10 =>
  self1 (a8, y10))) (fun j7 =>
  (if v6 = 43 then
  j7 10010
  else
  bd (ld 8 2) fun v11 =>
  (if v11 = 45 then
  j7 10011
  else
  j7 ((-1)))))) (fun j4 =>
  (if s2.1 = ((-1)) then
  j4 ()
  else
  bd (lf rh17 7 (gX2_put s2.1)) fun r12 =>
  j4 ()))))) (((-1)), 0)
set_option maxHeartbeats 4000000 in
theorem cn_X3_readSum (l : Launch) (G : Gl) (hG : gOk G) (ad : Nat → Nat) : Cn l G mX3_readSum 7 lay_LawR ad [.ref (ad 0), .ref (ad 8)] (gX3_readSum) := by
  refine cn_of (lv := [some (.ref (ad 0)), some (.ref (ad 8)), none, none]) (by decide +kernel) rfl (Nat.le_of_ble_eq_true rfl) rfl ?_
  unfold gX3_readSum
  refine s_iconst (pc := 0) (v := (-1)) (dc dl_X3_readSum 0 rfl) ic_m1 ?_
  refine s_istore_n (pc := 1) (lv' := [some (.ref (ad 0)), some (.ref (ad 8)), some (.int ((-1))), none]) (dc dl_X3_readSum 1 rfl) rfl (Nat.le_of_ble_eq_true rfl) rfl ?_
  refine s_iconst (pc := 2) (v := 0) (dc dl_X3_readSum 2 rfl) ic_0 ?_
  refine s_istore_n (pc := 3) (lv' := [some (.ref (ad 0)), some (.ref (ad 8)), some (.int ((-1))), some (.int 0)]) (dc dl_X3_readSum 3 rfl) rfl (Nat.le_of_ble_eq_true rfl) rfl ?_
  refine s_weak (lv' := [some (.ref (ad 0)), some (.ref (ad 8)), some (.int ((-1))), some (.int 0)]) rfl ?_
  refine s_loop (pc := 4) (fun s2 : Int32 × Int32 => [some (.ref (ad 0)), some (.ref (ad 8)), some (.int s2.1), some (.int s2.2)]) [] (fun self1 hself1 s2 => ?_) _ (((-1)), 0)
  refine s_iload_n (pc := 4) (dc dl_X3_readSum 4 rfl) rfl rfl ?_
  refine s_sipush (pc := 5) (v := 400) (dc dl_X3_readSum 5 rfl) si_400 ?_
  refine s_icmp_ge (pc := 8) (tgt := 83) (dc dl_X3_readSum 6 rfl) rfl ?_ ?_
  · refine s_iconst (pc := 83) (v := 1) (dc dl_X3_readSum 43 rfl) ic_1 ?_
    exact s_zreturn (pc := 84) rfl (dc dl_X3_readSum 44 rfl)
  · refine s_aload_n (pc := 11) (dc dl_X3_readSum 7 rfl) rfl rfl ?_
    refine s_aload_n (pc := 12) (dc dl_X3_readSum 8 rfl) rfl rfl ?_
    refine s_call (pc := 13) (rest := []) hG (calls_V (mi := mX3_readSum) (o := 0) (As := [.ref (ad 8)]) (rest := []) hG (dc dl_X3_readSum 9 rfl) mo_X3_readProduct mv_X3_readProduct ml_X3_66 ⟨Nat.le_of_ble_eq_true rfl, Nat.le_of_ble_eq_true rfl⟩ rfl rfl (Nat.le_of_ble_eq_true rfl) lk_LawR_0 rfl) (cn_X3_readProduct l G hG ad) rfl (fun r3 => ?_)
    refine s_if_ne (pc := 16) (tgt := 21) (dc dl_X3_readSum 10 rfl) rfl ?_ ?_
    · refine s_iconst (pc := 19) (v := 0) (dc dl_X3_readSum 11 rfl) ic_0 ?_
      exact s_zreturn (pc := 20) rfl (dc dl_X3_readSum 12 rfl)
    · refine s_iload_n (pc := 21) (dc dl_X3_readSum 13 rfl) rfl rfl ?_
      refine s_iconst (pc := 22) (v := (-1)) (dc dl_X3_readSum 14 rfl) ic_m1 ?_
      refine s_jn (pj := 34) (fun a5 : Unit => [some (.ref (ad 0)), some (.ref (ad 8)), none, some (.int s2.2)]) (fun a5 : Unit => []) (fun a5 => ?_) (fun j4 hj4 => ?_)
      · refine s_aload_n (pc := 34) (dc dl_X3_readSum 20 rfl) rfl rfl ?_
        refine s_getI (pc := 35) fl_X3_26 lk_LawR_8 kk_LawR_8_2 (dc dl_X3_readSum 21 rfl) (fun v6 => ?_)
        refine s_bipush (pc := 38) (v := 43) (dc dl_X3_readSum 22 rfl) bi_43 ?_
        refine s_jn (pj := 65) (fun a8 : Int32 => [some (.ref (ad 0)), some (.ref (ad 8)), none, some (.int s2.2)]) (fun a8 : Int32 => [.int a8]) (fun a8 => ?_) (fun j7 hj7 => ?_)
        · refine s_istore_n (pc := 65) (lv' := [some (.ref (ad 0)), some (.ref (ad 8)), some (.int a8), some (.int s2.2)]) (dc dl_X3_readSum 33 rfl) rfl (Nat.le_of_ble_eq_true rfl) rfl ?_
          refine s_iload_n (pc := 66) (dc dl_X3_readSum 34 rfl) rfl rfl ?_
          refine s_iconst (pc := 67) (v := (-1)) (dc dl_X3_readSum 35 rfl) ic_m1 ?_
          refine s_icmp_ne (pc := 68) (tgt := 73) (dc dl_X3_readSum 36 rfl) rfl ?_ ?_
          · refine s_iconst (pc := 71) (v := 1) (dc dl_X3_readSum 37 rfl) ic_1 ?_
            exact s_zreturn (pc := 72) rfl (dc dl_X3_readSum 38 rfl)
          · refine s_aload_n (pc := 73) (dc dl_X3_readSum 39 rfl) rfl rfl ?_
            refine s_calllv (pc := 74) (ρ := rh16) (rest := []) hG (ss_LawR_Tape_rh16) (calls_V (mi := mX3_readSum) (o := 8) (As := []) (rest := []) hG (dc dl_X3_readSum 40 rfl) mo_X7_next mv_X7_next ml_X3_21 ⟨Nat.le_of_ble_eq_true rfl, Nat.le_of_ble_eq_true rfl⟩ rfl rfl (Nat.le_of_ble_eq_true rfl) lk_LawR_8 rfl) (cn_X7_next l G hG (fun i => ad (rh16 i))) rfl rfl (fun r9 => ?_)
            refine s_iincL (pc := 77) (lf' := fun y10 => [some (.ref (ad 0)), some (.ref (ad 8)), some (.int a8), some (.int y10)]) (dc dl_X3_readSum 41 rfl) rfl rfl (Nat.le_of_ble_eq_true rfl) (fun _ => rfl) (fun y10 => ?_)
            refine s_goto (pc := 80) (tgt := 4) (dc dl_X3_readSum 42 rfl) rfl ?_
            exact s_wk (hself1 (a8, y10)) rfl
        · refine s_icmp_ne (pc := 40) (tgt := 49) (dc dl_X3_readSum 23 rfl) rfl ?_ ?_
          · refine s_sipush (pc := 43) (v := 10010) (dc dl_X3_readSum 24 rfl) si_10010 ?_
            refine s_goto (pc := 46) (tgt := 65) (dc dl_X3_readSum 25 rfl) rfl ?_
            exact s_wk (hj7 10010) rfl
          · refine s_aload_n (pc := 49) (dc dl_X3_readSum 26 rfl) rfl rfl ?_
            refine s_getI (pc := 50) fl_X3_26 lk_LawR_8 kk_LawR_8_2 (dc dl_X3_readSum 27 rfl) (fun v11 => ?_)
            refine s_bipush (pc := 53) (v := 45) (dc dl_X3_readSum 28 rfl) bi_45 ?_
            refine s_icmp_ne (pc := 55) (tgt := 64) (dc dl_X3_readSum 29 rfl) rfl ?_ ?_
            · refine s_sipush (pc := 58) (v := 10011) (dc dl_X3_readSum 30 rfl) si_10011 ?_
              refine s_goto (pc := 61) (tgt := 65) (dc dl_X3_readSum 31 rfl) rfl ?_
              exact s_wk (hj7 10011) rfl
            · refine s_iconst (pc := 64) (v := (-1)) (dc dl_X3_readSum 32 rfl) ic_m1 ?_
              exact s_wk (hj7 ((-1))) rfl
      · refine s_icmp_eq (pc := 23) (tgt := 34) (dc dl_X3_readSum 15 rfl) rfl ?_ ?_
        · exact s_wk (hj4 ()) rfl
        · refine s_aload_n (pc := 26) (dc dl_X3_readSum 16 rfl) rfl rfl ?_
          refine s_getR (pc := 27) fl_X3_12 lk_LawR_0 kk_LawR_0_0 (dc dl_X3_readSum 17 rfl) ?_
          refine s_iload_n (pc := 30) (dc dl_X3_readSum 18 rfl) rfl rfl ?_
          refine s_calllv (pc := 31) (ρ := rh17) (rest := []) hG (ss_LawR_Law_rh17) (calls_V (mi := mX3_readSum) (o := 1) (As := [.int s2.1]) (rest := []) hG (dc dl_X3_readSum 19 rfl) mo_X2_put mv_X2_put ml_X3_62 ⟨Nat.le_of_ble_eq_true rfl, Nat.le_of_ble_eq_true rfl⟩ rfl rfl (Nat.le_of_ble_eq_true rfl) lk_LawR_1 rfl) (cn_X2_put l G hG (fun i => ad (rh17 i)) s2.1) rfl rfl (fun r12 => ?_)
          exact s_wk (hj4 ()) rfl
def bX3_readCondition (rk : Int32 → MM Int32) (x2 : Int32) : MM Int32 :=
  loopC 100000 (fun (self1 : (Int32 × Int32 × Int32) → MM Int32) (s2 : Int32 × Int32 × Int32) =>
  (if 400 ≤ s2.2.2 then
  rz 1
  else
  bd (rk x2) fun r3 =>
  (if r3 = 0 then
  rz 0
  else
  jn (fun (a5 : Unit) =>
  bd (ld 8 2) fun v6 =>
  jn (fun (a8 : Int32) =>
  jn (fun (a10 : Int32) =>
  bd (lf rh16 2 gX7_next) fun r11 =>
  lt (s2.2.2 + 1) fun y12 =>
  self1 (a10, a8, y12)) (fun j9 =>
  (if a8 = 0 then
  jn (fun (a14 : Unit) =>
  bd (ld 8 2) fun v15 =>
  (if v15 = 317 then
  j9 1
  else
  rz 1)) (fun j13 =>
  (if s2.1 = 0 then
  j13 ()
  else
  bd (lf rh17 7 (gX2_put 10018)) fun r16 =>
  j13 ()))
  else
  j9 s2.1))) (fun j7 =>
  (if v6 = 318 then
  j7 1
  else
  j7 0))) (fun j4 =>
  (if s2.2.1 = 0 then
  j4 ()
  else
  bd (lf rh17 7 (gX2_put 10017)) fun r17 =>
  j4 ()))))) (0, 0, 0)
set_option maxHeartbeats 4000000 in
theorem cb_X3_readCondition (l : Launch) (G : Gl) (hG : gOk G) (n : Nat) (rk : Int32 → MM Int32) (hrk : ∀ (ad : Nat → Nat) (x2 : Int32), Cn l G mX3_readClaim (8 + n) lay_LawR ad [.ref (ad 0), .ref (ad 8), .int x2] (rk x2)) : ∀ (ad : Nat → Nat) (x2 : Int32), Cn l G mX3_readCondition (8 + (n + 1)) lay_LawR ad [.ref (ad 0), .ref (ad 8), .int x2] (bX3_readCondition rk x2) := by
  intro ad x2
  refine cn_of (lv := [some (.ref (ad 0)), some (.ref (ad 8)), some (.int x2), none, none, none]) (by decide +kernel) rfl (Nat.le_of_ble_eq_true rfl) rfl ?_
  unfold bX3_readCondition
  refine s_iconst (pc := 0) (v := 0) (dc dl_X3_readCondition 0 rfl) ic_0 ?_
  refine s_istore_n (pc := 1) (lv' := [some (.ref (ad 0)), some (.ref (ad 8)), some (.int x2), some (.int 0), none, none]) (dc dl_X3_readCondition 1 rfl) rfl (Nat.le_of_ble_eq_true rfl) rfl ?_
  refine s_iconst (pc := 2) (v := 0) (dc dl_X3_readCondition 2 rfl) ic_0 ?_
  refine s_istore (pc := 3) (lv' := [some (.ref (ad 0)), some (.ref (ad 8)), some (.int x2), some (.int 0), some (.int 0), none]) (dc dl_X3_readCondition 3 rfl) (Nat.le_of_ble_eq_true rfl) rfl ?_
  refine s_iconst (pc := 5) (v := 0) (dc dl_X3_readCondition 4 rfl) ic_0 ?_
  refine s_istore (pc := 6) (lv' := [some (.ref (ad 0)), some (.ref (ad 8)), some (.int x2), some (.int 0), some (.int 0), some (.int 0)]) (dc dl_X3_readCondition 5 rfl) (Nat.le_of_ble_eq_true rfl) rfl ?_
  refine s_weak (lv' := [some (.ref (ad 0)), some (.ref (ad 8)), some (.int x2), some (.int 0), some (.int 0), some (.int 0)]) rfl ?_
  refine s_loop (pc := 8) (fun s2 : Int32 × Int32 × Int32 => [some (.ref (ad 0)), some (.ref (ad 8)), some (.int x2), some (.int s2.1), some (.int s2.2.1), some (.int s2.2.2)]) [] (fun self1 hself1 s2 => ?_) _ (0, 0, 0)
  refine s_iload (pc := 8) (dc dl_X3_readCondition 6 rfl) rfl ?_
  refine s_sipush (pc := 10) (v := 400) (dc dl_X3_readCondition 7 rfl) si_400 ?_
  refine s_icmp_ge (pc := 13) (tgt := 102) (dc dl_X3_readCondition 8 rfl) rfl ?_ ?_
  · refine s_iconst (pc := 102) (v := 1) (dc dl_X3_readCondition 50 rfl) ic_1 ?_
    exact s_zreturn (pc := 103) rfl (dc dl_X3_readCondition 51 rfl)
  · refine s_aload_n (pc := 16) (dc dl_X3_readCondition 9 rfl) rfl rfl ?_
    refine s_aload_n (pc := 17) (dc dl_X3_readCondition 10 rfl) rfl rfl ?_
    refine s_iload_n (pc := 18) (dc dl_X3_readCondition 11 rfl) rfl rfl ?_
    refine s_call (pc := 19) (rest := []) hG (calls_V (mi := mX3_readCondition) (o := 0) (As := [.ref (ad 8), .int x2]) (rest := []) hG (dc dl_X3_readCondition 12 rfl) mo_X3_readClaim mv_X3_readClaim ml_X3_59 ⟨by omega, Nat.le_of_ble_eq_true rfl⟩ rfl rfl (Nat.le_of_ble_eq_true rfl) lk_LawR_0 rfl) (@hrk ad x2) rfl (fun r3 => ?_)
    refine s_if_ne (pc := 22) (tgt := 27) (dc dl_X3_readCondition 13 rfl) rfl ?_ ?_
    · refine s_iconst (pc := 25) (v := 0) (dc dl_X3_readCondition 14 rfl) ic_0 ?_
      exact s_zreturn (pc := 26) rfl (dc dl_X3_readCondition 15 rfl)
    · refine s_iload (pc := 27) (dc dl_X3_readCondition 16 rfl) rfl ?_
      refine s_jn (pj := 42) (fun a5 : Unit => [some (.ref (ad 0)), some (.ref (ad 8)), some (.int x2), some (.int s2.1), none, some (.int s2.2.2)]) (fun a5 : Unit => []) (fun a5 => ?_) (fun j4 hj4 => ?_)
      · refine s_aload_n (pc := 42) (dc dl_X3_readCondition 22 rfl) rfl rfl ?_
        refine s_getI (pc := 43) fl_X3_26 lk_LawR_8 kk_LawR_8_2 (dc dl_X3_readCondition 23 rfl) (fun v6 => ?_)
        refine s_sipush (pc := 46) (v := 318) (dc dl_X3_readCondition 24 rfl) si_318 ?_
        refine s_jn (pj := 57) (fun a8 : Int32 => [some (.ref (ad 0)), some (.ref (ad 8)), some (.int x2), some (.int s2.1), none, some (.int s2.2.2)]) (fun a8 : Int32 => [.int a8]) (fun a8 => ?_) (fun j7 hj7 => ?_)
        · refine s_istore (pc := 57) (lv' := [some (.ref (ad 0)), some (.ref (ad 8)), some (.int x2), some (.int s2.1), some (.int a8), some (.int s2.2.2)]) (dc dl_X3_readCondition 29 rfl) (Nat.le_of_ble_eq_true rfl) rfl ?_
          refine s_iload (pc := 59) (dc dl_X3_readCondition 30 rfl) rfl ?_
          refine s_jn (pj := 92) (fun a10 : Int32 => [some (.ref (ad 0)), some (.ref (ad 8)), some (.int x2), some (.int a10), some (.int a8), some (.int s2.2.2)]) (fun a10 : Int32 => []) (fun a10 => ?_) (fun j9 hj9 => ?_)
          · refine s_aload_n (pc := 92) (dc dl_X3_readCondition 46 rfl) rfl rfl ?_
            refine s_calllv (pc := 93) (ρ := rh16) (rest := []) hG (ss_LawR_Tape_rh16) (calls_V (mi := mX3_readCondition) (o := 8) (As := []) (rest := []) hG (dc dl_X3_readCondition 47 rfl) mo_X7_next mv_X7_next ml_X3_21 ⟨by omega, Nat.le_of_ble_eq_true rfl⟩ rfl rfl (Nat.le_of_ble_eq_true rfl) lk_LawR_8 rfl) (cn_X7_next l G hG (fun i => ad (rh16 i))) rfl rfl (fun r11 => ?_)
            refine s_iincL (pc := 96) (lf' := fun y12 => [some (.ref (ad 0)), some (.ref (ad 8)), some (.int x2), some (.int a10), some (.int a8), some (.int y12)]) (dc dl_X3_readCondition 48 rfl) rfl rfl (Nat.le_of_ble_eq_true rfl) (fun _ => rfl) (fun y12 => ?_)
            refine s_goto (pc := 99) (tgt := 8) (dc dl_X3_readCondition 49 rfl) rfl ?_
            exact s_wk (hself1 (a10, a8, y12)) rfl
          · refine s_if_ne (pc := 61) (tgt := 92) (dc dl_X3_readCondition 31 rfl) rfl ?_ ?_
            · refine s_iload_n (pc := 64) (dc dl_X3_readCondition 32 rfl) rfl rfl ?_
              refine s_jn (pj := 78) (fun a14 : Unit => [some (.ref (ad 0)), some (.ref (ad 8)), some (.int x2), none, some (.int a8), some (.int s2.2.2)]) (fun a14 : Unit => []) (fun a14 => ?_) (fun j13 hj13 => ?_)
              · refine s_iconst (pc := 78) (v := 1) (dc dl_X3_readCondition 38 rfl) ic_1 ?_
                refine s_istore_n (pc := 79) (lv' := [some (.ref (ad 0)), some (.ref (ad 8)), some (.int x2), some (.int 1), some (.int a8), some (.int s2.2.2)]) (dc dl_X3_readCondition 39 rfl) rfl (Nat.le_of_ble_eq_true rfl) rfl ?_
                refine s_aload_n (pc := 80) (dc dl_X3_readCondition 40 rfl) rfl rfl ?_
                refine s_getI (pc := 81) fl_X3_26 lk_LawR_8 kk_LawR_8_2 (dc dl_X3_readCondition 41 rfl) (fun v15 => ?_)
                refine s_sipush (pc := 84) (v := 317) (dc dl_X3_readCondition 42 rfl) si_317 ?_
                refine s_icmp_eq (pc := 87) (tgt := 92) (dc dl_X3_readCondition 43 rfl) rfl ?_ ?_
                · exact s_wk (hj9 1) rfl
                · refine s_iconst (pc := 90) (v := 1) (dc dl_X3_readCondition 44 rfl) ic_1 ?_
                  exact s_zreturn (pc := 91) rfl (dc dl_X3_readCondition 45 rfl)
              · refine s_if_eq (pc := 65) (tgt := 78) (dc dl_X3_readCondition 33 rfl) rfl ?_ ?_
                · exact s_wk (hj13 ()) rfl
                · refine s_aload_n (pc := 68) (dc dl_X3_readCondition 34 rfl) rfl rfl ?_
                  refine s_getR (pc := 69) fl_X3_12 lk_LawR_0 kk_LawR_0_0 (dc dl_X3_readCondition 35 rfl) ?_
                  refine s_sipush (pc := 72) (v := 10018) (dc dl_X3_readCondition 36 rfl) si_10018 ?_
                  refine s_calllv (pc := 75) (ρ := rh17) (rest := []) hG (ss_LawR_Law_rh17) (calls_V (mi := mX3_readCondition) (o := 1) (As := [.int 10018]) (rest := []) hG (dc dl_X3_readCondition 37 rfl) mo_X2_put mv_X2_put ml_X3_62 ⟨by omega, Nat.le_of_ble_eq_true rfl⟩ rfl rfl (Nat.le_of_ble_eq_true rfl) lk_LawR_1 rfl) (cn_X2_put l G hG (fun i => ad (rh17 i)) 10018) rfl rfl (fun r16 => ?_)
                  exact s_wk (hj13 ()) rfl
            · exact s_wk (hj9 s2.1) rfl
        · refine s_icmp_ne (pc := 49) (tgt := 56) (dc dl_X3_readCondition 25 rfl) rfl ?_ ?_
          · refine s_iconst (pc := 52) (v := 1) (dc dl_X3_readCondition 26 rfl) ic_1 ?_
            refine s_goto (pc := 53) (tgt := 57) (dc dl_X3_readCondition 27 rfl) rfl ?_
            exact s_wk (hj7 1) rfl
          · refine s_iconst (pc := 56) (v := 0) (dc dl_X3_readCondition 28 rfl) ic_0 ?_
            exact s_wk (hj7 0) rfl
      · refine s_if_eq (pc := 29) (tgt := 42) (dc dl_X3_readCondition 17 rfl) rfl ?_ ?_
        · exact s_wk (hj4 ()) rfl
        · refine s_aload_n (pc := 32) (dc dl_X3_readCondition 18 rfl) rfl rfl ?_
          refine s_getR (pc := 33) fl_X3_12 lk_LawR_0 kk_LawR_0_0 (dc dl_X3_readCondition 19 rfl) ?_
          refine s_sipush (pc := 36) (v := 10017) (dc dl_X3_readCondition 20 rfl) si_10017 ?_
          refine s_calllv (pc := 39) (ρ := rh17) (rest := []) hG (ss_LawR_Law_rh17) (calls_V (mi := mX3_readCondition) (o := 1) (As := [.int 10017]) (rest := []) hG (dc dl_X3_readCondition 21 rfl) mo_X2_put mv_X2_put ml_X3_62 ⟨by omega, Nat.le_of_ble_eq_true rfl⟩ rfl rfl (Nat.le_of_ble_eq_true rfl) lk_LawR_1 rfl) (cn_X2_put l G hG (fun i => ad (rh17 i)) 10017) rfl rfl (fun r17 => ?_)
          exact s_wk (hj4 ()) rfl
def bX3_readClaim (rc : Int32 → MM Int32) (rk : Int32 → MM Int32) (x2 : Int32) : MM Int32 :=
  bd (ld 8 2) fun v1 =>
  jn (fun (a3 : Unit) =>
  (if x2 < 8 then
  bd (lf rh16 2 gX7_next) fun r4 =>
  (if v1 = 40 then
  bd (rc (x2 + 1)) fun r7 =>
  jn (fun (a9 : Int32) =>
  rz a9) (fun j8 =>
  jn (fun (a11 : Unit) =>
  j8 0) (fun j10 =>
  (if r7 = 0 then
  j10 ()
  else
  bd (lf rh16 2 (gX7_take 41)) fun r12 =>
  (if r12 = 0 then
  j10 ()
  else
  j8 1))))
  else
  bd (rk (x2 + 1)) fun r5 =>
  (if r5 = 0 then
  rz 0
  else
  bd (lf rh17 7 (gX2_put 10019)) fun r6 =>
  rz 1))
  else
  bd (lf rh16 2 (gX7_refuse 3)) fun r13 =>
  rz r13)) (fun j2 =>
  (if v1 = 319 then
  j2 ()
  else
  (if v1 = 40 then
  j2 ()
  else
  bd gX3_readSum fun r14 =>
  (if r14 = 0 then
  rz 0
  else
  bd (ld 8 2) fun v15 =>
  jn (fun (a17 : Int32) =>
  (if a17 = ((-1)) then
  bd (lf rh16 2 (gX7_refuse 1)) fun r21 =>
  rz r21
  else
  bd (lf rh16 2 gX7_next) fun r18 =>
  bd gX3_readSum fun r19 =>
  (if r19 = 0 then
  rz 0
  else
  bd (lf rh17 7 (gX2_put a17)) fun r20 =>
  rz 1))) (fun j16 =>
  (if v15 = 60 then
  j16 10014
  else
  bd (ld 8 2) fun v22 =>
  (if v22 = 61 then
  j16 10015
  else
  bd (ld 8 2) fun v23 =>
  (if v23 = 62 then
  j16 10016
  else
  j16 ((-1))))))))))
set_option maxHeartbeats 4000000 in
theorem cb_X3_readClaim (l : Launch) (G : Gl) (hG : gOk G) (n : Nat) (rc : Int32 → MM Int32) (rk : Int32 → MM Int32) (hrc : ∀ (ad : Nat → Nat) (x2 : Int32), Cn l G mX3_readCondition (8 + n) lay_LawR ad [.ref (ad 0), .ref (ad 8), .int x2] (rc x2)) (hrk : ∀ (ad : Nat → Nat) (x2 : Int32), Cn l G mX3_readClaim (8 + n) lay_LawR ad [.ref (ad 0), .ref (ad 8), .int x2] (rk x2)) : ∀ (ad : Nat → Nat) (x2 : Int32), Cn l G mX3_readClaim (8 + (n + 1)) lay_LawR ad [.ref (ad 0), .ref (ad 8), .int x2] (bX3_readClaim rc rk x2) := by
  intro ad x2
  refine cn_of (lv := [some (.ref (ad 0)), some (.ref (ad 8)), some (.int x2), none, none]) (by decide +kernel) rfl (Nat.le_of_ble_eq_true rfl) rfl ?_
  unfold bX3_readClaim
  refine s_aload_n (pc := 0) (dc dl_X3_readClaim 0 rfl) rfl rfl ?_
  refine s_getI (pc := 1) fl_X3_26 lk_LawR_8 kk_LawR_8_2 (dc dl_X3_readClaim 1 rfl) (fun v1 => ?_)
  refine s_istore_n (pc := 4) (lv' := [some (.ref (ad 0)), some (.ref (ad 8)), some (.int x2), some (.int v1), none]) (dc dl_X3_readClaim 2 rfl) rfl (Nat.le_of_ble_eq_true rfl) rfl ?_
  refine s_iload_n (pc := 5) (dc dl_X3_readClaim 3 rfl) rfl rfl ?_
  refine s_sipush (pc := 6) (v := 319) (dc dl_X3_readClaim 4 rfl) si_319 ?_
  refine s_jn (pj := 18) (fun a3 : Unit => [some (.ref (ad 0)), some (.ref (ad 8)), some (.int x2), some (.int v1), none]) (fun a3 : Unit => []) (fun a3 => ?_) (fun j2 hj2 => ?_)
  · refine s_iload_n (pc := 18) (dc dl_X3_readClaim 9 rfl) rfl rfl ?_
    refine s_bipush (pc := 19) (v := 8) (dc dl_X3_readClaim 10 rfl) bi_8 ?_
    refine s_icmp_lt (pc := 21) (tgt := 30) (dc dl_X3_readClaim 11 rfl) rfl ?_ ?_
    · refine s_aload_n (pc := 30) (dc dl_X3_readClaim 16 rfl) rfl rfl ?_
      refine s_calllv (pc := 31) (ρ := rh16) (rest := []) hG (ss_LawR_Tape_rh16) (calls_V (mi := mX3_readClaim) (o := 8) (As := []) (rest := []) hG (dc dl_X3_readClaim 17 rfl) mo_X7_next mv_X7_next ml_X3_21 ⟨by omega, Nat.le_of_ble_eq_true rfl⟩ rfl rfl (Nat.le_of_ble_eq_true rfl) lk_LawR_8 rfl) (cn_X7_next l G hG (fun i => ad (rh16 i))) rfl rfl (fun r4 => ?_)
      refine s_iload_n (pc := 34) (dc dl_X3_readClaim 18 rfl) rfl rfl ?_
      refine s_bipush (pc := 35) (v := 40) (dc dl_X3_readClaim 19 rfl) bi_40 ?_
      refine s_icmp_ne (pc := 37) (tgt := 66) (dc dl_X3_readClaim 20 rfl) rfl ?_ ?_
      · refine s_aload_n (pc := 40) (dc dl_X3_readClaim 21 rfl) rfl rfl ?_
        refine s_aload_n (pc := 41) (dc dl_X3_readClaim 22 rfl) rfl rfl ?_
        refine s_iload_n (pc := 42) (dc dl_X3_readClaim 23 rfl) rfl rfl ?_
        refine s_iconst (pc := 43) (v := 1) (dc dl_X3_readClaim 24 rfl) ic_1 ?_
        refine s_iadd (pc := 44) (dc dl_X3_readClaim 25 rfl) ?_
        refine s_call (pc := 45) (rest := []) hG (calls_V (mi := mX3_readClaim) (o := 0) (As := [.ref (ad 8), .int (x2 + 1)]) (rest := []) hG (dc dl_X3_readClaim 26 rfl) mo_X3_readCondition mv_X3_readCondition ml_X3_48 ⟨by omega, Nat.le_of_ble_eq_true rfl⟩ rfl rfl (Nat.le_of_ble_eq_true rfl) lk_LawR_0 rfl) (@hrc ad (x2 + 1)) rfl (fun r7 => ?_)
        refine s_jn (pj := 65) (fun a9 : Int32 => [none, none, none, none, none]) (fun a9 : Int32 => [.int a9]) (fun a9 => ?_) (fun j8 hj8 => ?_)
        · exact s_zreturn (pc := 65) rfl (dc dl_X3_readClaim 35 rfl)
        · refine s_jn (pj := 64) (fun a11 : Unit => [none, none, none, none, none]) (fun a11 : Unit => []) (fun a11 => ?_) (fun j10 hj10 => ?_)
          · refine s_iconst (pc := 64) (v := 0) (dc dl_X3_readClaim 34 rfl) ic_0 ?_
            exact s_wk (hj8 0) rfl
          · refine s_if_eq (pc := 48) (tgt := 64) (dc dl_X3_readClaim 27 rfl) rfl ?_ ?_
            · exact s_wk (hj10 ()) rfl
            · refine s_aload_n (pc := 51) (dc dl_X3_readClaim 28 rfl) rfl rfl ?_
              refine s_bipush (pc := 52) (v := 41) (dc dl_X3_readClaim 29 rfl) bi_41 ?_
              refine s_calll (pc := 54) (ρ := rh16) (rest := []) hG (ss_LawR_Tape_rh16) (calls_V (mi := mX3_readClaim) (o := 8) (As := [.int 41]) (rest := []) hG (dc dl_X3_readClaim 30 rfl) mo_X7_take mv_X7_take ml_X3_52 ⟨by omega, Nat.le_of_ble_eq_true rfl⟩ rfl rfl (Nat.le_of_ble_eq_true rfl) lk_LawR_8 rfl) (cn_X7_take l G hG (fun i => ad (rh16 i)) 41) rfl rfl (fun r12 => ?_)
              refine s_if_eq (pc := 57) (tgt := 64) (dc dl_X3_readClaim 31 rfl) rfl ?_ ?_
              · exact s_wk (hj10 ()) rfl
              · refine s_iconst (pc := 60) (v := 1) (dc dl_X3_readClaim 32 rfl) ic_1 ?_
                refine s_goto (pc := 61) (tgt := 65) (dc dl_X3_readClaim 33 rfl) rfl ?_
                exact s_wk (hj8 1) rfl
      · refine s_aload_n (pc := 66) (dc dl_X3_readClaim 36 rfl) rfl rfl ?_
        refine s_aload_n (pc := 67) (dc dl_X3_readClaim 37 rfl) rfl rfl ?_
        refine s_iload_n (pc := 68) (dc dl_X3_readClaim 38 rfl) rfl rfl ?_
        refine s_iconst (pc := 69) (v := 1) (dc dl_X3_readClaim 39 rfl) ic_1 ?_
        refine s_iadd (pc := 70) (dc dl_X3_readClaim 40 rfl) ?_
        refine s_call (pc := 71) (rest := []) hG (calls_V (mi := mX3_readClaim) (o := 0) (As := [.ref (ad 8), .int (x2 + 1)]) (rest := []) hG (dc dl_X3_readClaim 41 rfl) mo_X3_readClaim mv_X3_readClaim ml_X3_59 ⟨by omega, Nat.le_of_ble_eq_true rfl⟩ rfl rfl (Nat.le_of_ble_eq_true rfl) lk_LawR_0 rfl) (@hrk ad (x2 + 1)) rfl (fun r5 => ?_)
        refine s_if_ne (pc := 74) (tgt := 79) (dc dl_X3_readClaim 42 rfl) rfl ?_ ?_
        · refine s_iconst (pc := 77) (v := 0) (dc dl_X3_readClaim 43 rfl) ic_0 ?_
          exact s_zreturn (pc := 78) rfl (dc dl_X3_readClaim 44 rfl)
        · refine s_aload_n (pc := 79) (dc dl_X3_readClaim 45 rfl) rfl rfl ?_
          refine s_getR (pc := 80) fl_X3_12 lk_LawR_0 kk_LawR_0_0 (dc dl_X3_readClaim 46 rfl) ?_
          refine s_sipush (pc := 83) (v := 10019) (dc dl_X3_readClaim 47 rfl) si_10019 ?_
          refine s_calllv (pc := 86) (ρ := rh17) (rest := []) hG (ss_LawR_Law_rh17) (calls_V (mi := mX3_readClaim) (o := 1) (As := [.int 10019]) (rest := []) hG (dc dl_X3_readClaim 48 rfl) mo_X2_put mv_X2_put ml_X3_62 ⟨by omega, Nat.le_of_ble_eq_true rfl⟩ rfl rfl (Nat.le_of_ble_eq_true rfl) lk_LawR_1 rfl) (cn_X2_put l G hG (fun i => ad (rh17 i)) 10019) rfl rfl (fun r6 => ?_)
          refine s_iconst (pc := 89) (v := 1) (dc dl_X3_readClaim 49 rfl) ic_1 ?_
          exact s_zreturn (pc := 90) rfl (dc dl_X3_readClaim 50 rfl)
    · refine s_aload_n (pc := 24) (dc dl_X3_readClaim 12 rfl) rfl rfl ?_
      refine s_iconst (pc := 25) (v := 3) (dc dl_X3_readClaim 13 rfl) ic_3 ?_
      refine s_calll (pc := 26) (ρ := rh16) (rest := []) hG (ss_LawR_Tape_rh16) (calls_V (mi := mX3_readClaim) (o := 8) (As := [.int 3]) (rest := []) hG (dc dl_X3_readClaim 14 rfl) mo_X7_refuse mv_X7_refuse ml_X3_34 ⟨by omega, Nat.le_of_ble_eq_true rfl⟩ rfl rfl (Nat.le_of_ble_eq_true rfl) lk_LawR_8 rfl) (cn_X7_refuse l G hG (fun i => ad (rh16 i)) 3) rfl rfl (fun r13 => ?_)
      exact s_zreturn (pc := 29) rfl (dc dl_X3_readClaim 15 rfl)
  · refine s_icmp_eq (pc := 9) (tgt := 18) (dc dl_X3_readClaim 5 rfl) rfl ?_ ?_
    · exact s_wk (hj2 ()) rfl
    · refine s_iload_n (pc := 12) (dc dl_X3_readClaim 6 rfl) rfl rfl ?_
      refine s_bipush (pc := 13) (v := 40) (dc dl_X3_readClaim 7 rfl) bi_40 ?_
      refine s_icmp_ne (pc := 15) (tgt := 91) (dc dl_X3_readClaim 8 rfl) rfl ?_ ?_
      · exact s_wk (hj2 ()) rfl
      · refine s_aload_n (pc := 91) (dc dl_X3_readClaim 51 rfl) rfl rfl ?_
        refine s_aload_n (pc := 92) (dc dl_X3_readClaim 52 rfl) rfl rfl ?_
        refine s_call (pc := 93) (rest := []) hG (calls_V (mi := mX3_readClaim) (o := 0) (As := [.ref (ad 8)]) (rest := []) hG (dc dl_X3_readClaim 53 rfl) mo_X3_readSum mv_X3_readSum ml_X3_44 ⟨by omega, Nat.le_of_ble_eq_true rfl⟩ rfl rfl (Nat.le_of_ble_eq_true rfl) lk_LawR_0 rfl) (cn_X3_readSum l G hG ad) rfl (fun r14 => ?_)
        refine s_if_ne (pc := 96) (tgt := 101) (dc dl_X3_readClaim 54 rfl) rfl ?_ ?_
        · refine s_iconst (pc := 99) (v := 0) (dc dl_X3_readClaim 55 rfl) ic_0 ?_
          exact s_zreturn (pc := 100) rfl (dc dl_X3_readClaim 56 rfl)
        · refine s_aload_n (pc := 101) (dc dl_X3_readClaim 57 rfl) rfl rfl ?_
          refine s_getI (pc := 102) fl_X3_26 lk_LawR_8 kk_LawR_8_2 (dc dl_X3_readClaim 58 rfl) (fun v15 => ?_)
          refine s_bipush (pc := 105) (v := 60) (dc dl_X3_readClaim 59 rfl) bi_60 ?_
          refine s_jn (pj := 147) (fun a17 : Int32 => [some (.ref (ad 0)), some (.ref (ad 8)), none, none, none]) (fun a17 : Int32 => [.int a17]) (fun a17 => ?_) (fun j16 hj16 => ?_)
          · refine s_istore (pc := 147) (lv' := [some (.ref (ad 0)), some (.ref (ad 8)), none, none, some (.int a17)]) (dc dl_X3_readClaim 76 rfl) (Nat.le_of_ble_eq_true rfl) rfl ?_
            refine s_iload (pc := 149) (dc dl_X3_readClaim 77 rfl) rfl ?_
            refine s_iconst (pc := 151) (v := (-1)) (dc dl_X3_readClaim 78 rfl) ic_m1 ?_
            refine s_icmp_ne (pc := 152) (tgt := 161) (dc dl_X3_readClaim 79 rfl) rfl ?_ ?_
            · refine s_aload_n (pc := 155) (dc dl_X3_readClaim 80 rfl) rfl rfl ?_
              refine s_iconst (pc := 156) (v := 1) (dc dl_X3_readClaim 81 rfl) ic_1 ?_
              refine s_calll (pc := 157) (ρ := rh16) (rest := []) hG (ss_LawR_Tape_rh16) (calls_V (mi := mX3_readClaim) (o := 8) (As := [.int 1]) (rest := []) hG (dc dl_X3_readClaim 82 rfl) mo_X7_refuse mv_X7_refuse ml_X3_34 ⟨by omega, Nat.le_of_ble_eq_true rfl⟩ rfl rfl (Nat.le_of_ble_eq_true rfl) lk_LawR_8 rfl) (cn_X7_refuse l G hG (fun i => ad (rh16 i)) 1) rfl rfl (fun r21 => ?_)
              exact s_zreturn (pc := 160) rfl (dc dl_X3_readClaim 83 rfl)
            · refine s_aload_n (pc := 161) (dc dl_X3_readClaim 84 rfl) rfl rfl ?_
              refine s_calllv (pc := 162) (ρ := rh16) (rest := []) hG (ss_LawR_Tape_rh16) (calls_V (mi := mX3_readClaim) (o := 8) (As := []) (rest := []) hG (dc dl_X3_readClaim 85 rfl) mo_X7_next mv_X7_next ml_X3_21 ⟨by omega, Nat.le_of_ble_eq_true rfl⟩ rfl rfl (Nat.le_of_ble_eq_true rfl) lk_LawR_8 rfl) (cn_X7_next l G hG (fun i => ad (rh16 i))) rfl rfl (fun r18 => ?_)
              refine s_aload_n (pc := 165) (dc dl_X3_readClaim 86 rfl) rfl rfl ?_
              refine s_aload_n (pc := 166) (dc dl_X3_readClaim 87 rfl) rfl rfl ?_
              refine s_call (pc := 167) (rest := []) hG (calls_V (mi := mX3_readClaim) (o := 0) (As := [.ref (ad 8)]) (rest := []) hG (dc dl_X3_readClaim 88 rfl) mo_X3_readSum mv_X3_readSum ml_X3_44 ⟨by omega, Nat.le_of_ble_eq_true rfl⟩ rfl rfl (Nat.le_of_ble_eq_true rfl) lk_LawR_0 rfl) (cn_X3_readSum l G hG ad) rfl (fun r19 => ?_)
              refine s_if_ne (pc := 170) (tgt := 175) (dc dl_X3_readClaim 89 rfl) rfl ?_ ?_
              · refine s_iconst (pc := 173) (v := 0) (dc dl_X3_readClaim 90 rfl) ic_0 ?_
                exact s_zreturn (pc := 174) rfl (dc dl_X3_readClaim 91 rfl)
              · refine s_aload_n (pc := 175) (dc dl_X3_readClaim 92 rfl) rfl rfl ?_
                refine s_getR (pc := 176) fl_X3_12 lk_LawR_0 kk_LawR_0_0 (dc dl_X3_readClaim 93 rfl) ?_
                refine s_iload (pc := 179) (dc dl_X3_readClaim 94 rfl) rfl ?_
                refine s_calllv (pc := 181) (ρ := rh17) (rest := []) hG (ss_LawR_Law_rh17) (calls_V (mi := mX3_readClaim) (o := 1) (As := [.int a17]) (rest := []) hG (dc dl_X3_readClaim 95 rfl) mo_X2_put mv_X2_put ml_X3_62 ⟨by omega, Nat.le_of_ble_eq_true rfl⟩ rfl rfl (Nat.le_of_ble_eq_true rfl) lk_LawR_1 rfl) (cn_X2_put l G hG (fun i => ad (rh17 i)) a17) rfl rfl (fun r20 => ?_)
                refine s_iconst (pc := 184) (v := 1) (dc dl_X3_readClaim 96 rfl) ic_1 ?_
                exact s_zreturn (pc := 185) rfl (dc dl_X3_readClaim 97 rfl)
          · refine s_icmp_ne (pc := 107) (tgt := 116) (dc dl_X3_readClaim 60 rfl) rfl ?_ ?_
            · refine s_sipush (pc := 110) (v := 10014) (dc dl_X3_readClaim 61 rfl) si_10014 ?_
              refine s_goto (pc := 113) (tgt := 147) (dc dl_X3_readClaim 62 rfl) rfl ?_
              exact s_wk (hj16 10014) rfl
            · refine s_aload_n (pc := 116) (dc dl_X3_readClaim 63 rfl) rfl rfl ?_
              refine s_getI (pc := 117) fl_X3_26 lk_LawR_8 kk_LawR_8_2 (dc dl_X3_readClaim 64 rfl) (fun v22 => ?_)
              refine s_bipush (pc := 120) (v := 61) (dc dl_X3_readClaim 65 rfl) bi_61 ?_
              refine s_icmp_ne (pc := 122) (tgt := 131) (dc dl_X3_readClaim 66 rfl) rfl ?_ ?_
              · refine s_sipush (pc := 125) (v := 10015) (dc dl_X3_readClaim 67 rfl) si_10015 ?_
                refine s_goto (pc := 128) (tgt := 147) (dc dl_X3_readClaim 68 rfl) rfl ?_
                exact s_wk (hj16 10015) rfl
              · refine s_aload_n (pc := 131) (dc dl_X3_readClaim 69 rfl) rfl rfl ?_
                refine s_getI (pc := 132) fl_X3_26 lk_LawR_8 kk_LawR_8_2 (dc dl_X3_readClaim 70 rfl) (fun v23 => ?_)
                refine s_bipush (pc := 135) (v := 62) (dc dl_X3_readClaim 71 rfl) bi_62 ?_
                refine s_icmp_ne (pc := 137) (tgt := 146) (dc dl_X3_readClaim 72 rfl) rfl ?_ ?_
                · refine s_sipush (pc := 140) (v := 10016) (dc dl_X3_readClaim 73 rfl) si_10016 ?_
                  refine s_goto (pc := 143) (tgt := 147) (dc dl_X3_readClaim 74 rfl) rfl ?_
                  exact s_wk (hj16 10016) rfl
                · refine s_iconst (pc := 146) (v := (-1)) (dc dl_X3_readClaim 75 rfl) ic_m1 ?_
                  exact s_wk (hj16 ((-1))) rfl
def gr_X3_readCondition : Nat → (Int32 → MM Int32) × (Int32 → MM Int32)
  | 0 => (fun _ => fl, fun _ => fl)
  | n + 1 => (bX3_readCondition (gr_X3_readCondition n).2, bX3_readClaim (gr_X3_readCondition n).1 (gr_X3_readCondition n).2)
theorem cr_X3_readCondition (l : Launch) (G : Gl) (hG : gOk G) : ∀ n : Nat, (∀ (ad : Nat → Nat) (x2 : Int32), Cn l G mX3_readCondition (8 + n) lay_LawR ad [.ref (ad 0), .ref (ad 8), .int x2] ((gr_X3_readCondition n).1 x2)) ∧ (∀ (ad : Nat → Nat) (x2 : Int32), Cn l G mX3_readClaim (8 + n) lay_LawR ad [.ref (ad 0), .ref (ad 8), .int x2] ((gr_X3_readCondition n).2 x2))
  | 0 => ⟨(fun _ _ _ _ _ h => (by cases h)), (fun _ _ _ _ _ h => (by cases h))⟩
  | n + 1 => by
    have ih := cr_X3_readCondition l G hG n
    exact ⟨cb_X3_readCondition l G hG n _ ih.2, cb_X3_readClaim l G hG n _ _ ih.1 ih.2⟩
def gX3_readCondition (x2 : Int32) : MM Int32 := (gr_X3_readCondition 40).1 x2
theorem cn_X3_readCondition (l : Launch) (G : Gl) (hG : gOk G) (ad : Nat → Nat) (x2 : Int32) : Cn l G mX3_readCondition 48 lay_LawR ad [.ref (ad 0), .ref (ad 8), .int x2] (gX3_readCondition x2) := (cr_X3_readCondition l G hG 40).1 ad x2
def gX3_readClaim (x2 : Int32) : MM Int32 := (gr_X3_readCondition 40).2 x2
theorem cn_X3_readClaim (l : Launch) (G : Gl) (hG : gOk G) (ad : Nat → Nat) (x2 : Int32) : Cn l G mX3_readClaim 48 lay_LawR ad [.ref (ad 0), .ref (ad 8), .int x2] (gX3_readClaim x2) := (cr_X3_readCondition l G hG 40).2 ad x2
def gX3_readLaw : MM Int32 :=
  bd (lf rh17 7 gX2_empty) fun r1 =>
  bd (lf rh16 2 gX7_next) fun r2 =>
  loopC 100000 (fun (self3 : Int32 → MM Int32) (s4 : Int32) =>
  jn (fun (a6 : Unit) =>
  rz 1) (fun j5 =>
  (if 400 ≤ s4 then
  j5 ()
  else
  bd (ld 8 2) fun v7 =>
  (if v7 = 256 then
  j5 ()
  else
  bd (ld 8 2) fun v8 =>
  lt (v8 - 300) fun y9 =>
  bd (ld 8 2) fun v10 =>
  bd (lf rh0 0 (gX10_isWithin v10 300 302)) fun r11 =>
  (if r11 = 0 then
  bd (lf rh16 2 (gX7_refuse 1)) fun r26 =>
  rz r26
  else
  bd (ld 1 0) fun v12 =>
  (if v12 < 16 then
  bd (lf rh16 2 gX7_next) fun r13 =>
  bd (ld 1 1) fun v14 =>
  bd gX3_readSum fun r15 =>
  (if r15 = 0 then
  rz 0
  else
  bd (ld 1 1) fun v16 =>
  bd (ld 8 2) fun v17 =>
  jn (fun (a19 : Unit) =>
  bd (lf rh16 2 (gX7_take 59)) fun r20 =>
  (if r20 = 0 then
  rz 0
  else
  bd (lf rh17 7 (gX2_addLine y9 v14 v16)) fun r21 =>
  lt (s4 + 1) fun y22 =>
  self3 y22)) (fun j18 =>
  (if v17 = 316 then
  bd (lf rh16 2 gX7_next) fun r23 =>
  bd (gX3_readCondition 0) fun r24 =>
  (if r24 = 0 then
  rz 0
  else
  j18 ())
  else
  j18 ())))
  else
  bd (lf rh16 2 (gX7_refuse 3)) fun r25 =>
  rz r25)))))) 0
set_option maxHeartbeats 4000000 in
theorem cn_X3_readLaw (l : Launch) (G : Gl) (hG : gOk G) (ad : Nat → Nat) : Cn l G mX3_readLaw 49 lay_LawR ad [.ref (ad 0), .ref (ad 8)] (gX3_readLaw) := by
  refine cn_of (lv := [some (.ref (ad 0)), some (.ref (ad 8)), none, none, none, none]) (by decide +kernel) rfl (Nat.le_of_ble_eq_true rfl) rfl ?_
  unfold gX3_readLaw
  refine s_aload_n (pc := 0) (dc dl_X3_readLaw 0 rfl) rfl rfl ?_
  refine s_getR (pc := 1) fl_X3_12 lk_LawR_0 kk_LawR_0_0 (dc dl_X3_readLaw 1 rfl) ?_
  refine s_calllv (pc := 4) (ρ := rh17) (rest := []) hG (ss_LawR_Law_rh17) (calls_V (mi := mX3_readLaw) (o := 1) (As := []) (rest := []) hG (dc dl_X3_readLaw 2 rfl) mo_X2_empty mv_X2_empty ml_X3_18 ⟨Nat.le_of_ble_eq_true rfl, Nat.le_of_ble_eq_true rfl⟩ rfl rfl (Nat.le_of_ble_eq_true rfl) lk_LawR_1 rfl) (cn_X2_empty l G hG (fun i => ad (rh17 i))) rfl rfl (fun r1 => ?_)
  refine s_aload_n (pc := 7) (dc dl_X3_readLaw 3 rfl) rfl rfl ?_
  refine s_calllv (pc := 8) (ρ := rh16) (rest := []) hG (ss_LawR_Tape_rh16) (calls_V (mi := mX3_readLaw) (o := 8) (As := []) (rest := []) hG (dc dl_X3_readLaw 4 rfl) mo_X7_next mv_X7_next ml_X3_21 ⟨Nat.le_of_ble_eq_true rfl, Nat.le_of_ble_eq_true rfl⟩ rfl rfl (Nat.le_of_ble_eq_true rfl) lk_LawR_8 rfl) (cn_X7_next l G hG (fun i => ad (rh16 i))) rfl rfl (fun r2 => ?_)
  refine s_iconst (pc := 11) (v := 0) (dc dl_X3_readLaw 5 rfl) ic_0 ?_
  refine s_istore_n (pc := 12) (lv' := [some (.ref (ad 0)), some (.ref (ad 8)), some (.int 0), none, none, none]) (dc dl_X3_readLaw 6 rfl) rfl (Nat.le_of_ble_eq_true rfl) rfl ?_
  refine s_weak (lv' := [some (.ref (ad 0)), some (.ref (ad 8)), some (.int 0), none, none, none]) rfl ?_
  refine s_loop (pc := 13) (fun s4 : Int32 => [some (.ref (ad 0)), some (.ref (ad 8)), some (.int s4), none, none, none]) [] (fun self3 hself3 s4 => ?_) _ 0
  refine s_iload_n (pc := 13) (dc dl_X3_readLaw 7 rfl) rfl rfl ?_
  refine s_sipush (pc := 14) (v := 400) (dc dl_X3_readLaw 8 rfl) si_400 ?_
  refine s_jn (pj := 165) (fun a6 : Unit => [none, none, none, none, none, none]) (fun a6 : Unit => []) (fun a6 => ?_) (fun j5 hj5 => ?_)
  · refine s_iconst (pc := 165) (v := 1) (dc dl_X3_readLaw 81 rfl) ic_1 ?_
    exact s_zreturn (pc := 166) rfl (dc dl_X3_readLaw 82 rfl)
  · refine s_icmp_ge (pc := 17) (tgt := 165) (dc dl_X3_readLaw 9 rfl) rfl ?_ ?_
    · exact s_wk (hj5 ()) rfl
    · refine s_aload_n (pc := 20) (dc dl_X3_readLaw 10 rfl) rfl rfl ?_
      refine s_getI (pc := 21) fl_X3_26 lk_LawR_8 kk_LawR_8_2 (dc dl_X3_readLaw 11 rfl) (fun v7 => ?_)
      refine s_sipush (pc := 24) (v := 256) (dc dl_X3_readLaw 12 rfl) si_256 ?_
      refine s_icmp_eq (pc := 27) (tgt := 165) (dc dl_X3_readLaw 13 rfl) rfl ?_ ?_
      · exact s_wk (hj5 ()) rfl
      · refine s_aload_n (pc := 30) (dc dl_X3_readLaw 14 rfl) rfl rfl ?_
        refine s_getI (pc := 31) fl_X3_26 lk_LawR_8 kk_LawR_8_2 (dc dl_X3_readLaw 15 rfl) (fun v8 => ?_)
        refine s_sipush (pc := 34) (v := 300) (dc dl_X3_readLaw 16 rfl) si_300 ?_
        refine s_isub (pc := 37) (dc dl_X3_readLaw 17 rfl) ?_
        refine s_istore_nL (pc := 38) (lf' := fun y9 => [some (.ref (ad 0)), some (.ref (ad 8)), some (.int s4), some (.int y9), none, none]) (dc dl_X3_readLaw 18 rfl) rfl (Nat.le_of_ble_eq_true rfl) (fun _ => rfl) (fun y9 => ?_)
        refine s_aload_n (pc := 39) (dc dl_X3_readLaw 19 rfl) rfl rfl ?_
        refine s_getI (pc := 40) fl_X3_26 lk_LawR_8 kk_LawR_8_2 (dc dl_X3_readLaw 20 rfl) (fun v10 => ?_)
        refine s_sipush (pc := 43) (v := 300) (dc dl_X3_readLaw 21 rfl) si_300 ?_
        refine s_sipush (pc := 46) (v := 302) (dc dl_X3_readLaw 22 rfl) si_302 ?_
        refine s_calll (pc := 49) (ρ := rh0) (rest := []) hG (ss_LawR_E_rh0) (calls_SN (mi := mX3_readLaw) (As := [.int v10, .int 300, .int 302]) (rest := []) hG (dc dl_X3_readLaw 23 rfl) mo_X10_isWithin ms_X10_isWithin ml_X3_30 ⟨Nat.le_of_ble_eq_true rfl, Nat.le_of_ble_eq_true rfl⟩ rfl rfl (Nat.le_of_ble_eq_true rfl)) (cn_X10_isWithin l G hG (fun i => ad (rh0 i)) v10 300 302) rfl rfl (fun r11 => ?_)
        refine s_if_ne (pc := 52) (tgt := 61) (dc dl_X3_readLaw 24 rfl) rfl ?_ ?_
        · refine s_aload_n (pc := 55) (dc dl_X3_readLaw 25 rfl) rfl rfl ?_
          refine s_iconst (pc := 56) (v := 1) (dc dl_X3_readLaw 26 rfl) ic_1 ?_
          refine s_calll (pc := 57) (ρ := rh16) (rest := []) hG (ss_LawR_Tape_rh16) (calls_V (mi := mX3_readLaw) (o := 8) (As := [.int 1]) (rest := []) hG (dc dl_X3_readLaw 27 rfl) mo_X7_refuse mv_X7_refuse ml_X3_34 ⟨Nat.le_of_ble_eq_true rfl, Nat.le_of_ble_eq_true rfl⟩ rfl rfl (Nat.le_of_ble_eq_true rfl) lk_LawR_8 rfl) (cn_X7_refuse l G hG (fun i => ad (rh16 i)) 1) rfl rfl (fun r26 => ?_)
          exact s_zreturn (pc := 60) rfl (dc dl_X3_readLaw 28 rfl)
        · refine s_aload_n (pc := 61) (dc dl_X3_readLaw 29 rfl) rfl rfl ?_
          refine s_getR (pc := 62) fl_X3_12 lk_LawR_0 kk_LawR_0_0 (dc dl_X3_readLaw 30 rfl) ?_
          refine s_getI (pc := 65) fl_X3_38 lk_LawR_1 kk_LawR_1_0 (dc dl_X3_readLaw 31 rfl) (fun v12 => ?_)
          refine s_bipush (pc := 68) (v := 16) (dc dl_X3_readLaw 32 rfl) bi_16 ?_
          refine s_icmp_lt (pc := 70) (tgt := 79) (dc dl_X3_readLaw 33 rfl) rfl ?_ ?_
          · refine s_aload_n (pc := 79) (dc dl_X3_readLaw 38 rfl) rfl rfl ?_
            refine s_calllv (pc := 80) (ρ := rh16) (rest := []) hG (ss_LawR_Tape_rh16) (calls_V (mi := mX3_readLaw) (o := 8) (As := []) (rest := []) hG (dc dl_X3_readLaw 39 rfl) mo_X7_next mv_X7_next ml_X3_21 ⟨Nat.le_of_ble_eq_true rfl, Nat.le_of_ble_eq_true rfl⟩ rfl rfl (Nat.le_of_ble_eq_true rfl) lk_LawR_8 rfl) (cn_X7_next l G hG (fun i => ad (rh16 i))) rfl rfl (fun r13 => ?_)
            refine s_aload_n (pc := 83) (dc dl_X3_readLaw 40 rfl) rfl rfl ?_
            refine s_getR (pc := 84) fl_X3_12 lk_LawR_0 kk_LawR_0_0 (dc dl_X3_readLaw 41 rfl) ?_
            refine s_getI (pc := 87) fl_X3_41 lk_LawR_1 kk_LawR_1_1 (dc dl_X3_readLaw 42 rfl) (fun v14 => ?_)
            refine s_istore (pc := 90) (lv' := [some (.ref (ad 0)), some (.ref (ad 8)), some (.int s4), some (.int y9), some (.int v14), none]) (dc dl_X3_readLaw 43 rfl) (Nat.le_of_ble_eq_true rfl) rfl ?_
            refine s_aload_n (pc := 92) (dc dl_X3_readLaw 44 rfl) rfl rfl ?_
            refine s_aload_n (pc := 93) (dc dl_X3_readLaw 45 rfl) rfl rfl ?_
            refine s_call (pc := 94) (rest := []) hG (calls_V (mi := mX3_readLaw) (o := 0) (As := [.ref (ad 8)]) (rest := []) hG (dc dl_X3_readLaw 46 rfl) mo_X3_readSum mv_X3_readSum ml_X3_44 ⟨Nat.le_of_ble_eq_true rfl, Nat.le_of_ble_eq_true rfl⟩ rfl rfl (Nat.le_of_ble_eq_true rfl) lk_LawR_0 rfl) (cn_X3_readSum l G hG ad) rfl (fun r15 => ?_)
            refine s_if_ne (pc := 97) (tgt := 102) (dc dl_X3_readLaw 47 rfl) rfl ?_ ?_
            · refine s_iconst (pc := 100) (v := 0) (dc dl_X3_readLaw 48 rfl) ic_0 ?_
              exact s_zreturn (pc := 101) rfl (dc dl_X3_readLaw 49 rfl)
            · refine s_aload_n (pc := 102) (dc dl_X3_readLaw 50 rfl) rfl rfl ?_
              refine s_getR (pc := 103) fl_X3_12 lk_LawR_0 kk_LawR_0_0 (dc dl_X3_readLaw 51 rfl) ?_
              refine s_getI (pc := 106) fl_X3_41 lk_LawR_1 kk_LawR_1_1 (dc dl_X3_readLaw 52 rfl) (fun v16 => ?_)
              refine s_istore (pc := 109) (lv' := [some (.ref (ad 0)), some (.ref (ad 8)), some (.int s4), some (.int y9), some (.int v14), some (.int v16)]) (dc dl_X3_readLaw 53 rfl) (Nat.le_of_ble_eq_true rfl) rfl ?_
              refine s_aload_n (pc := 111) (dc dl_X3_readLaw 54 rfl) rfl rfl ?_
              refine s_getI (pc := 112) fl_X3_26 lk_LawR_8 kk_LawR_8_2 (dc dl_X3_readLaw 55 rfl) (fun v17 => ?_)
              refine s_sipush (pc := 115) (v := 316) (dc dl_X3_readLaw 56 rfl) si_316 ?_
              refine s_jn (pj := 136) (fun a19 : Unit => [some (.ref (ad 0)), some (.ref (ad 8)), some (.int s4), some (.int y9), some (.int v14), some (.int v16)]) (fun a19 : Unit => []) (fun a19 => ?_) (fun j18 hj18 => ?_)
              · refine s_aload_n (pc := 136) (dc dl_X3_readLaw 67 rfl) rfl rfl ?_
                refine s_bipush (pc := 137) (v := 59) (dc dl_X3_readLaw 68 rfl) bi_59 ?_
                refine s_calll (pc := 139) (ρ := rh16) (rest := []) hG (ss_LawR_Tape_rh16) (calls_V (mi := mX3_readLaw) (o := 8) (As := [.int 59]) (rest := []) hG (dc dl_X3_readLaw 69 rfl) mo_X7_take mv_X7_take ml_X3_52 ⟨Nat.le_of_ble_eq_true rfl, Nat.le_of_ble_eq_true rfl⟩ rfl rfl (Nat.le_of_ble_eq_true rfl) lk_LawR_8 rfl) (cn_X7_take l G hG (fun i => ad (rh16 i)) 59) rfl rfl (fun r20 => ?_)
                refine s_if_ne (pc := 142) (tgt := 147) (dc dl_X3_readLaw 70 rfl) rfl ?_ ?_
                · refine s_iconst (pc := 145) (v := 0) (dc dl_X3_readLaw 71 rfl) ic_0 ?_
                  exact s_zreturn (pc := 146) rfl (dc dl_X3_readLaw 72 rfl)
                · refine s_aload_n (pc := 147) (dc dl_X3_readLaw 73 rfl) rfl rfl ?_
                  refine s_getR (pc := 148) fl_X3_12 lk_LawR_0 kk_LawR_0_0 (dc dl_X3_readLaw 74 rfl) ?_
                  refine s_iload_n (pc := 151) (dc dl_X3_readLaw 75 rfl) rfl rfl ?_
                  refine s_iload (pc := 152) (dc dl_X3_readLaw 76 rfl) rfl ?_
                  refine s_iload (pc := 154) (dc dl_X3_readLaw 77 rfl) rfl ?_
                  refine s_calllv (pc := 156) (ρ := rh17) (rest := []) hG (ss_LawR_Law_rh17) (calls_V (mi := mX3_readLaw) (o := 1) (As := [.int y9, .int v14, .int v16]) (rest := []) hG (dc dl_X3_readLaw 78 rfl) mo_X2_addLine mv_X2_addLine ml_X3_55 ⟨Nat.le_of_ble_eq_true rfl, Nat.le_of_ble_eq_true rfl⟩ rfl rfl (Nat.le_of_ble_eq_true rfl) lk_LawR_1 rfl) (cn_X2_addLine l G hG (fun i => ad (rh17 i)) y9 v14 v16) rfl rfl (fun r21 => ?_)
                  refine s_iincL (pc := 159) (lf' := fun y22 => [some (.ref (ad 0)), some (.ref (ad 8)), some (.int y22), some (.int y9), some (.int v14), some (.int v16)]) (dc dl_X3_readLaw 79 rfl) rfl rfl (Nat.le_of_ble_eq_true rfl) (fun _ => rfl) (fun y22 => ?_)
                  refine s_goto (pc := 162) (tgt := 13) (dc dl_X3_readLaw 80 rfl) rfl ?_
                  exact s_wk (hself3 y22) rfl
              · refine s_icmp_ne (pc := 118) (tgt := 136) (dc dl_X3_readLaw 57 rfl) rfl ?_ ?_
                · refine s_aload_n (pc := 121) (dc dl_X3_readLaw 58 rfl) rfl rfl ?_
                  refine s_calllv (pc := 122) (ρ := rh16) (rest := []) hG (ss_LawR_Tape_rh16) (calls_V (mi := mX3_readLaw) (o := 8) (As := []) (rest := []) hG (dc dl_X3_readLaw 59 rfl) mo_X7_next mv_X7_next ml_X3_21 ⟨Nat.le_of_ble_eq_true rfl, Nat.le_of_ble_eq_true rfl⟩ rfl rfl (Nat.le_of_ble_eq_true rfl) lk_LawR_8 rfl) (cn_X7_next l G hG (fun i => ad (rh16 i))) rfl rfl (fun r23 => ?_)
                  refine s_aload_n (pc := 125) (dc dl_X3_readLaw 60 rfl) rfl rfl ?_
                  refine s_aload_n (pc := 126) (dc dl_X3_readLaw 61 rfl) rfl rfl ?_
                  refine s_iconst (pc := 127) (v := 0) (dc dl_X3_readLaw 62 rfl) ic_0 ?_
                  refine s_call (pc := 128) (rest := []) hG (calls_V (mi := mX3_readLaw) (o := 0) (As := [.ref (ad 8), .int 0]) (rest := []) hG (dc dl_X3_readLaw 63 rfl) mo_X3_readCondition mv_X3_readCondition ml_X3_48 ⟨Nat.le_of_ble_eq_true rfl, Nat.le_of_ble_eq_true rfl⟩ rfl rfl (Nat.le_of_ble_eq_true rfl) lk_LawR_0 rfl) (cn_X3_readCondition l G hG ad 0) rfl (fun r24 => ?_)
                  refine s_if_ne (pc := 131) (tgt := 136) (dc dl_X3_readLaw 64 rfl) rfl ?_ ?_
                  · refine s_iconst (pc := 134) (v := 0) (dc dl_X3_readLaw 65 rfl) ic_0 ?_
                    exact s_zreturn (pc := 135) rfl (dc dl_X3_readLaw 66 rfl)
                  · exact s_wk (hj18 ()) rfl
                · exact s_wk (hj18 ()) rfl
          · refine s_aload_n (pc := 73) (dc dl_X3_readLaw 34 rfl) rfl rfl ?_
            refine s_iconst (pc := 74) (v := 3) (dc dl_X3_readLaw 35 rfl) ic_3 ?_
            refine s_calll (pc := 75) (ρ := rh16) (rest := []) hG (ss_LawR_Tape_rh16) (calls_V (mi := mX3_readLaw) (o := 8) (As := [.int 3]) (rest := []) hG (dc dl_X3_readLaw 36 rfl) mo_X7_refuse mv_X7_refuse ml_X3_34 ⟨Nat.le_of_ble_eq_true rfl, Nat.le_of_ble_eq_true rfl⟩ rfl rfl (Nat.le_of_ble_eq_true rfl) lk_LawR_8 rfl) (cn_X7_refuse l G hG (fun i => ad (rh16 i)) 3) rfl rfl (fun r25 => ?_)
            exact s_zreturn (pc := 78) rfl (dc dl_X3_readLaw 37 rfl)
def gX4_takeNumber (x2 : Int32) : MM Int32 :=
  bd (lf rh18 2 (gX7_isNumber 0 x2)) fun r1 =>
  (if r1 = 0 then
  rz 0
  else
  bd (ld 6 3) fun v2 =>
  bd (sv 0 1 v2) fun _ =>
  bd (lf rh18 2 gX7_next) fun r3 =>
  rz 1)
set_option maxHeartbeats 4000000 in
theorem cn_X4_takeNumber (l : Launch) (G : Gl) (hG : gOk G) (ad : Nat → Nat) (x2 : Int32) : Cn l G mX4_takeNumber 6 lay_LineR ad [.ref (ad 0), .ref (ad 6), .int x2] (gX4_takeNumber x2) := by
  refine cn_of (lv := [some (.ref (ad 0)), some (.ref (ad 6)), some (.int x2)]) (by decide +kernel) rfl (Nat.le_of_ble_eq_true rfl) rfl ?_
  unfold gX4_takeNumber
  refine s_aload_n (pc := 0) (dc dl_X4_takeNumber 0 rfl) rfl rfl ?_
  refine s_iconst (pc := 1) (v := 0) (dc dl_X4_takeNumber 1 rfl) ic_0 ?_
  refine s_iload_n (pc := 2) (dc dl_X4_takeNumber 2 rfl) rfl rfl ?_
  refine s_calll (pc := 3) (ρ := rh18) (rest := []) hG (ss_LineR_Tape_rh18) (calls_V (mi := mX4_takeNumber) (o := 6) (As := [.int 0, .int x2]) (rest := []) hG (dc dl_X4_takeNumber 3 rfl) mo_X7_isNumber mv_X7_isNumber ml_X4_58 ⟨Nat.le_of_ble_eq_true rfl, Nat.le_of_ble_eq_true rfl⟩ rfl rfl (Nat.le_of_ble_eq_true rfl) lk_LineR_6 rfl) (cn_X7_isNumber l G hG (fun i => ad (rh18 i)) 0 x2) rfl rfl (fun r1 => ?_)
  refine s_if_ne (pc := 6) (tgt := 11) (dc dl_X4_takeNumber 4 rfl) rfl ?_ ?_
  · refine s_iconst (pc := 9) (v := 0) (dc dl_X4_takeNumber 5 rfl) ic_0 ?_
    exact s_zreturn (pc := 10) rfl (dc dl_X4_takeNumber 6 rfl)
  · refine s_aload_n (pc := 11) (dc dl_X4_takeNumber 7 rfl) rfl rfl ?_
    refine s_aload_n (pc := 12) (dc dl_X4_takeNumber 8 rfl) rfl rfl ?_
    refine s_getI (pc := 13) fl_X4_62 lk_LineR_6 kk_LineR_6_3 (dc dl_X4_takeNumber 9 rfl) (fun v2 => ?_)
    refine s_putI (pc := 16) fw_X4_18 lk_LineR_0 kk_LineR_0_1 (dc dl_X4_takeNumber 10 rfl) ?_
    refine s_aload_n (pc := 19) (dc dl_X4_takeNumber 11 rfl) rfl rfl ?_
    refine s_calllv (pc := 20) (ρ := rh18) (rest := []) hG (ss_LineR_Tape_rh18) (calls_V (mi := mX4_takeNumber) (o := 6) (As := []) (rest := []) hG (dc dl_X4_takeNumber 12 rfl) mo_X7_next mv_X7_next ml_X4_25 ⟨Nat.le_of_ble_eq_true rfl, Nat.le_of_ble_eq_true rfl⟩ rfl rfl (Nat.le_of_ble_eq_true rfl) lk_LineR_6 rfl) (cn_X7_next l G hG (fun i => ad (rh18 i))) rfl rfl (fun r3 => ?_)
    refine s_iconst (pc := 23) (v := 1) (dc dl_X4_takeNumber 13 rfl) ic_1 ?_
    exact s_zreturn (pc := 24) rfl (dc dl_X4_takeNumber 14 rfl)
def gX4_readDeed (x2 : Int32) : MM Int32 :=
  bd (ld 6 2) fun v1 =>
  bd (lf rh0 0 (gX10_isWithin v1 312 315)) fun r2 =>
  (if r2 = 0 then
  bd (lf rh18 2 (gX7_refuse 1)) fun r27 =>
  rz r27
  else
  bd (ld 6 2) fun v3 =>
  lt ((0 + v3) - 312) fun y4 =>
  bd (lf rh18 2 gX7_next) fun r5 =>
  jn (fun (a7 : Int32) =>
  bd (gX4_takeNumber (a7 - 1)) fun r8 =>
  (if r8 = 0 then
  rz 0
  else
  bd (ld 0 1) fun v9 =>
  jn (fun (a11 : Int32) =>
  jn (fun (a13 : Unit) =>
  jn (fun (a15 : Int32) =>
  bd (lf rh19 5 (gX5_add x2 y4 v9 a15)) fun r16 =>
  rz 1) (fun j14 =>
  (if a11 = 0 then
  j14 0
  else
  bd (ld 0 1) fun v17 =>
  j14 v17))) (fun j12 =>
  (if a11 = 0 then
  j12 ()
  else
  jn (fun (a19 : Int32) =>
  bd (gX4_takeNumber (a19 - 1)) fun r20 =>
  (if r20 = 0 then
  rz 0
  else
  j12 ())) (fun j18 =>
  (if y4 = 0 then
  bd (ld 8 5) fun v22 =>
  j18 v22
  else
  bd (ld 8 4) fun v21 =>
  j18 v21))))) (fun j10 =>
  jn (fun (a24 : Unit) =>
  j10 1) (fun j23 =>
  (if y4 = 0 then
  j23 ()
  else
  (if y4 = 1 then
  j23 ()
  else
  j10 0)))))) (fun j6 =>
  (if y4 = 0 then
  bd (ld 8 6) fun v26 =>
  j6 v26
  else
  bd (ld 8 5) fun v25 =>
  j6 v25)))
set_option maxHeartbeats 4000000 in
theorem cn_X4_readDeed (l : Launch) (G : Gl) (hG : gOk G) (ad : Nat → Nat) (x2 : Int32) : Cn l G mX4_readDeed 7 lay_LineR ad [.ref (ad 0), .ref (ad 6), .int x2, .ref (ad 8)] (gX4_readDeed x2) := by
  refine cn_of (lv := [some (.ref (ad 0)), some (.ref (ad 6)), some (.int x2), some (.ref (ad 8)), none, none, none]) (by decide +kernel) rfl (Nat.le_of_ble_eq_true rfl) rfl ?_
  unfold gX4_readDeed
  refine s_aload_n (pc := 0) (dc dl_X4_readDeed 0 rfl) rfl rfl ?_
  refine s_getI (pc := 1) fl_X4_30 lk_LineR_6 kk_LineR_6_2 (dc dl_X4_readDeed 1 rfl) (fun v1 => ?_)
  refine s_sipush (pc := 4) (v := 312) (dc dl_X4_readDeed 2 rfl) si_312 ?_
  refine s_sipush (pc := 7) (v := 315) (dc dl_X4_readDeed 3 rfl) si_315 ?_
  refine s_calll (pc := 10) (ρ := rh0) (rest := []) hG (ss_LineR_E_rh0) (calls_SN (mi := mX4_readDeed) (As := [.int v1, .int 312, .int 315]) (rest := []) hG (dc dl_X4_readDeed 4 rfl) mo_X10_isWithin ms_X10_isWithin ml_X4_65 ⟨Nat.le_of_ble_eq_true rfl, Nat.le_of_ble_eq_true rfl⟩ rfl rfl (Nat.le_of_ble_eq_true rfl)) (cn_X10_isWithin l G hG (fun i => ad (rh0 i)) v1 312 315) rfl rfl (fun r2 => ?_)
  refine s_if_ne (pc := 13) (tgt := 22) (dc dl_X4_readDeed 5 rfl) rfl ?_ ?_
  · refine s_aload_n (pc := 16) (dc dl_X4_readDeed 6 rfl) rfl rfl ?_
    refine s_iconst (pc := 17) (v := 1) (dc dl_X4_readDeed 7 rfl) ic_1 ?_
    refine s_calll (pc := 18) (ρ := rh18) (rest := []) hG (ss_LineR_Tape_rh18) (calls_V (mi := mX4_readDeed) (o := 6) (As := [.int 1]) (rest := []) hG (dc dl_X4_readDeed 8 rfl) mo_X7_refuse mv_X7_refuse ml_X4_37 ⟨Nat.le_of_ble_eq_true rfl, Nat.le_of_ble_eq_true rfl⟩ rfl rfl (Nat.le_of_ble_eq_true rfl) lk_LineR_6 rfl) (cn_X7_refuse l G hG (fun i => ad (rh18 i)) 1) rfl rfl (fun r27 => ?_)
    exact s_zreturn (pc := 21) rfl (dc dl_X4_readDeed 9 rfl)
  · refine s_iconst (pc := 22) (v := 0) (dc dl_X4_readDeed 10 rfl) ic_0 ?_
    refine s_aload_n (pc := 23) (dc dl_X4_readDeed 11 rfl) rfl rfl ?_
    refine s_getI (pc := 24) fl_X4_30 lk_LineR_6 kk_LineR_6_2 (dc dl_X4_readDeed 12 rfl) (fun v3 => ?_)
    refine s_iadd (pc := 27) (dc dl_X4_readDeed 13 rfl) ?_
    refine s_sipush (pc := 28) (v := 312) (dc dl_X4_readDeed 14 rfl) si_312 ?_
    refine s_isub (pc := 31) (dc dl_X4_readDeed 15 rfl) ?_
    refine s_istoreL (pc := 32) (lf' := fun y4 => [some (.ref (ad 0)), some (.ref (ad 6)), some (.int x2), some (.ref (ad 8)), some (.int y4), none, none]) (dc dl_X4_readDeed 16 rfl) (Nat.le_of_ble_eq_true rfl) (fun _ => rfl) (fun y4 => ?_)
    refine s_aload_n (pc := 34) (dc dl_X4_readDeed 17 rfl) rfl rfl ?_
    refine s_calllv (pc := 35) (ρ := rh18) (rest := []) hG (ss_LineR_Tape_rh18) (calls_V (mi := mX4_readDeed) (o := 6) (As := []) (rest := []) hG (dc dl_X4_readDeed 18 rfl) mo_X7_next mv_X7_next ml_X4_25 ⟨Nat.le_of_ble_eq_true rfl, Nat.le_of_ble_eq_true rfl⟩ rfl rfl (Nat.le_of_ble_eq_true rfl) lk_LineR_6 rfl) (cn_X7_next l G hG (fun i => ad (rh18 i))) rfl rfl (fun r5 => ?_)
    refine s_aload_n (pc := 38) (dc dl_X4_readDeed 19 rfl) rfl rfl ?_
    refine s_aload_n (pc := 39) (dc dl_X4_readDeed 20 rfl) rfl rfl ?_
    refine s_iload (pc := 40) (dc dl_X4_readDeed 21 rfl) rfl ?_
    refine s_jn (pj := 56) (fun a7 : Int32 => [some (.ref (ad 0)), some (.ref (ad 6)), some (.int x2), some (.ref (ad 8)), some (.int y4), none, none]) (fun a7 : Int32 => [.int a7, .ref (ad 6), .ref (ad 0)]) (fun a7 => ?_) (fun j6 hj6 => ?_)
    · refine s_iconst (pc := 56) (v := 1) (dc dl_X4_readDeed 28 rfl) ic_1 ?_
      refine s_isub (pc := 57) (dc dl_X4_readDeed 29 rfl) ?_
      refine s_call (pc := 58) (rest := []) hG (calls_V (mi := mX4_readDeed) (o := 0) (As := [.ref (ad 6), .int (a7 - 1)]) (rest := []) hG (dc dl_X4_readDeed 30 rfl) mo_X4_takeNumber mv_X4_takeNumber ml_X4_48 ⟨Nat.le_of_ble_eq_true rfl, Nat.le_of_ble_eq_true rfl⟩ rfl rfl (Nat.le_of_ble_eq_true rfl) lk_LineR_0 rfl) (cn_X4_takeNumber l G hG ad (a7 - 1)) rfl (fun r8 => ?_)
      refine s_if_ne (pc := 61) (tgt := 66) (dc dl_X4_readDeed 31 rfl) rfl ?_ ?_
      · refine s_iconst (pc := 64) (v := 0) (dc dl_X4_readDeed 32 rfl) ic_0 ?_
        exact s_zreturn (pc := 65) rfl (dc dl_X4_readDeed 33 rfl)
      · refine s_aload_n (pc := 66) (dc dl_X4_readDeed 34 rfl) rfl rfl ?_
        refine s_getI (pc := 67) fl_X4_18 lk_LineR_0 kk_LineR_0_1 (dc dl_X4_readDeed 35 rfl) (fun v9 => ?_)
        refine s_istore (pc := 70) (lv' := [some (.ref (ad 0)), some (.ref (ad 6)), some (.int x2), some (.ref (ad 8)), some (.int y4), some (.int v9), none]) (dc dl_X4_readDeed 36 rfl) (Nat.le_of_ble_eq_true rfl) rfl ?_
        refine s_iload (pc := 72) (dc dl_X4_readDeed 37 rfl) rfl ?_
        refine s_jn (pj := 88) (fun a11 : Int32 => [some (.ref (ad 0)), some (.ref (ad 6)), some (.int x2), some (.ref (ad 8)), some (.int y4), some (.int v9), none]) (fun a11 : Int32 => [.int a11]) (fun a11 => ?_) (fun j10 hj10 => ?_)
        · refine s_istore (pc := 88) (lv' := [some (.ref (ad 0)), some (.ref (ad 6)), some (.int x2), some (.ref (ad 8)), some (.int y4), some (.int v9), some (.int a11)]) (dc dl_X4_readDeed 45 rfl) (Nat.le_of_ble_eq_true rfl) rfl ?_
          refine s_iload (pc := 90) (dc dl_X4_readDeed 46 rfl) rfl ?_
          refine s_jn (pj := 123) (fun a13 : Unit => [some (.ref (ad 0)), none, some (.int x2), none, some (.int y4), some (.int v9), some (.int a11)]) (fun a13 : Unit => []) (fun a13 => ?_) (fun j12 hj12 => ?_)
          · refine s_aload_n (pc := 123) (dc dl_X4_readDeed 63 rfl) rfl rfl ?_
            refine s_getR (pc := 124) fl_X4_12 lk_LineR_0 kk_LineR_0_0 (dc dl_X4_readDeed 64 rfl) ?_
            refine s_iload_n (pc := 127) (dc dl_X4_readDeed 65 rfl) rfl rfl ?_
            refine s_iload (pc := 128) (dc dl_X4_readDeed 66 rfl) rfl ?_
            refine s_iload (pc := 130) (dc dl_X4_readDeed 67 rfl) rfl ?_
            refine s_iload (pc := 132) (dc dl_X4_readDeed 68 rfl) rfl ?_
            refine s_jn (pj := 145) (fun a15 : Int32 => [none, none, none, none, none, none, none]) (fun a15 : Int32 => [.int a15, .int v9, .int y4, .int x2, .ref (ad 1)]) (fun a15 => ?_) (fun j14 hj14 => ?_)
            · refine s_calllv (pc := 145) (ρ := rh19) (rest := []) hG (ss_LineR_Lines_rh19) (calls_V (mi := mX4_readDeed) (o := 1) (As := [.int x2, .int y4, .int v9, .int a15]) (rest := []) hG (dc dl_X4_readDeed 74 rfl) mo_X5_add mv_X5_add ml_X4_80 ⟨Nat.le_of_ble_eq_true rfl, Nat.le_of_ble_eq_true rfl⟩ rfl rfl (Nat.le_of_ble_eq_true rfl) lk_LineR_1 rfl) (cn_X5_add l G hG (fun i => ad (rh19 i)) x2 y4 v9 a15) rfl rfl (fun r16 => ?_)
              refine s_iconst (pc := 148) (v := 1) (dc dl_X4_readDeed 75 rfl) ic_1 ?_
              exact s_zreturn (pc := 149) rfl (dc dl_X4_readDeed 76 rfl)
            · refine s_if_eq (pc := 134) (tgt := 144) (dc dl_X4_readDeed 69 rfl) rfl ?_ ?_
              · refine s_iconst (pc := 144) (v := 0) (dc dl_X4_readDeed 73 rfl) ic_0 ?_
                exact s_wk (hj14 0) rfl
              · refine s_aload_n (pc := 137) (dc dl_X4_readDeed 70 rfl) rfl rfl ?_
                refine s_getI (pc := 138) fl_X4_18 lk_LineR_0 kk_LineR_0_1 (dc dl_X4_readDeed 71 rfl) (fun v17 => ?_)
                refine s_goto (pc := 141) (tgt := 145) (dc dl_X4_readDeed 72 rfl) rfl ?_
                exact s_wk (hj14 v17) rfl
          · refine s_if_eq (pc := 92) (tgt := 123) (dc dl_X4_readDeed 47 rfl) rfl ?_ ?_
            · exact s_wk (hj12 ()) rfl
            · refine s_aload_n (pc := 95) (dc dl_X4_readDeed 48 rfl) rfl rfl ?_
              refine s_aload_n (pc := 96) (dc dl_X4_readDeed 49 rfl) rfl rfl ?_
              refine s_iload (pc := 97) (dc dl_X4_readDeed 50 rfl) rfl ?_
              refine s_jn (pj := 113) (fun a19 : Int32 => [some (.ref (ad 0)), none, some (.int x2), none, some (.int y4), some (.int v9), some (.int a11)]) (fun a19 : Int32 => [.int a19, .ref (ad 6), .ref (ad 0)]) (fun a19 => ?_) (fun j18 hj18 => ?_)
              · refine s_iconst (pc := 113) (v := 1) (dc dl_X4_readDeed 57 rfl) ic_1 ?_
                refine s_isub (pc := 114) (dc dl_X4_readDeed 58 rfl) ?_
                refine s_call (pc := 115) (rest := []) hG (calls_V (mi := mX4_readDeed) (o := 0) (As := [.ref (ad 6), .int (a19 - 1)]) (rest := []) hG (dc dl_X4_readDeed 59 rfl) mo_X4_takeNumber mv_X4_takeNumber ml_X4_48 ⟨Nat.le_of_ble_eq_true rfl, Nat.le_of_ble_eq_true rfl⟩ rfl rfl (Nat.le_of_ble_eq_true rfl) lk_LineR_0 rfl) (cn_X4_takeNumber l G hG ad (a19 - 1)) rfl (fun r20 => ?_)
                refine s_if_ne (pc := 118) (tgt := 123) (dc dl_X4_readDeed 60 rfl) rfl ?_ ?_
                · refine s_iconst (pc := 121) (v := 0) (dc dl_X4_readDeed 61 rfl) ic_0 ?_
                  exact s_zreturn (pc := 122) rfl (dc dl_X4_readDeed 62 rfl)
                · exact s_wk (hj12 ()) rfl
              · refine s_if_ne (pc := 99) (tgt := 109) (dc dl_X4_readDeed 51 rfl) rfl ?_ ?_
                · refine s_aload_n (pc := 102) (dc dl_X4_readDeed 52 rfl) rfl rfl ?_
                  refine s_getI (pc := 103) fl_X4_74 lk_LineR_8 kk_LineR_8_5 (dc dl_X4_readDeed 53 rfl) (fun v22 => ?_)
                  refine s_goto (pc := 106) (tgt := 113) (dc dl_X4_readDeed 54 rfl) rfl ?_
                  exact s_wk (hj18 v22) rfl
                · refine s_aload_n (pc := 109) (dc dl_X4_readDeed 55 rfl) rfl rfl ?_
                  refine s_getI (pc := 110) fl_X4_77 lk_LineR_8 kk_LineR_8_4 (dc dl_X4_readDeed 56 rfl) (fun v21 => ?_)
                  exact s_wk (hj18 v21) rfl
        · refine s_jn (pj := 83) (fun a24 : Unit => [some (.ref (ad 0)), some (.ref (ad 6)), some (.int x2), some (.ref (ad 8)), some (.int y4), some (.int v9), none]) (fun a24 : Unit => []) (fun a24 => ?_) (fun j23 hj23 => ?_)
          · refine s_iconst (pc := 83) (v := 1) (dc dl_X4_readDeed 42 rfl) ic_1 ?_
            refine s_goto (pc := 84) (tgt := 88) (dc dl_X4_readDeed 43 rfl) rfl ?_
            exact s_wk (hj10 1) rfl
          · refine s_if_eq (pc := 74) (tgt := 83) (dc dl_X4_readDeed 38 rfl) rfl ?_ ?_
            · exact s_wk (hj23 ()) rfl
            · refine s_iload (pc := 77) (dc dl_X4_readDeed 39 rfl) rfl ?_
              refine s_iconst (pc := 79) (v := 1) (dc dl_X4_readDeed 40 rfl) ic_1 ?_
              refine s_icmp_ne (pc := 80) (tgt := 87) (dc dl_X4_readDeed 41 rfl) rfl ?_ ?_
              · exact s_wk (hj23 ()) rfl
              · refine s_iconst (pc := 87) (v := 0) (dc dl_X4_readDeed 44 rfl) ic_0 ?_
                exact s_wk (hj10 0) rfl
    · refine s_if_ne (pc := 42) (tgt := 52) (dc dl_X4_readDeed 22 rfl) rfl ?_ ?_
      · refine s_aload_n (pc := 45) (dc dl_X4_readDeed 23 rfl) rfl rfl ?_
        refine s_getI (pc := 46) fl_X4_69 lk_LineR_8 kk_LineR_8_6 (dc dl_X4_readDeed 24 rfl) (fun v26 => ?_)
        refine s_goto (pc := 49) (tgt := 56) (dc dl_X4_readDeed 25 rfl) rfl ?_
        exact s_wk (hj6 v26) rfl
      · refine s_aload_n (pc := 52) (dc dl_X4_readDeed 26 rfl) rfl rfl ?_
        refine s_getI (pc := 53) fl_X4_74 lk_LineR_8 kk_LineR_8_5 (dc dl_X4_readDeed 27 rfl) (fun v25 => ?_)
        exact s_wk (hj6 v25) rfl
def gX4_readFriends : MM Int32 :=
  bd (ld 8 4) fun v1 =>
  bd (gX4_takeNumber (v1 - 1)) fun r2 =>
  (if r2 = 0 then
  rz 0
  else
  bd (ld 0 1) fun v3 =>
  bd (lf rh18 2 (gX7_take 307)) fun r4 =>
  jn (fun (a6 : Unit) =>
  rz 0) (fun j5 =>
  (if r4 = 0 then
  j5 ()
  else
  bd (ld 8 4) fun v7 =>
  bd (lf rh18 2 (gX7_isNumber 0 (v7 - 1))) fun r8 =>
  (if r8 = 0 then
  j5 ()
  else
  bd (ld 6 3) fun v9 =>
  (if v9 = v3 then
  bd (lf rh18 2 (gX7_refuse 2)) fun r13 =>
  rz r13
  else
  bd (ld 6 3) fun v10 =>
  bd (lf rh19 5 (gX5_add 0 0 v3 v10)) fun r11 =>
  bd (lf rh18 2 gX7_next) fun r12 =>
  rz 1)))))
set_option maxHeartbeats 4000000 in
theorem cn_X4_readFriends (l : Launch) (G : Gl) (hG : gOk G) (ad : Nat → Nat) : Cn l G mX4_readFriends 7 lay_LineR ad [.ref (ad 0), .ref (ad 6), .ref (ad 8)] (gX4_readFriends) := by
  refine cn_of (lv := [some (.ref (ad 0)), some (.ref (ad 6)), some (.ref (ad 8)), none]) (by decide +kernel) rfl (Nat.le_of_ble_eq_true rfl) rfl ?_
  unfold gX4_readFriends
  refine s_aload_n (pc := 0) (dc dl_X4_readFriends 0 rfl) rfl rfl ?_
  refine s_aload_n (pc := 1) (dc dl_X4_readFriends 1 rfl) rfl rfl ?_
  refine s_aload_n (pc := 2) (dc dl_X4_readFriends 2 rfl) rfl rfl ?_
  refine s_getI (pc := 3) fl_X4_77 lk_LineR_8 kk_LineR_8_4 (dc dl_X4_readFriends 3 rfl) (fun v1 => ?_)
  refine s_iconst (pc := 6) (v := 1) (dc dl_X4_readFriends 4 rfl) ic_1 ?_
  refine s_isub (pc := 7) (dc dl_X4_readFriends 5 rfl) ?_
  refine s_call (pc := 8) (rest := []) hG (calls_V (mi := mX4_readFriends) (o := 0) (As := [.ref (ad 6), .int (v1 - 1)]) (rest := []) hG (dc dl_X4_readFriends 6 rfl) mo_X4_takeNumber mv_X4_takeNumber ml_X4_48 ⟨Nat.le_of_ble_eq_true rfl, Nat.le_of_ble_eq_true rfl⟩ rfl rfl (Nat.le_of_ble_eq_true rfl) lk_LineR_0 rfl) (cn_X4_takeNumber l G hG ad (v1 - 1)) rfl (fun r2 => ?_)
  refine s_if_ne (pc := 11) (tgt := 16) (dc dl_X4_readFriends 7 rfl) rfl ?_ ?_
  · refine s_iconst (pc := 14) (v := 0) (dc dl_X4_readFriends 8 rfl) ic_0 ?_
    exact s_zreturn (pc := 15) rfl (dc dl_X4_readFriends 9 rfl)
  · refine s_aload_n (pc := 16) (dc dl_X4_readFriends 10 rfl) rfl rfl ?_
    refine s_getI (pc := 17) fl_X4_18 lk_LineR_0 kk_LineR_0_1 (dc dl_X4_readFriends 11 rfl) (fun v3 => ?_)
    refine s_istore_n (pc := 20) (lv' := [some (.ref (ad 0)), some (.ref (ad 6)), some (.ref (ad 8)), some (.int v3)]) (dc dl_X4_readFriends 12 rfl) rfl (Nat.le_of_ble_eq_true rfl) rfl ?_
    refine s_aload_n (pc := 21) (dc dl_X4_readFriends 13 rfl) rfl rfl ?_
    refine s_sipush (pc := 22) (v := 307) (dc dl_X4_readFriends 14 rfl) si_307 ?_
    refine s_calll (pc := 25) (ρ := rh18) (rest := []) hG (ss_LineR_Tape_rh18) (calls_V (mi := mX4_readFriends) (o := 6) (As := [.int 307]) (rest := []) hG (dc dl_X4_readFriends 15 rfl) mo_X7_take mv_X7_take ml_X4_45 ⟨Nat.le_of_ble_eq_true rfl, Nat.le_of_ble_eq_true rfl⟩ rfl rfl (Nat.le_of_ble_eq_true rfl) lk_LineR_6 rfl) (cn_X7_take l G hG (fun i => ad (rh18 i)) 307) rfl rfl (fun r4 => ?_)
    refine s_jn (pj := 45) (fun a6 : Unit => [none, none, none, none]) (fun a6 : Unit => []) (fun a6 => ?_) (fun j5 hj5 => ?_)
    · refine s_iconst (pc := 45) (v := 0) (dc dl_X4_readFriends 25 rfl) ic_0 ?_
      exact s_zreturn (pc := 46) rfl (dc dl_X4_readFriends 26 rfl)
    · refine s_if_eq (pc := 28) (tgt := 45) (dc dl_X4_readFriends 16 rfl) rfl ?_ ?_
      · exact s_wk (hj5 ()) rfl
      · refine s_aload_n (pc := 31) (dc dl_X4_readFriends 17 rfl) rfl rfl ?_
        refine s_iconst (pc := 32) (v := 0) (dc dl_X4_readFriends 18 rfl) ic_0 ?_
        refine s_aload_n (pc := 33) (dc dl_X4_readFriends 19 rfl) rfl rfl ?_
        refine s_getI (pc := 34) fl_X4_77 lk_LineR_8 kk_LineR_8_4 (dc dl_X4_readFriends 20 rfl) (fun v7 => ?_)
        refine s_iconst (pc := 37) (v := 1) (dc dl_X4_readFriends 21 rfl) ic_1 ?_
        refine s_isub (pc := 38) (dc dl_X4_readFriends 22 rfl) ?_
        refine s_calll (pc := 39) (ρ := rh18) (rest := []) hG (ss_LineR_Tape_rh18) (calls_V (mi := mX4_readFriends) (o := 6) (As := [.int 0, .int (v7 - 1)]) (rest := []) hG (dc dl_X4_readFriends 23 rfl) mo_X7_isNumber mv_X7_isNumber ml_X4_58 ⟨Nat.le_of_ble_eq_true rfl, Nat.le_of_ble_eq_true rfl⟩ rfl rfl (Nat.le_of_ble_eq_true rfl) lk_LineR_6 rfl) (cn_X7_isNumber l G hG (fun i => ad (rh18 i)) 0 (v7 - 1)) rfl rfl (fun r8 => ?_)
        refine s_if_ne (pc := 42) (tgt := 47) (dc dl_X4_readFriends 24 rfl) rfl ?_ ?_
        · exact s_wk (hj5 ()) rfl
        · refine s_aload_n (pc := 47) (dc dl_X4_readFriends 27 rfl) rfl rfl ?_
          refine s_getI (pc := 48) fl_X4_62 lk_LineR_6 kk_LineR_6_3 (dc dl_X4_readFriends 28 rfl) (fun v9 => ?_)
          refine s_iload_n (pc := 51) (dc dl_X4_readFriends 29 rfl) rfl rfl ?_
          refine s_icmp_ne (pc := 52) (tgt := 61) (dc dl_X4_readFriends 30 rfl) rfl ?_ ?_
          · refine s_aload_n (pc := 55) (dc dl_X4_readFriends 31 rfl) rfl rfl ?_
            refine s_iconst (pc := 56) (v := 2) (dc dl_X4_readFriends 32 rfl) ic_2 ?_
            refine s_calll (pc := 57) (ρ := rh18) (rest := []) hG (ss_LineR_Tape_rh18) (calls_V (mi := mX4_readFriends) (o := 6) (As := [.int 2]) (rest := []) hG (dc dl_X4_readFriends 33 rfl) mo_X7_refuse mv_X7_refuse ml_X4_37 ⟨Nat.le_of_ble_eq_true rfl, Nat.le_of_ble_eq_true rfl⟩ rfl rfl (Nat.le_of_ble_eq_true rfl) lk_LineR_6 rfl) (cn_X7_refuse l G hG (fun i => ad (rh18 i)) 2) rfl rfl (fun r13 => ?_)
            exact s_zreturn (pc := 60) rfl (dc dl_X4_readFriends 34 rfl)
          · refine s_aload_n (pc := 61) (dc dl_X4_readFriends 35 rfl) rfl rfl ?_
            refine s_getR (pc := 62) fl_X4_12 lk_LineR_0 kk_LineR_0_0 (dc dl_X4_readFriends 36 rfl) ?_
            refine s_iconst (pc := 65) (v := 0) (dc dl_X4_readFriends 37 rfl) ic_0 ?_
            refine s_iconst (pc := 66) (v := 0) (dc dl_X4_readFriends 38 rfl) ic_0 ?_
            refine s_iload_n (pc := 67) (dc dl_X4_readFriends 39 rfl) rfl rfl ?_
            refine s_aload_n (pc := 68) (dc dl_X4_readFriends 40 rfl) rfl rfl ?_
            refine s_getI (pc := 69) fl_X4_62 lk_LineR_6 kk_LineR_6_3 (dc dl_X4_readFriends 41 rfl) (fun v10 => ?_)
            refine s_calllv (pc := 72) (ρ := rh19) (rest := []) hG (ss_LineR_Lines_rh19) (calls_V (mi := mX4_readFriends) (o := 1) (As := [.int 0, .int 0, .int v3, .int v10]) (rest := []) hG (dc dl_X4_readFriends 42 rfl) mo_X5_add mv_X5_add ml_X4_80 ⟨Nat.le_of_ble_eq_true rfl, Nat.le_of_ble_eq_true rfl⟩ rfl rfl (Nat.le_of_ble_eq_true rfl) lk_LineR_1 rfl) (cn_X5_add l G hG (fun i => ad (rh19 i)) 0 0 v3 v10) rfl rfl (fun r11 => ?_)
            refine s_aload_n (pc := 75) (dc dl_X4_readFriends 43 rfl) rfl rfl ?_
            refine s_calllv (pc := 76) (ρ := rh18) (rest := []) hG (ss_LineR_Tape_rh18) (calls_V (mi := mX4_readFriends) (o := 6) (As := []) (rest := []) hG (dc dl_X4_readFriends 44 rfl) mo_X7_next mv_X7_next ml_X4_25 ⟨Nat.le_of_ble_eq_true rfl, Nat.le_of_ble_eq_true rfl⟩ rfl rfl (Nat.le_of_ble_eq_true rfl) lk_LineR_6 rfl) (cn_X7_next l G hG (fun i => ad (rh18 i))) rfl rfl (fun r12 => ?_)
            refine s_iconst (pc := 79) (v := 1) (dc dl_X4_readFriends 45 rfl) ic_1 ?_
            exact s_zreturn (pc := 80) rfl (dc dl_X4_readFriends 46 rfl)
def gX4_readMind (x2 : Int32) : MM Int32 :=
  bd (lf rh18 2 (gX7_take 321)) fun r1 =>
  jn (fun (a3 : Unit) =>
  rz 0) (fun j2 =>
  (if r1 = 0 then
  j2 ()
  else
  bd (ld 8 4) fun v4 =>
  bd (gX4_takeNumber (v4 - 1)) fun r5 =>
  (if r5 = 0 then
  j2 ()
  else
  bd (ld 0 1) fun v6 =>
  bd (lf rh18 2 (gX7_take 303)) fun r7 =>
  jn (fun (a9 : Unit) =>
  rz 0) (fun j8 =>
  (if r7 = 0 then
  j8 ()
  else
  bd (gX4_takeNumber 9) fun r10 =>
  (if r10 = 0 then
  j8 ()
  else
  bd (ld 0 1) fun v11 =>
  bd (lf rh19 5 (gX5_add x2 0 v6 v11)) fun r12 =>
  rz 1))))))
set_option maxHeartbeats 4000000 in
theorem cn_X4_readMind (l : Launch) (G : Gl) (hG : gOk G) (ad : Nat → Nat) (x2 : Int32) : Cn l G mX4_readMind 7 lay_LineR ad [.ref (ad 0), .ref (ad 6), .int x2, .ref (ad 8)] (gX4_readMind x2) := by
  refine cn_of (lv := [some (.ref (ad 0)), some (.ref (ad 6)), some (.int x2), some (.ref (ad 8)), none]) (by decide +kernel) rfl (Nat.le_of_ble_eq_true rfl) rfl ?_
  unfold gX4_readMind
  refine s_aload_n (pc := 0) (dc dl_X4_readMind 0 rfl) rfl rfl ?_
  refine s_sipush (pc := 1) (v := 321) (dc dl_X4_readMind 1 rfl) si_321 ?_
  refine s_calll (pc := 4) (ρ := rh18) (rest := []) hG (ss_LineR_Tape_rh18) (calls_V (mi := mX4_readMind) (o := 6) (As := [.int 321]) (rest := []) hG (dc dl_X4_readMind 2 rfl) mo_X7_take mv_X7_take ml_X4_45 ⟨Nat.le_of_ble_eq_true rfl, Nat.le_of_ble_eq_true rfl⟩ rfl rfl (Nat.le_of_ble_eq_true rfl) lk_LineR_6 rfl) (cn_X7_take l G hG (fun i => ad (rh18 i)) 321) rfl rfl (fun r1 => ?_)
  refine s_jn (pj := 24) (fun a3 : Unit => [none, none, none, none, none]) (fun a3 : Unit => []) (fun a3 => ?_) (fun j2 hj2 => ?_)
  · refine s_iconst (pc := 24) (v := 0) (dc dl_X4_readMind 12 rfl) ic_0 ?_
    exact s_zreturn (pc := 25) rfl (dc dl_X4_readMind 13 rfl)
  · refine s_if_eq (pc := 7) (tgt := 24) (dc dl_X4_readMind 3 rfl) rfl ?_ ?_
    · exact s_wk (hj2 ()) rfl
    · refine s_aload_n (pc := 10) (dc dl_X4_readMind 4 rfl) rfl rfl ?_
      refine s_aload_n (pc := 11) (dc dl_X4_readMind 5 rfl) rfl rfl ?_
      refine s_aload_n (pc := 12) (dc dl_X4_readMind 6 rfl) rfl rfl ?_
      refine s_getI (pc := 13) fl_X4_77 lk_LineR_8 kk_LineR_8_4 (dc dl_X4_readMind 7 rfl) (fun v4 => ?_)
      refine s_iconst (pc := 16) (v := 1) (dc dl_X4_readMind 8 rfl) ic_1 ?_
      refine s_isub (pc := 17) (dc dl_X4_readMind 9 rfl) ?_
      refine s_call (pc := 18) (rest := []) hG (calls_V (mi := mX4_readMind) (o := 0) (As := [.ref (ad 6), .int (v4 - 1)]) (rest := []) hG (dc dl_X4_readMind 10 rfl) mo_X4_takeNumber mv_X4_takeNumber ml_X4_48 ⟨Nat.le_of_ble_eq_true rfl, Nat.le_of_ble_eq_true rfl⟩ rfl rfl (Nat.le_of_ble_eq_true rfl) lk_LineR_0 rfl) (cn_X4_takeNumber l G hG ad (v4 - 1)) rfl (fun r5 => ?_)
      refine s_if_ne (pc := 21) (tgt := 26) (dc dl_X4_readMind 11 rfl) rfl ?_ ?_
      · exact s_wk (hj2 ()) rfl
      · refine s_aload_n (pc := 26) (dc dl_X4_readMind 14 rfl) rfl rfl ?_
        refine s_getI (pc := 27) fl_X4_18 lk_LineR_0 kk_LineR_0_1 (dc dl_X4_readMind 15 rfl) (fun v6 => ?_)
        refine s_istore (pc := 30) (lv' := [some (.ref (ad 0)), some (.ref (ad 6)), some (.int x2), some (.ref (ad 8)), some (.int v6)]) (dc dl_X4_readMind 16 rfl) (Nat.le_of_ble_eq_true rfl) rfl ?_
        refine s_aload_n (pc := 32) (dc dl_X4_readMind 17 rfl) rfl rfl ?_
        refine s_sipush (pc := 33) (v := 303) (dc dl_X4_readMind 18 rfl) si_303 ?_
        refine s_calll (pc := 36) (ρ := rh18) (rest := []) hG (ss_LineR_Tape_rh18) (calls_V (mi := mX4_readMind) (o := 6) (As := [.int 303]) (rest := []) hG (dc dl_X4_readMind 19 rfl) mo_X7_take mv_X7_take ml_X4_45 ⟨Nat.le_of_ble_eq_true rfl, Nat.le_of_ble_eq_true rfl⟩ rfl rfl (Nat.le_of_ble_eq_true rfl) lk_LineR_6 rfl) (cn_X7_take l G hG (fun i => ad (rh18 i)) 303) rfl rfl (fun r7 => ?_)
        refine s_jn (pj := 52) (fun a9 : Unit => [none, none, none, none, none]) (fun a9 : Unit => []) (fun a9 => ?_) (fun j8 hj8 => ?_)
        · refine s_iconst (pc := 52) (v := 0) (dc dl_X4_readMind 26 rfl) ic_0 ?_
          exact s_zreturn (pc := 53) rfl (dc dl_X4_readMind 27 rfl)
        · refine s_if_eq (pc := 39) (tgt := 52) (dc dl_X4_readMind 20 rfl) rfl ?_ ?_
          · exact s_wk (hj8 ()) rfl
          · refine s_aload_n (pc := 42) (dc dl_X4_readMind 21 rfl) rfl rfl ?_
            refine s_aload_n (pc := 43) (dc dl_X4_readMind 22 rfl) rfl rfl ?_
            refine s_bipush (pc := 44) (v := 9) (dc dl_X4_readMind 23 rfl) bi_9 ?_
            refine s_call (pc := 46) (rest := []) hG (calls_V (mi := mX4_readMind) (o := 0) (As := [.ref (ad 6), .int 9]) (rest := []) hG (dc dl_X4_readMind 24 rfl) mo_X4_takeNumber mv_X4_takeNumber ml_X4_48 ⟨Nat.le_of_ble_eq_true rfl, Nat.le_of_ble_eq_true rfl⟩ rfl rfl (Nat.le_of_ble_eq_true rfl) lk_LineR_0 rfl) (cn_X4_takeNumber l G hG ad 9) rfl (fun r10 => ?_)
            refine s_if_ne (pc := 49) (tgt := 54) (dc dl_X4_readMind 25 rfl) rfl ?_ ?_
            · exact s_wk (hj8 ()) rfl
            · refine s_aload_n (pc := 54) (dc dl_X4_readMind 28 rfl) rfl rfl ?_
              refine s_getR (pc := 55) fl_X4_12 lk_LineR_0 kk_LineR_0_0 (dc dl_X4_readMind 29 rfl) ?_
              refine s_iload_n (pc := 58) (dc dl_X4_readMind 30 rfl) rfl rfl ?_
              refine s_iconst (pc := 59) (v := 0) (dc dl_X4_readMind 31 rfl) ic_0 ?_
              refine s_iload (pc := 60) (dc dl_X4_readMind 32 rfl) rfl ?_
              refine s_aload_n (pc := 62) (dc dl_X4_readMind 33 rfl) rfl rfl ?_
              refine s_getI (pc := 63) fl_X4_18 lk_LineR_0 kk_LineR_0_1 (dc dl_X4_readMind 34 rfl) (fun v11 => ?_)
              refine s_calllv (pc := 66) (ρ := rh19) (rest := []) hG (ss_LineR_Lines_rh19) (calls_V (mi := mX4_readMind) (o := 1) (As := [.int x2, .int 0, .int v6, .int v11]) (rest := []) hG (dc dl_X4_readMind 35 rfl) mo_X5_add mv_X5_add ml_X4_80 ⟨Nat.le_of_ble_eq_true rfl, Nat.le_of_ble_eq_true rfl⟩ rfl rfl (Nat.le_of_ble_eq_true rfl) lk_LineR_1 rfl) (cn_X5_add l G hG (fun i => ad (rh19 i)) x2 0 v6 v11) rfl rfl (fun r12 => ?_)
              refine s_iconst (pc := 69) (v := 1) (dc dl_X4_readMind 36 rfl) ic_1 ?_
              exact s_zreturn (pc := 70) rfl (dc dl_X4_readMind 37 rfl)
def gX4_readLine (x2 : Int32) : MM Int32 :=
  bd (ld 6 2) fun v1 =>
  jn (fun (a3 : Int32) =>
  (if v1 = a3 then
  bd (ld 1 0) fun v4 =>
  (if v4 < 16 then
  bd (lf rh18 2 gX7_next) fun r5 =>
  (if x2 = 3 then
  bd gX4_readFriends fun r18 =>
  jn (fun (a20 : Int32) =>
  rz a20) (fun j19 =>
  jn (fun (a22 : Unit) =>
  j19 0) (fun j21 =>
  (if r18 = 0 then
  j21 ()
  else
  bd (lf rh18 2 (gX7_take 59)) fun r23 =>
  (if r23 = 0 then
  j21 ()
  else
  j19 1))))
  else
  bd (gX4_takeNumber 999) fun r6 =>
  (if r6 = 0 then
  rz 0
  else
  jn (fun (a8 : Int32) =>
  jn (fun (a10 : Int32) =>
  rz a10) (fun j9 =>
  jn (fun (a12 : Unit) =>
  j9 0) (fun j11 =>
  (if a8 = 0 then
  j11 ()
  else
  bd (lf rh18 2 (gX7_take 59)) fun r13 =>
  (if r13 = 0 then
  j11 ()
  else
  j9 1))))) (fun j7 =>
  (if x2 = 1 then
  bd (ld 0 1) fun v16 =>
  bd (gX4_readDeed v16) fun r17 =>
  j7 r17
  else
  bd (ld 0 1) fun v14 =>
  bd (gX4_readMind v14) fun r15 =>
  j7 r15))))
  else
  bd (lf rh18 2 (gX7_refuse 3)) fun r24 =>
  rz r24)
  else
  bd (lf rh18 2 (gX7_refuse 1)) fun r25 =>
  rz r25)) (fun j2 =>
  (if x2 = 3 then
  j2 321
  else
  j2 320))
set_option maxHeartbeats 4000000 in
theorem cn_X4_readLine (l : Launch) (G : Gl) (hG : gOk G) (ad : Nat → Nat) (x2 : Int32) : Cn l G mX4_readLine 8 lay_LineR ad [.ref (ad 0), .ref (ad 6), .int x2, .ref (ad 8)] (gX4_readLine x2) := by
  refine cn_of (lv := [some (.ref (ad 0)), some (.ref (ad 6)), some (.int x2), some (.ref (ad 8)), none]) (by decide +kernel) rfl (Nat.le_of_ble_eq_true rfl) rfl ?_
  unfold gX4_readLine
  refine s_aload_n (pc := 0) (dc dl_X4_readLine 0 rfl) rfl rfl ?_
  refine s_getI (pc := 1) fl_X4_30 lk_LineR_6 kk_LineR_6_2 (dc dl_X4_readLine 1 rfl) (fun v1 => ?_)
  refine s_iload_n (pc := 4) (dc dl_X4_readLine 2 rfl) rfl rfl ?_
  refine s_iconst (pc := 5) (v := 3) (dc dl_X4_readLine 3 rfl) ic_3 ?_
  refine s_jn (pj := 18) (fun a3 : Int32 => [some (.ref (ad 0)), some (.ref (ad 6)), some (.int x2), some (.ref (ad 8)), none]) (fun a3 : Int32 => [.int a3, .int v1]) (fun a3 => ?_) (fun j2 hj2 => ?_)
  · refine s_icmp_eq (pc := 18) (tgt := 27) (dc dl_X4_readLine 8 rfl) rfl ?_ ?_
    · refine s_aload_n (pc := 27) (dc dl_X4_readLine 13 rfl) rfl rfl ?_
      refine s_getR (pc := 28) fl_X4_12 lk_LineR_0 kk_LineR_0_0 (dc dl_X4_readLine 14 rfl) ?_
      refine s_getI (pc := 31) fl_X4_22 lk_LineR_1 kk_LineR_1_0 (dc dl_X4_readLine 15 rfl) (fun v4 => ?_)
      refine s_bipush (pc := 34) (v := 16) (dc dl_X4_readLine 16 rfl) bi_16 ?_
      refine s_icmp_lt (pc := 36) (tgt := 45) (dc dl_X4_readLine 17 rfl) rfl ?_ ?_
      · refine s_aload_n (pc := 45) (dc dl_X4_readLine 22 rfl) rfl rfl ?_
        refine s_calllv (pc := 46) (ρ := rh18) (rest := []) hG (ss_LineR_Tape_rh18) (calls_V (mi := mX4_readLine) (o := 6) (As := []) (rest := []) hG (dc dl_X4_readLine 23 rfl) mo_X7_next mv_X7_next ml_X4_25 ⟨Nat.le_of_ble_eq_true rfl, Nat.le_of_ble_eq_true rfl⟩ rfl rfl (Nat.le_of_ble_eq_true rfl) lk_LineR_6 rfl) (cn_X7_next l G hG (fun i => ad (rh18 i))) rfl rfl (fun r5 => ?_)
        refine s_iload_n (pc := 49) (dc dl_X4_readLine 24 rfl) rfl rfl ?_
        refine s_iconst (pc := 50) (v := 3) (dc dl_X4_readLine 25 rfl) ic_3 ?_
        refine s_icmp_ne (pc := 51) (tgt := 78) (dc dl_X4_readLine 26 rfl) rfl ?_ ?_
        · refine s_aload_n (pc := 54) (dc dl_X4_readLine 27 rfl) rfl rfl ?_
          refine s_aload_n (pc := 55) (dc dl_X4_readLine 28 rfl) rfl rfl ?_
          refine s_aload_n (pc := 56) (dc dl_X4_readLine 29 rfl) rfl rfl ?_
          refine s_call (pc := 57) (rest := []) hG (calls_V (mi := mX4_readLine) (o := 0) (As := [.ref (ad 6), .ref (ad 8)]) (rest := []) hG (dc dl_X4_readLine 30 rfl) mo_X4_readFriends mv_X4_readFriends ml_X4_41 ⟨Nat.le_of_ble_eq_true rfl, Nat.le_of_ble_eq_true rfl⟩ rfl rfl (Nat.le_of_ble_eq_true rfl) lk_LineR_0 rfl) (cn_X4_readFriends l G hG ad) rfl (fun r18 => ?_)
          refine s_jn (pj := 77) (fun a20 : Int32 => [none, none, none, none, none]) (fun a20 : Int32 => [.int a20]) (fun a20 => ?_) (fun j19 hj19 => ?_)
          · exact s_zreturn (pc := 77) rfl (dc dl_X4_readLine 39 rfl)
          · refine s_jn (pj := 76) (fun a22 : Unit => [none, none, none, none, none]) (fun a22 : Unit => []) (fun a22 => ?_) (fun j21 hj21 => ?_)
            · refine s_iconst (pc := 76) (v := 0) (dc dl_X4_readLine 38 rfl) ic_0 ?_
              exact s_wk (hj19 0) rfl
            · refine s_if_eq (pc := 60) (tgt := 76) (dc dl_X4_readLine 31 rfl) rfl ?_ ?_
              · exact s_wk (hj21 ()) rfl
              · refine s_aload_n (pc := 63) (dc dl_X4_readLine 32 rfl) rfl rfl ?_
                refine s_bipush (pc := 64) (v := 59) (dc dl_X4_readLine 33 rfl) bi_59 ?_
                refine s_calll (pc := 66) (ρ := rh18) (rest := []) hG (ss_LineR_Tape_rh18) (calls_V (mi := mX4_readLine) (o := 6) (As := [.int 59]) (rest := []) hG (dc dl_X4_readLine 34 rfl) mo_X7_take mv_X7_take ml_X4_45 ⟨Nat.le_of_ble_eq_true rfl, Nat.le_of_ble_eq_true rfl⟩ rfl rfl (Nat.le_of_ble_eq_true rfl) lk_LineR_6 rfl) (cn_X7_take l G hG (fun i => ad (rh18 i)) 59) rfl rfl (fun r23 => ?_)
                refine s_if_eq (pc := 69) (tgt := 76) (dc dl_X4_readLine 35 rfl) rfl ?_ ?_
                · exact s_wk (hj21 ()) rfl
                · refine s_iconst (pc := 72) (v := 1) (dc dl_X4_readLine 36 rfl) ic_1 ?_
                  refine s_goto (pc := 73) (tgt := 77) (dc dl_X4_readLine 37 rfl) rfl ?_
                  exact s_wk (hj19 1) rfl
        · refine s_aload_n (pc := 78) (dc dl_X4_readLine 40 rfl) rfl rfl ?_
          refine s_aload_n (pc := 79) (dc dl_X4_readLine 41 rfl) rfl rfl ?_
          refine s_sipush (pc := 80) (v := 999) (dc dl_X4_readLine 42 rfl) si_999 ?_
          refine s_call (pc := 83) (rest := []) hG (calls_V (mi := mX4_readLine) (o := 0) (As := [.ref (ad 6), .int 999]) (rest := []) hG (dc dl_X4_readLine 43 rfl) mo_X4_takeNumber mv_X4_takeNumber ml_X4_48 ⟨Nat.le_of_ble_eq_true rfl, Nat.le_of_ble_eq_true rfl⟩ rfl rfl (Nat.le_of_ble_eq_true rfl) lk_LineR_0 rfl) (cn_X4_takeNumber l G hG ad 999) rfl (fun r6 => ?_)
          refine s_if_ne (pc := 86) (tgt := 91) (dc dl_X4_readLine 44 rfl) rfl ?_ ?_
          · refine s_iconst (pc := 89) (v := 0) (dc dl_X4_readLine 45 rfl) ic_0 ?_
            exact s_zreturn (pc := 90) rfl (dc dl_X4_readLine 46 rfl)
          · refine s_iload_n (pc := 91) (dc dl_X4_readLine 47 rfl) rfl rfl ?_
            refine s_iconst (pc := 92) (v := 1) (dc dl_X4_readLine 48 rfl) ic_1 ?_
            refine s_jn (pj := 119) (fun a8 : Int32 => [none, some (.ref (ad 6)), none, none, none]) (fun a8 : Int32 => [.int a8]) (fun a8 => ?_) (fun j7 hj7 => ?_)
            · refine s_istore (pc := 119) (lv' := [none, some (.ref (ad 6)), none, none, some (.int a8)]) (dc dl_X4_readLine 63 rfl) (Nat.le_of_ble_eq_true rfl) rfl ?_
              refine s_iload (pc := 121) (dc dl_X4_readLine 64 rfl) rfl ?_
              refine s_jn (pj := 140) (fun a10 : Int32 => [none, none, none, none, none]) (fun a10 : Int32 => [.int a10]) (fun a10 => ?_) (fun j9 hj9 => ?_)
              · exact s_zreturn (pc := 140) rfl (dc dl_X4_readLine 73 rfl)
              · refine s_jn (pj := 139) (fun a12 : Unit => [none, none, none, none, none]) (fun a12 : Unit => []) (fun a12 => ?_) (fun j11 hj11 => ?_)
                · refine s_iconst (pc := 139) (v := 0) (dc dl_X4_readLine 72 rfl) ic_0 ?_
                  exact s_wk (hj9 0) rfl
                · refine s_if_eq (pc := 123) (tgt := 139) (dc dl_X4_readLine 65 rfl) rfl ?_ ?_
                  · exact s_wk (hj11 ()) rfl
                  · refine s_aload_n (pc := 126) (dc dl_X4_readLine 66 rfl) rfl rfl ?_
                    refine s_bipush (pc := 127) (v := 59) (dc dl_X4_readLine 67 rfl) bi_59 ?_
                    refine s_calll (pc := 129) (ρ := rh18) (rest := []) hG (ss_LineR_Tape_rh18) (calls_V (mi := mX4_readLine) (o := 6) (As := [.int 59]) (rest := []) hG (dc dl_X4_readLine 68 rfl) mo_X7_take mv_X7_take ml_X4_45 ⟨Nat.le_of_ble_eq_true rfl, Nat.le_of_ble_eq_true rfl⟩ rfl rfl (Nat.le_of_ble_eq_true rfl) lk_LineR_6 rfl) (cn_X7_take l G hG (fun i => ad (rh18 i)) 59) rfl rfl (fun r13 => ?_)
                    refine s_if_eq (pc := 132) (tgt := 139) (dc dl_X4_readLine 69 rfl) rfl ?_ ?_
                    · exact s_wk (hj11 ()) rfl
                    · refine s_iconst (pc := 135) (v := 1) (dc dl_X4_readLine 70 rfl) ic_1 ?_
                      refine s_goto (pc := 136) (tgt := 140) (dc dl_X4_readLine 71 rfl) rfl ?_
                      exact s_wk (hj9 1) rfl
            · refine s_icmp_ne (pc := 93) (tgt := 109) (dc dl_X4_readLine 49 rfl) rfl ?_ ?_
              · refine s_aload_n (pc := 96) (dc dl_X4_readLine 50 rfl) rfl rfl ?_
                refine s_aload_n (pc := 97) (dc dl_X4_readLine 51 rfl) rfl rfl ?_
                refine s_aload_n (pc := 98) (dc dl_X4_readLine 52 rfl) rfl rfl ?_
                refine s_getI (pc := 99) fl_X4_18 lk_LineR_0 kk_LineR_0_1 (dc dl_X4_readLine 53 rfl) (fun v16 => ?_)
                refine s_aload_n (pc := 102) (dc dl_X4_readLine 54 rfl) rfl rfl ?_
                refine s_call (pc := 103) (rest := []) hG (calls_V (mi := mX4_readLine) (o := 0) (As := [.ref (ad 6), .int v16, .ref (ad 8)]) (rest := []) hG (dc dl_X4_readLine 55 rfl) mo_X4_readDeed mv_X4_readDeed ml_X4_52 ⟨Nat.le_of_ble_eq_true rfl, Nat.le_of_ble_eq_true rfl⟩ rfl rfl (Nat.le_of_ble_eq_true rfl) lk_LineR_0 rfl) (cn_X4_readDeed l G hG ad v16) rfl (fun r17 => ?_)
                refine s_goto (pc := 106) (tgt := 119) (dc dl_X4_readLine 56 rfl) rfl ?_
                exact s_wk (hj7 r17) rfl
              · refine s_aload_n (pc := 109) (dc dl_X4_readLine 57 rfl) rfl rfl ?_
                refine s_aload_n (pc := 110) (dc dl_X4_readLine 58 rfl) rfl rfl ?_
                refine s_aload_n (pc := 111) (dc dl_X4_readLine 59 rfl) rfl rfl ?_
                refine s_getI (pc := 112) fl_X4_18 lk_LineR_0 kk_LineR_0_1 (dc dl_X4_readLine 60 rfl) (fun v14 => ?_)
                refine s_aload_n (pc := 115) (dc dl_X4_readLine 61 rfl) rfl rfl ?_
                refine s_call (pc := 116) (rest := []) hG (calls_V (mi := mX4_readLine) (o := 0) (As := [.ref (ad 6), .int v14, .ref (ad 8)]) (rest := []) hG (dc dl_X4_readLine 62 rfl) mo_X4_readMind mv_X4_readMind ml_X4_55 ⟨Nat.le_of_ble_eq_true rfl, Nat.le_of_ble_eq_true rfl⟩ rfl rfl (Nat.le_of_ble_eq_true rfl) lk_LineR_0 rfl) (cn_X4_readMind l G hG ad v14) rfl (fun r15 => ?_)
                exact s_wk (hj7 r15) rfl
      · refine s_aload_n (pc := 39) (dc dl_X4_readLine 18 rfl) rfl rfl ?_
        refine s_iconst (pc := 40) (v := 3) (dc dl_X4_readLine 19 rfl) ic_3 ?_
        refine s_calll (pc := 41) (ρ := rh18) (rest := []) hG (ss_LineR_Tape_rh18) (calls_V (mi := mX4_readLine) (o := 6) (As := [.int 3]) (rest := []) hG (dc dl_X4_readLine 20 rfl) mo_X7_refuse mv_X7_refuse ml_X4_37 ⟨Nat.le_of_ble_eq_true rfl, Nat.le_of_ble_eq_true rfl⟩ rfl rfl (Nat.le_of_ble_eq_true rfl) lk_LineR_6 rfl) (cn_X7_refuse l G hG (fun i => ad (rh18 i)) 3) rfl rfl (fun r24 => ?_)
        exact s_zreturn (pc := 44) rfl (dc dl_X4_readLine 21 rfl)
    · refine s_aload_n (pc := 21) (dc dl_X4_readLine 9 rfl) rfl rfl ?_
      refine s_iconst (pc := 22) (v := 1) (dc dl_X4_readLine 10 rfl) ic_1 ?_
      refine s_calll (pc := 23) (ρ := rh18) (rest := []) hG (ss_LineR_Tape_rh18) (calls_V (mi := mX4_readLine) (o := 6) (As := [.int 1]) (rest := []) hG (dc dl_X4_readLine 11 rfl) mo_X7_refuse mv_X7_refuse ml_X4_37 ⟨Nat.le_of_ble_eq_true rfl, Nat.le_of_ble_eq_true rfl⟩ rfl rfl (Nat.le_of_ble_eq_true rfl) lk_LineR_6 rfl) (cn_X7_refuse l G hG (fun i => ad (rh18 i)) 1) rfl rfl (fun r25 => ?_)
      exact s_zreturn (pc := 26) rfl (dc dl_X4_readLine 12 rfl)
  · refine s_icmp_ne (pc := 6) (tgt := 15) (dc dl_X4_readLine 4 rfl) rfl ?_ ?_
    · refine s_sipush (pc := 9) (v := 321) (dc dl_X4_readLine 5 rfl) si_321 ?_
      refine s_goto (pc := 12) (tgt := 18) (dc dl_X4_readLine 6 rfl) rfl ?_
      exact s_wk (hj2 321) rfl
    · refine s_sipush (pc := 15) (v := 320) (dc dl_X4_readLine 7 rfl) si_320 ?_
      exact s_wk (hj2 320) rfl
def gX4_readLines (x2 : Int32) : MM Int32 :=
  bd (sv 1 0 0) fun _ =>
  bd (lf rh18 2 gX7_next) fun r1 =>
  loopC 100000 (fun (self2 : Int32 → MM Int32) (s3 : Int32) =>
  jn (fun (a5 : Unit) =>
  rz 1) (fun j4 =>
  (if 400 ≤ s3 then
  j4 ()
  else
  bd (ld 6 2) fun v6 =>
  (if v6 = 256 then
  j4 ()
  else
  bd (gX4_readLine x2) fun r7 =>
  (if r7 = 0 then
  rz 0
  else
  lt (s3 + 1) fun y8 =>
  self2 y8))))) 0
set_option maxHeartbeats 4000000 in
theorem cn_X4_readLines (l : Launch) (G : Gl) (hG : gOk G) (ad : Nat → Nat) (x2 : Int32) : Cn l G mX4_readLines 9 lay_LineR ad [.ref (ad 0), .ref (ad 6), .int x2, .ref (ad 8)] (gX4_readLines x2) := by
  refine cn_of (lv := [some (.ref (ad 0)), some (.ref (ad 6)), some (.int x2), some (.ref (ad 8)), none]) (by decide +kernel) rfl (Nat.le_of_ble_eq_true rfl) rfl ?_
  unfold gX4_readLines
  refine s_aload_n (pc := 0) (dc dl_X4_readLines 0 rfl) rfl rfl ?_
  refine s_getR (pc := 1) fl_X4_12 lk_LineR_0 kk_LineR_0_0 (dc dl_X4_readLines 1 rfl) ?_
  refine s_iconst (pc := 4) (v := 0) (dc dl_X4_readLines 2 rfl) ic_0 ?_
  refine s_putI (pc := 5) fw_X4_22 lk_LineR_1 kk_LineR_1_0 (dc dl_X4_readLines 3 rfl) ?_
  refine s_aload_n (pc := 8) (dc dl_X4_readLines 4 rfl) rfl rfl ?_
  refine s_calllv (pc := 9) (ρ := rh18) (rest := []) hG (ss_LineR_Tape_rh18) (calls_V (mi := mX4_readLines) (o := 6) (As := []) (rest := []) hG (dc dl_X4_readLines 5 rfl) mo_X7_next mv_X7_next ml_X4_25 ⟨Nat.le_of_ble_eq_true rfl, Nat.le_of_ble_eq_true rfl⟩ rfl rfl (Nat.le_of_ble_eq_true rfl) lk_LineR_6 rfl) (cn_X7_next l G hG (fun i => ad (rh18 i))) rfl rfl (fun r1 => ?_)
  refine s_iconst (pc := 12) (v := 0) (dc dl_X4_readLines 6 rfl) ic_0 ?_
  refine s_istore (pc := 13) (lv' := [some (.ref (ad 0)), some (.ref (ad 6)), some (.int x2), some (.ref (ad 8)), some (.int 0)]) (dc dl_X4_readLines 7 rfl) (Nat.le_of_ble_eq_true rfl) rfl ?_
  refine s_weak (lv' := [some (.ref (ad 0)), some (.ref (ad 6)), some (.int x2), some (.ref (ad 8)), some (.int 0)]) rfl ?_
  refine s_loop (pc := 15) (fun s3 : Int32 => [some (.ref (ad 0)), some (.ref (ad 6)), some (.int x2), some (.ref (ad 8)), some (.int s3)]) [] (fun self2 hself2 s3 => ?_) _ 0
  refine s_iload (pc := 15) (dc dl_X4_readLines 8 rfl) rfl ?_
  refine s_sipush (pc := 17) (v := 400) (dc dl_X4_readLines 9 rfl) si_400 ?_
  refine s_jn (pj := 51) (fun a5 : Unit => [none, none, none, none, none]) (fun a5 : Unit => []) (fun a5 => ?_) (fun j4 hj4 => ?_)
  · refine s_iconst (pc := 51) (v := 1) (dc dl_X4_readLines 25 rfl) ic_1 ?_
    exact s_zreturn (pc := 52) rfl (dc dl_X4_readLines 26 rfl)
  · refine s_icmp_ge (pc := 20) (tgt := 51) (dc dl_X4_readLines 10 rfl) rfl ?_ ?_
    · exact s_wk (hj4 ()) rfl
    · refine s_aload_n (pc := 23) (dc dl_X4_readLines 11 rfl) rfl rfl ?_
      refine s_getI (pc := 24) fl_X4_30 lk_LineR_6 kk_LineR_6_2 (dc dl_X4_readLines 12 rfl) (fun v6 => ?_)
      refine s_sipush (pc := 27) (v := 256) (dc dl_X4_readLines 13 rfl) si_256 ?_
      refine s_icmp_eq (pc := 30) (tgt := 51) (dc dl_X4_readLines 14 rfl) rfl ?_ ?_
      · exact s_wk (hj4 ()) rfl
      · refine s_aload_n (pc := 33) (dc dl_X4_readLines 15 rfl) rfl rfl ?_
        refine s_aload_n (pc := 34) (dc dl_X4_readLines 16 rfl) rfl rfl ?_
        refine s_iload_n (pc := 35) (dc dl_X4_readLines 17 rfl) rfl rfl ?_
        refine s_aload_n (pc := 36) (dc dl_X4_readLines 18 rfl) rfl rfl ?_
        refine s_call (pc := 37) (rest := []) hG (calls_V (mi := mX4_readLines) (o := 0) (As := [.ref (ad 6), .int x2, .ref (ad 8)]) (rest := []) hG (dc dl_X4_readLines 19 rfl) mo_X4_readLine mv_X4_readLine ml_X4_33 ⟨Nat.le_of_ble_eq_true rfl, Nat.le_of_ble_eq_true rfl⟩ rfl rfl (Nat.le_of_ble_eq_true rfl) lk_LineR_0 rfl) (cn_X4_readLine l G hG ad x2) rfl (fun r7 => ?_)
        refine s_if_ne (pc := 40) (tgt := 45) (dc dl_X4_readLines 20 rfl) rfl ?_ ?_
        · refine s_iconst (pc := 43) (v := 0) (dc dl_X4_readLines 21 rfl) ic_0 ?_
          exact s_zreturn (pc := 44) rfl (dc dl_X4_readLines 22 rfl)
        · refine s_iincL (pc := 45) (lf' := fun y8 => [some (.ref (ad 0)), some (.ref (ad 6)), some (.int x2), some (.ref (ad 8)), some (.int y8)]) (dc dl_X4_readLines 23 rfl) rfl rfl (Nat.le_of_ble_eq_true rfl) (fun _ => rfl) (fun y8 => ?_)
          refine s_goto (pc := 48) (tgt := 15) (dc dl_X4_readLines 24 rfl) rfl ?_
          exact s_wk (hself2 y8) rfl
