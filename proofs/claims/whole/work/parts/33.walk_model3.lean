def gX11_answer (x1 : Int32) : MM Int32 :=
  bd (sv 0 0 0) fun _ =>
  (if x1 = ((-1)) then
  bd (sv 0 52 0) fun _ =>
  pr 0
  else
  bd (gX11_isIn x1 0 1) fun r1 =>
  jn (fun (a3 : Unit) =>
  pr ((-1))) (fun j2 =>
  (if r1 = 0 then
  j2 ()
  else
  bd (ld 0 52) fun v4 =>
  (if v4 = 16 then
  j2 ()
  else
  bd (ld 0 52) fun v5 =>
  bd (sa 29 v5 x1) fun _ =>
  bd (ld 0 52) fun v6 =>
  bd (sv 0 52 (v6 + 1)) fun _ =>
  bd (ld 0 52) fun v7 =>
  pr v7))))
set_option maxHeartbeats 4000000 in
theorem cn_X11_answer (l : Launch) (G : Gl) (hG : gOk G) (ad : Nat → Nat) (x1 : Int32) : Cn l G mX11_answer 1 lay_Mo ad [.ref (ad 0), .int x1] (gX11_answer x1) := by
  refine cn_of (lv := [some (.ref (ad 0)), some (.int x1)]) (by decide +kernel) rfl (Nat.le_of_ble_eq_true rfl) rfl ?_
  unfold gX11_answer
  refine s_aload_n (pc := 0) (dc dl_X11_answer 0 rfl) rfl rfl ?_
  refine s_iconst (pc := 1) (v := 0) (dc dl_X11_answer 1 rfl) ic_0 ?_
  refine s_putI (pc := 2) fw_X11_125 lk_Mo_0 kk_Mo_0_0 (dc dl_X11_answer 2 rfl) ?_
  refine s_iload_n (pc := 5) (dc dl_X11_answer 3 rfl) rfl rfl ?_
  refine s_iconst (pc := 6) (v := (-1)) (dc dl_X11_answer 4 rfl) ic_m1 ?_
  refine s_icmp_ne (pc := 7) (tgt := 17) (dc dl_X11_answer 5 rfl) rfl ?_ ?_
  · refine s_aload_n (pc := 10) (dc dl_X11_answer 6 rfl) rfl rfl ?_
    refine s_iconst (pc := 11) (v := 0) (dc dl_X11_answer 7 rfl) ic_0 ?_
    refine s_putI (pc := 12) fw_X11_447 lk_Mo_0 kk_Mo_0_52 (dc dl_X11_answer 8 rfl) ?_
    refine s_iconst (pc := 15) (v := 0) (dc dl_X11_answer 9 rfl) ic_0 ?_
    exact s_ireturn (pc := 16) rfl (dc dl_X11_answer 10 rfl)
  · refine s_aload_n (pc := 17) (dc dl_X11_answer 11 rfl) rfl rfl ?_
    refine s_iload_n (pc := 18) (dc dl_X11_answer 12 rfl) rfl rfl ?_
    refine s_iconst (pc := 19) (v := 0) (dc dl_X11_answer 13 rfl) ic_0 ?_
    refine s_iconst (pc := 20) (v := 1) (dc dl_X11_answer 14 rfl) ic_1 ?_
    refine s_call (pc := 21) (rest := []) hG (calls_V (mi := mX11_answer) (o := 0) (As := [.int x1, .int 0, .int 1]) (rest := []) hG (dc dl_X11_answer 15 rfl) mo_X11_isIn mv_X11_isIn ml_X11_150 ⟨Nat.le_of_ble_eq_true rfl, Nat.le_of_ble_eq_true rfl⟩ rfl rfl (Nat.le_of_ble_eq_true rfl) lk_Mo_0 rfl) (cn_X11_isIn l G hG ad x1 0 1) rfl (fun r1 => ?_)
    refine s_jn (pj := 36) (fun a3 : Unit => [none, none]) (fun a3 : Unit => []) (fun a3 => ?_) (fun j2 hj2 => ?_)
    · refine s_iconst (pc := 36) (v := (-1)) (dc dl_X11_answer 21 rfl) ic_m1 ?_
      exact s_ireturn (pc := 37) rfl (dc dl_X11_answer 22 rfl)
    · refine s_if_eq (pc := 24) (tgt := 36) (dc dl_X11_answer 16 rfl) rfl ?_ ?_
      · exact s_wk (hj2 ()) rfl
      · refine s_aload_n (pc := 27) (dc dl_X11_answer 17 rfl) rfl rfl ?_
        refine s_getI (pc := 28) fl_X11_447 lk_Mo_0 kk_Mo_0_52 (dc dl_X11_answer 18 rfl) (fun v4 => ?_)
        refine s_bipush (pc := 31) (v := 16) (dc dl_X11_answer 19 rfl) bi_16 ?_
        refine s_icmp_ne (pc := 33) (tgt := 38) (dc dl_X11_answer 20 rfl) rfl ?_ ?_
        · exact s_wk (hj2 ()) rfl
        · refine s_aload_n (pc := 38) (dc dl_X11_answer 23 rfl) rfl rfl ?_
          refine s_getR (pc := 39) fl_X11_98 lk_Mo_0 kk_Mo_0_53 (dc dl_X11_answer 24 rfl) ?_
          refine s_aload_n (pc := 42) (dc dl_X11_answer 25 rfl) rfl rfl ?_
          refine s_getI (pc := 43) fl_X11_447 lk_Mo_0 kk_Mo_0_52 (dc dl_X11_answer 26 rfl) (fun v5 => ?_)
          refine s_iload_n (pc := 46) (dc dl_X11_answer 27 rfl) rfl rfl ?_
          refine s_iast (pc := 47) lk_Mo_29 (dc dl_X11_answer 28 rfl) ?_
          refine s_aload_n (pc := 48) (dc dl_X11_answer 29 rfl) rfl rfl ?_
          refine s_aload_n (pc := 49) (dc dl_X11_answer 30 rfl) rfl rfl ?_
          refine s_getI (pc := 50) fl_X11_447 lk_Mo_0 kk_Mo_0_52 (dc dl_X11_answer 31 rfl) (fun v6 => ?_)
          refine s_iconst (pc := 53) (v := 1) (dc dl_X11_answer 32 rfl) ic_1 ?_
          refine s_iadd (pc := 54) (dc dl_X11_answer 33 rfl) ?_
          refine s_putI (pc := 55) fw_X11_447 lk_Mo_0 kk_Mo_0_52 (dc dl_X11_answer 34 rfl) ?_
          refine s_aload_n (pc := 58) (dc dl_X11_answer 35 rfl) rfl rfl ?_
          refine s_getI (pc := 59) fl_X11_447 lk_Mo_0 kk_Mo_0_52 (dc dl_X11_answer 36 rfl) (fun v7 => ?_)
          exact s_ireturn (pc := 62) rfl (dc dl_X11_answer 37 rfl)
def gX11_boxes (x1 : Int32) : MM Int32 :=
  bd (sv 0 0 0) fun _ =>
  bd (gX11_isIn x1 0 1) fun r1 =>
  (if r1 = 0 then
  pr ((-1))
  else
  loopC 100000 (fun (self2 : (Int32 × Int32 × Int32) → MM Int32) (s3 : Int32 × Int32 × Int32) =>
  bd (ld 0 52) fun v4 =>
  (if v4 ≤ s3.2.2 then
  jn (fun (a6 : Int32) =>
  pr a6) (fun j5 =>
  (if x1 = 0 then
  j5 s3.1
  else
  j5 s3.2.1))
  else
  bd (la 29 s3.2.2) fun v7 =>
  jn (fun (a9 : Int32) =>
  lt (s3.2.1 + (1 <<< ((a9 - 1) &&& 31))) fun y10 =>
  lt (s3.2.2 + 1) fun y11 =>
  self2 (a9, y10, y11)) (fun j8 =>
  (if v7 = 1 then
  bd (gX11_lesser 5 (s3.1 + 1)) fun r12 =>
  j8 r12
  else
  j8 1)))) (1, 0, 0))
set_option maxHeartbeats 4000000 in
theorem cn_X11_boxes (l : Launch) (G : Gl) (hG : gOk G) (ad : Nat → Nat) (x1 : Int32) : Cn l G mX11_boxes 1 lay_Mo ad [.ref (ad 0), .int x1] (gX11_boxes x1) := by
  refine cn_of (lv := [some (.ref (ad 0)), some (.int x1), none, none, none]) (by decide +kernel) rfl (Nat.le_of_ble_eq_true rfl) rfl ?_
  unfold gX11_boxes
  refine s_aload_n (pc := 0) (dc dl_X11_boxes 0 rfl) rfl rfl ?_
  refine s_iconst (pc := 1) (v := 0) (dc dl_X11_boxes 1 rfl) ic_0 ?_
  refine s_putI (pc := 2) fw_X11_125 lk_Mo_0 kk_Mo_0_0 (dc dl_X11_boxes 2 rfl) ?_
  refine s_aload_n (pc := 5) (dc dl_X11_boxes 3 rfl) rfl rfl ?_
  refine s_iload_n (pc := 6) (dc dl_X11_boxes 4 rfl) rfl rfl ?_
  refine s_iconst (pc := 7) (v := 0) (dc dl_X11_boxes 5 rfl) ic_0 ?_
  refine s_iconst (pc := 8) (v := 1) (dc dl_X11_boxes 6 rfl) ic_1 ?_
  refine s_call (pc := 9) (rest := []) hG (calls_V (mi := mX11_boxes) (o := 0) (As := [.int x1, .int 0, .int 1]) (rest := []) hG (dc dl_X11_boxes 7 rfl) mo_X11_isIn mv_X11_isIn ml_X11_150 ⟨Nat.le_of_ble_eq_true rfl, Nat.le_of_ble_eq_true rfl⟩ rfl rfl (Nat.le_of_ble_eq_true rfl) lk_Mo_0 rfl) (cn_X11_isIn l G hG ad x1 0 1) rfl (fun r1 => ?_)
  refine s_if_ne (pc := 12) (tgt := 17) (dc dl_X11_boxes 8 rfl) rfl ?_ ?_
  · refine s_iconst (pc := 15) (v := (-1)) (dc dl_X11_boxes 9 rfl) ic_m1 ?_
    exact s_ireturn (pc := 16) rfl (dc dl_X11_boxes 10 rfl)
  · refine s_iconst (pc := 17) (v := 1) (dc dl_X11_boxes 11 rfl) ic_1 ?_
    refine s_istore_n (pc := 18) (lv' := [some (.ref (ad 0)), some (.int x1), some (.int 1), none, none]) (dc dl_X11_boxes 12 rfl) rfl (Nat.le_of_ble_eq_true rfl) rfl ?_
    refine s_iconst (pc := 19) (v := 0) (dc dl_X11_boxes 13 rfl) ic_0 ?_
    refine s_istore_n (pc := 20) (lv' := [some (.ref (ad 0)), some (.int x1), some (.int 1), some (.int 0), none]) (dc dl_X11_boxes 14 rfl) rfl (Nat.le_of_ble_eq_true rfl) rfl ?_
    refine s_iconst (pc := 21) (v := 0) (dc dl_X11_boxes 15 rfl) ic_0 ?_
    refine s_istore (pc := 22) (lv' := [some (.ref (ad 0)), some (.int x1), some (.int 1), some (.int 0), some (.int 0)]) (dc dl_X11_boxes 16 rfl) (Nat.le_of_ble_eq_true rfl) rfl ?_
    refine s_weak (lv' := [some (.ref (ad 0)), some (.int x1), some (.int 1), some (.int 0), some (.int 0)]) rfl ?_
    refine s_loop (pc := 24) (fun s3 : Int32 × Int32 × Int32 => [some (.ref (ad 0)), some (.int x1), some (.int s3.1), some (.int s3.2.1), some (.int s3.2.2)]) [] (fun self2 hself2 s3 => ?_) _ (1, 0, 0)
    refine s_iload (pc := 24) (dc dl_X11_boxes 17 rfl) rfl ?_
    refine s_aload_n (pc := 26) (dc dl_X11_boxes 18 rfl) rfl rfl ?_
    refine s_getI (pc := 27) fl_X11_447 lk_Mo_0 kk_Mo_0_52 (dc dl_X11_boxes 19 rfl) (fun v4 => ?_)
    refine s_icmp_ge (pc := 30) (tgt := 71) (dc dl_X11_boxes 20 rfl) rfl ?_ ?_
    · refine s_iload_n (pc := 71) (dc dl_X11_boxes 46 rfl) rfl rfl ?_
      refine s_jn (pj := 80) (fun a6 : Int32 => [none, none, none, none, none]) (fun a6 : Int32 => [.int a6]) (fun a6 => ?_) (fun j5 hj5 => ?_)
      · exact s_ireturn (pc := 80) rfl (dc dl_X11_boxes 51 rfl)
      · refine s_if_ne (pc := 72) (tgt := 79) (dc dl_X11_boxes 47 rfl) rfl ?_ ?_
        · refine s_iload_n (pc := 75) (dc dl_X11_boxes 48 rfl) rfl rfl ?_
          refine s_goto (pc := 76) (tgt := 80) (dc dl_X11_boxes 49 rfl) rfl ?_
          exact s_wk (hj5 s3.1) rfl
        · refine s_iload_n (pc := 79) (dc dl_X11_boxes 50 rfl) rfl rfl ?_
          exact s_wk (hj5 s3.2.1) rfl
    · refine s_aload_n (pc := 33) (dc dl_X11_boxes 21 rfl) rfl rfl ?_
      refine s_getR (pc := 34) fl_X11_98 lk_Mo_0 kk_Mo_0_53 (dc dl_X11_boxes 22 rfl) ?_
      refine s_iload (pc := 37) (dc dl_X11_boxes 23 rfl) rfl ?_
      refine s_iald (pc := 39) lk_Mo_29 (dc dl_X11_boxes 24 rfl) (fun v7 => ?_)
      refine s_iconst (pc := 40) (v := 1) (dc dl_X11_boxes 25 rfl) ic_1 ?_
      refine s_jn (pj := 56) (fun a9 : Int32 => [some (.ref (ad 0)), some (.int x1), none, some (.int s3.2.1), some (.int s3.2.2)]) (fun a9 : Int32 => [.int a9]) (fun a9 => ?_) (fun j8 hj8 => ?_)
      · refine s_istore_n (pc := 56) (lv' := [some (.ref (ad 0)), some (.int x1), some (.int a9), some (.int s3.2.1), some (.int s3.2.2)]) (dc dl_X11_boxes 35 rfl) rfl (Nat.le_of_ble_eq_true rfl) rfl ?_
        refine s_iload_n (pc := 57) (dc dl_X11_boxes 36 rfl) rfl rfl ?_
        refine s_iconst (pc := 58) (v := 1) (dc dl_X11_boxes 37 rfl) ic_1 ?_
        refine s_iload_n (pc := 59) (dc dl_X11_boxes 38 rfl) rfl rfl ?_
        refine s_iconst (pc := 60) (v := 1) (dc dl_X11_boxes 39 rfl) ic_1 ?_
        refine s_isub (pc := 61) (dc dl_X11_boxes 40 rfl) ?_
        refine s_ishl (pc := 62) (dc dl_X11_boxes 41 rfl) ?_
        refine s_iadd (pc := 63) (dc dl_X11_boxes 42 rfl) ?_
        refine s_istore_nL (pc := 64) (lf' := fun y10 => [some (.ref (ad 0)), some (.int x1), some (.int a9), some (.int y10), some (.int s3.2.2)]) (dc dl_X11_boxes 43 rfl) rfl (Nat.le_of_ble_eq_true rfl) (fun _ => rfl) (fun y10 => ?_)
        refine s_iincL (pc := 65) (lf' := fun y11 => [some (.ref (ad 0)), some (.int x1), some (.int a9), some (.int y10), some (.int y11)]) (dc dl_X11_boxes 44 rfl) rfl rfl (Nat.le_of_ble_eq_true rfl) (fun _ => rfl) (fun y11 => ?_)
        refine s_goto (pc := 68) (tgt := 24) (dc dl_X11_boxes 45 rfl) rfl ?_
        exact s_wk (hself2 (a9, y10, y11)) rfl
      · refine s_icmp_ne (pc := 41) (tgt := 55) (dc dl_X11_boxes 26 rfl) rfl ?_ ?_
        · refine s_aload_n (pc := 44) (dc dl_X11_boxes 27 rfl) rfl rfl ?_
          refine s_iconst (pc := 45) (v := 5) (dc dl_X11_boxes 28 rfl) ic_5 ?_
          refine s_iload_n (pc := 46) (dc dl_X11_boxes 29 rfl) rfl rfl ?_
          refine s_iconst (pc := 47) (v := 1) (dc dl_X11_boxes 30 rfl) ic_1 ?_
          refine s_iadd (pc := 48) (dc dl_X11_boxes 31 rfl) ?_
          refine s_call (pc := 49) (rest := []) hG (calls_V (mi := mX11_boxes) (o := 0) (As := [.int 5, .int (s3.1 + 1)]) (rest := []) hG (dc dl_X11_boxes 32 rfl) mo_X11_lesser mv_X11_lesser ml_X11_362 ⟨Nat.le_of_ble_eq_true rfl, Nat.le_of_ble_eq_true rfl⟩ rfl rfl (Nat.le_of_ble_eq_true rfl) lk_Mo_0 rfl) (cn_X11_lesser l G hG ad 5 (s3.1 + 1)) rfl (fun r12 => ?_)
          refine s_goto (pc := 52) (tgt := 56) (dc dl_X11_boxes 33 rfl) rfl ?_
          exact s_wk (hj8 r12) rfl
        · refine s_iconst (pc := 55) (v := 1) (dc dl_X11_boxes 34 rfl) ic_1 ?_
          exact s_wk (hj8 1) rfl
def gX11_piles (x1 x2 : Int32) : MM Int32 :=
  bd (sv 0 0 0) fun _ =>
  bd (gX11_isIn x1 0 26) fun r1 =>
  jn (fun (a3 : Unit) =>
  pr ((-1))) (fun j2 =>
  (if r1 = 0 then
  j2 ()
  else
  bd (gX11_isIn x2 1000 1222) fun r4 =>
  (if r4 = 0 then
  j2 ()
  else
  nz 10 (
  (if 2 < (irm x2 10) then
  j2 ()
  else
  nz 10 (
  nz 10 (
  (if (irm (x2 / 10) 10) ≤ 2 then
  nz 100 (
  nz 10 (
  nz 3 (
  lt ((9 * (irm (x2 / 100) 10)) + (x1 / 3)) fun y5 =>
  nz 10 (
  nz 10 (
  nz 3 (
  lt ((9 * (irm (x2 / 10) 10)) + (y5 / 3)) fun y6 =>
  nz 10 (
  nz 3 (
  pr ((9 * (irm x2 10)) + (y6 / 3))))))))))
  else
  j2 ()))))))))
set_option maxHeartbeats 4000000 in
theorem cn_X11_piles (l : Launch) (G : Gl) (hG : gOk G) (ad : Nat → Nat) (x1 x2 : Int32) : Cn l G mX11_piles 1 lay_Mo ad [.ref (ad 0), .int x1, .int x2] (gX11_piles x1 x2) := by
  refine cn_of (lv := [some (.ref (ad 0)), some (.int x1), some (.int x2), none]) (by decide +kernel) rfl (Nat.le_of_ble_eq_true rfl) rfl ?_
  unfold gX11_piles
  refine s_aload_n (pc := 0) (dc dl_X11_piles 0 rfl) rfl rfl ?_
  refine s_iconst (pc := 1) (v := 0) (dc dl_X11_piles 1 rfl) ic_0 ?_
  refine s_putI (pc := 2) fw_X11_125 lk_Mo_0 kk_Mo_0_0 (dc dl_X11_piles 2 rfl) ?_
  refine s_aload_n (pc := 5) (dc dl_X11_piles 3 rfl) rfl rfl ?_
  refine s_iload_n (pc := 6) (dc dl_X11_piles 4 rfl) rfl rfl ?_
  refine s_iconst (pc := 7) (v := 0) (dc dl_X11_piles 5 rfl) ic_0 ?_
  refine s_bipush (pc := 8) (v := 26) (dc dl_X11_piles 6 rfl) bi_26 ?_
  refine s_call (pc := 10) (rest := []) hG (calls_V (mi := mX11_piles) (o := 0) (As := [.int x1, .int 0, .int 26]) (rest := []) hG (dc dl_X11_piles 7 rfl) mo_X11_isIn mv_X11_isIn ml_X11_150 ⟨Nat.le_of_ble_eq_true rfl, Nat.le_of_ble_eq_true rfl⟩ rfl rfl (Nat.le_of_ble_eq_true rfl) lk_Mo_0 rfl) (cn_X11_isIn l G hG ad x1 0 26) rfl (fun r1 => ?_)
  refine s_jn (pj := 49) (fun a3 : Unit => [none, none, none, none]) (fun a3 : Unit => []) (fun a3 => ?_) (fun j2 hj2 => ?_)
  · refine s_iconst (pc := 49) (v := (-1)) (dc dl_X11_piles 27 rfl) ic_m1 ?_
    exact s_ireturn (pc := 50) rfl (dc dl_X11_piles 28 rfl)
  · refine s_if_eq (pc := 13) (tgt := 49) (dc dl_X11_piles 8 rfl) rfl ?_ ?_
    · exact s_wk (hj2 ()) rfl
    · refine s_aload_n (pc := 16) (dc dl_X11_piles 9 rfl) rfl rfl ?_
      refine s_iload_n (pc := 17) (dc dl_X11_piles 10 rfl) rfl rfl ?_
      refine s_sipush (pc := 18) (v := 1000) (dc dl_X11_piles 11 rfl) si_1000 ?_
      refine s_sipush (pc := 21) (v := 1222) (dc dl_X11_piles 12 rfl) si_1222 ?_
      refine s_call (pc := 24) (rest := []) hG (calls_V (mi := mX11_piles) (o := 0) (As := [.int x2, .int 1000, .int 1222]) (rest := []) hG (dc dl_X11_piles 13 rfl) mo_X11_isIn mv_X11_isIn ml_X11_150 ⟨Nat.le_of_ble_eq_true rfl, Nat.le_of_ble_eq_true rfl⟩ rfl rfl (Nat.le_of_ble_eq_true rfl) lk_Mo_0 rfl) (cn_X11_isIn l G hG ad x2 1000 1222) rfl (fun r4 => ?_)
      refine s_if_eq (pc := 27) (tgt := 49) (dc dl_X11_piles 14 rfl) rfl ?_ ?_
      · exact s_wk (hj2 ()) rfl
      · refine s_iload_n (pc := 30) (dc dl_X11_piles 15 rfl) rfl rfl ?_
        refine s_bipush (pc := 31) (v := 10) (dc dl_X11_piles 16 rfl) bi_10 ?_
        refine s_irem (pc := 33) (dc dl_X11_piles 17 rfl) ?_
        refine s_iconst (pc := 34) (v := 2) (dc dl_X11_piles 18 rfl) ic_2 ?_
        refine s_icmp_gt (pc := 35) (tgt := 49) (dc dl_X11_piles 19 rfl) rfl ?_ ?_
        · exact s_wk (hj2 ()) rfl
        · refine s_iload_n (pc := 38) (dc dl_X11_piles 20 rfl) rfl rfl ?_
          refine s_bipush (pc := 39) (v := 10) (dc dl_X11_piles 21 rfl) bi_10 ?_
          refine s_idiv (pc := 41) (dc dl_X11_piles 22 rfl) ?_
          refine s_bipush (pc := 42) (v := 10) (dc dl_X11_piles 23 rfl) bi_10 ?_
          refine s_irem (pc := 44) (dc dl_X11_piles 24 rfl) ?_
          refine s_iconst (pc := 45) (v := 2) (dc dl_X11_piles 25 rfl) ic_2 ?_
          refine s_icmp_le (pc := 46) (tgt := 51) (dc dl_X11_piles 26 rfl) rfl ?_ ?_
          · refine s_bipush (pc := 51) (v := 9) (dc dl_X11_piles 29 rfl) bi_9 ?_
            refine s_iload_n (pc := 53) (dc dl_X11_piles 30 rfl) rfl rfl ?_
            refine s_bipush (pc := 54) (v := 100) (dc dl_X11_piles 31 rfl) bi_100 ?_
            refine s_idiv (pc := 56) (dc dl_X11_piles 32 rfl) ?_
            refine s_bipush (pc := 57) (v := 10) (dc dl_X11_piles 33 rfl) bi_10 ?_
            refine s_irem (pc := 59) (dc dl_X11_piles 34 rfl) ?_
            refine s_imul (pc := 60) (dc dl_X11_piles 35 rfl) ?_
            refine s_iload_n (pc := 61) (dc dl_X11_piles 36 rfl) rfl rfl ?_
            refine s_iconst (pc := 62) (v := 3) (dc dl_X11_piles 37 rfl) ic_3 ?_
            refine s_idiv (pc := 63) (dc dl_X11_piles 38 rfl) ?_
            refine s_iadd (pc := 64) (dc dl_X11_piles 39 rfl) ?_
            refine s_istore_nL (pc := 65) (lf' := fun y5 => [some (.ref (ad 0)), some (.int x1), some (.int x2), some (.int y5)]) (dc dl_X11_piles 40 rfl) rfl (Nat.le_of_ble_eq_true rfl) (fun _ => rfl) (fun y5 => ?_)
            refine s_bipush (pc := 66) (v := 9) (dc dl_X11_piles 41 rfl) bi_9 ?_
            refine s_iload_n (pc := 68) (dc dl_X11_piles 42 rfl) rfl rfl ?_
            refine s_bipush (pc := 69) (v := 10) (dc dl_X11_piles 43 rfl) bi_10 ?_
            refine s_idiv (pc := 71) (dc dl_X11_piles 44 rfl) ?_
            refine s_bipush (pc := 72) (v := 10) (dc dl_X11_piles 45 rfl) bi_10 ?_
            refine s_irem (pc := 74) (dc dl_X11_piles 46 rfl) ?_
            refine s_imul (pc := 75) (dc dl_X11_piles 47 rfl) ?_
            refine s_iload_n (pc := 76) (dc dl_X11_piles 48 rfl) rfl rfl ?_
            refine s_iconst (pc := 77) (v := 3) (dc dl_X11_piles 49 rfl) ic_3 ?_
            refine s_idiv (pc := 78) (dc dl_X11_piles 50 rfl) ?_
            refine s_iadd (pc := 79) (dc dl_X11_piles 51 rfl) ?_
            refine s_istore_nL (pc := 80) (lf' := fun y6 => [some (.ref (ad 0)), some (.int x1), some (.int x2), some (.int y6)]) (dc dl_X11_piles 52 rfl) rfl (Nat.le_of_ble_eq_true rfl) (fun _ => rfl) (fun y6 => ?_)
            refine s_bipush (pc := 81) (v := 9) (dc dl_X11_piles 53 rfl) bi_9 ?_
            refine s_iload_n (pc := 83) (dc dl_X11_piles 54 rfl) rfl rfl ?_
            refine s_bipush (pc := 84) (v := 10) (dc dl_X11_piles 55 rfl) bi_10 ?_
            refine s_irem (pc := 86) (dc dl_X11_piles 56 rfl) ?_
            refine s_imul (pc := 87) (dc dl_X11_piles 57 rfl) ?_
            refine s_iload_n (pc := 88) (dc dl_X11_piles 58 rfl) rfl rfl ?_
            refine s_iconst (pc := 89) (v := 3) (dc dl_X11_piles 59 rfl) ic_3 ?_
            refine s_idiv (pc := 90) (dc dl_X11_piles 60 rfl) ?_
            refine s_iadd (pc := 91) (dc dl_X11_piles 61 rfl) ?_
            exact s_ireturn (pc := 92) rfl (dc dl_X11_piles 62 rfl)
          · exact s_wk (hj2 ()) rfl
def gX11_dealt (x1 : Int32) : MM Int32 :=
  bd (sv 0 0 0) fun _ =>
  bd (gX11_isIn x1 0 26) fun r1 =>
  jn (fun (a3 : Int32) =>
  pr a3) (fun j2 =>
  (if r1 = 0 then
  j2 ((-1))
  else
  nz 3 (
  nz 3 (
  nz 3 (
  nz 9 (
  j2 (((1000 + (100 * (irm x1 3))) + (10 * (irm (x1 / 3) 3))) + (x1 / 9))))))))
set_option maxHeartbeats 4000000 in
theorem cn_X11_dealt (l : Launch) (G : Gl) (hG : gOk G) (ad : Nat → Nat) (x1 : Int32) : Cn l G mX11_dealt 1 lay_Mo ad [.ref (ad 0), .int x1] (gX11_dealt x1) := by
  refine cn_of (lv := [some (.ref (ad 0)), some (.int x1)]) (by decide +kernel) rfl (Nat.le_of_ble_eq_true rfl) rfl ?_
  unfold gX11_dealt
  refine s_aload_n (pc := 0) (dc dl_X11_dealt 0 rfl) rfl rfl ?_
  refine s_iconst (pc := 1) (v := 0) (dc dl_X11_dealt 1 rfl) ic_0 ?_
  refine s_putI (pc := 2) fw_X11_125 lk_Mo_0 kk_Mo_0_0 (dc dl_X11_dealt 2 rfl) ?_
  refine s_aload_n (pc := 5) (dc dl_X11_dealt 3 rfl) rfl rfl ?_
  refine s_iload_n (pc := 6) (dc dl_X11_dealt 4 rfl) rfl rfl ?_
  refine s_iconst (pc := 7) (v := 0) (dc dl_X11_dealt 5 rfl) ic_0 ?_
  refine s_bipush (pc := 8) (v := 26) (dc dl_X11_dealt 6 rfl) bi_26 ?_
  refine s_call (pc := 10) (rest := []) hG (calls_V (mi := mX11_dealt) (o := 0) (As := [.int x1, .int 0, .int 26]) (rest := []) hG (dc dl_X11_dealt 7 rfl) mo_X11_isIn mv_X11_isIn ml_X11_150 ⟨Nat.le_of_ble_eq_true rfl, Nat.le_of_ble_eq_true rfl⟩ rfl rfl (Nat.le_of_ble_eq_true rfl) lk_Mo_0 rfl) (cn_X11_isIn l G hG ad x1 0 26) rfl (fun r1 => ?_)
  refine s_jn (pj := 44) (fun a3 : Int32 => [none, none]) (fun a3 : Int32 => [.int a3]) (fun a3 => ?_) (fun j2 hj2 => ?_)
  · exact s_ireturn (pc := 44) rfl (dc dl_X11_dealt 30 rfl)
  · refine s_if_eq (pc := 13) (tgt := 43) (dc dl_X11_dealt 8 rfl) rfl ?_ ?_
    · refine s_iconst (pc := 43) (v := (-1)) (dc dl_X11_dealt 29 rfl) ic_m1 ?_
      exact s_wk (hj2 ((-1))) rfl
    · refine s_sipush (pc := 16) (v := 1000) (dc dl_X11_dealt 9 rfl) si_1000 ?_
      refine s_bipush (pc := 19) (v := 100) (dc dl_X11_dealt 10 rfl) bi_100 ?_
      refine s_iload_n (pc := 21) (dc dl_X11_dealt 11 rfl) rfl rfl ?_
      refine s_iconst (pc := 22) (v := 3) (dc dl_X11_dealt 12 rfl) ic_3 ?_
      refine s_irem (pc := 23) (dc dl_X11_dealt 13 rfl) ?_
      refine s_imul (pc := 24) (dc dl_X11_dealt 14 rfl) ?_
      refine s_iadd (pc := 25) (dc dl_X11_dealt 15 rfl) ?_
      refine s_bipush (pc := 26) (v := 10) (dc dl_X11_dealt 16 rfl) bi_10 ?_
      refine s_iload_n (pc := 28) (dc dl_X11_dealt 17 rfl) rfl rfl ?_
      refine s_iconst (pc := 29) (v := 3) (dc dl_X11_dealt 18 rfl) ic_3 ?_
      refine s_idiv (pc := 30) (dc dl_X11_dealt 19 rfl) ?_
      refine s_iconst (pc := 31) (v := 3) (dc dl_X11_dealt 20 rfl) ic_3 ?_
      refine s_irem (pc := 32) (dc dl_X11_dealt 21 rfl) ?_
      refine s_imul (pc := 33) (dc dl_X11_dealt 22 rfl) ?_
      refine s_iadd (pc := 34) (dc dl_X11_dealt 23 rfl) ?_
      refine s_iload_n (pc := 35) (dc dl_X11_dealt 24 rfl) rfl rfl ?_
      refine s_bipush (pc := 36) (v := 9) (dc dl_X11_dealt 25 rfl) bi_9 ?_
      refine s_idiv (pc := 38) (dc dl_X11_dealt 26 rfl) ?_
      refine s_iadd (pc := 39) (dc dl_X11_dealt 27 rfl) ?_
      refine s_goto (pc := 40) (tgt := 44) (dc dl_X11_dealt 28 rfl) rfl ?_
      exact s_wk (hj2 (((1000 + (100 * (irm x1 3))) + (10 * (irm (x1 / 3) 3))) + (x1 / 9))) rfl
def gX11_key (x1 : Int32) : MM Int32 :=
  bd (sv 0 0 0) fun _ =>
  (if x1 = ((-1)) then
  bd (sv 0 54 0) fun _ =>
  pr 0
  else
  bd (gX11_isIn x1 0 99) fun r1 =>
  jn (fun (a3 : Unit) =>
  pr ((-1))) (fun j2 =>
  (if r1 = 0 then
  j2 ()
  else
  bd (ld 0 54) fun v4 =>
  (if v4 = 12 then
  j2 ()
  else
  bd (ld 0 54) fun v5 =>
  bd (sa 30 v5 x1) fun _ =>
  bd (ld 0 54) fun v6 =>
  bd (sv 0 54 (v6 + 1)) fun _ =>
  bd (ld 0 54) fun v7 =>
  pr v7))))
set_option maxHeartbeats 4000000 in
theorem cn_X11_key (l : Launch) (G : Gl) (hG : gOk G) (ad : Nat → Nat) (x1 : Int32) : Cn l G mX11_key 1 lay_Mo ad [.ref (ad 0), .int x1] (gX11_key x1) := by
  refine cn_of (lv := [some (.ref (ad 0)), some (.int x1)]) (by decide +kernel) rfl (Nat.le_of_ble_eq_true rfl) rfl ?_
  unfold gX11_key
  refine s_aload_n (pc := 0) (dc dl_X11_key 0 rfl) rfl rfl ?_
  refine s_iconst (pc := 1) (v := 0) (dc dl_X11_key 1 rfl) ic_0 ?_
  refine s_putI (pc := 2) fw_X11_125 lk_Mo_0 kk_Mo_0_0 (dc dl_X11_key 2 rfl) ?_
  refine s_iload_n (pc := 5) (dc dl_X11_key 3 rfl) rfl rfl ?_
  refine s_iconst (pc := 6) (v := (-1)) (dc dl_X11_key 4 rfl) ic_m1 ?_
  refine s_icmp_ne (pc := 7) (tgt := 17) (dc dl_X11_key 5 rfl) rfl ?_ ?_
  · refine s_aload_n (pc := 10) (dc dl_X11_key 6 rfl) rfl rfl ?_
    refine s_iconst (pc := 11) (v := 0) (dc dl_X11_key 7 rfl) ic_0 ?_
    refine s_putI (pc := 12) fw_X11_450 lk_Mo_0 kk_Mo_0_54 (dc dl_X11_key 8 rfl) ?_
    refine s_iconst (pc := 15) (v := 0) (dc dl_X11_key 9 rfl) ic_0 ?_
    exact s_ireturn (pc := 16) rfl (dc dl_X11_key 10 rfl)
  · refine s_aload_n (pc := 17) (dc dl_X11_key 11 rfl) rfl rfl ?_
    refine s_iload_n (pc := 18) (dc dl_X11_key 12 rfl) rfl rfl ?_
    refine s_iconst (pc := 19) (v := 0) (dc dl_X11_key 13 rfl) ic_0 ?_
    refine s_bipush (pc := 20) (v := 99) (dc dl_X11_key 14 rfl) bi_99 ?_
    refine s_call (pc := 22) (rest := []) hG (calls_V (mi := mX11_key) (o := 0) (As := [.int x1, .int 0, .int 99]) (rest := []) hG (dc dl_X11_key 15 rfl) mo_X11_isIn mv_X11_isIn ml_X11_150 ⟨Nat.le_of_ble_eq_true rfl, Nat.le_of_ble_eq_true rfl⟩ rfl rfl (Nat.le_of_ble_eq_true rfl) lk_Mo_0 rfl) (cn_X11_isIn l G hG ad x1 0 99) rfl (fun r1 => ?_)
    refine s_jn (pj := 37) (fun a3 : Unit => [none, none]) (fun a3 : Unit => []) (fun a3 => ?_) (fun j2 hj2 => ?_)
    · refine s_iconst (pc := 37) (v := (-1)) (dc dl_X11_key 21 rfl) ic_m1 ?_
      exact s_ireturn (pc := 38) rfl (dc dl_X11_key 22 rfl)
    · refine s_if_eq (pc := 25) (tgt := 37) (dc dl_X11_key 16 rfl) rfl ?_ ?_
      · exact s_wk (hj2 ()) rfl
      · refine s_aload_n (pc := 28) (dc dl_X11_key 17 rfl) rfl rfl ?_
        refine s_getI (pc := 29) fl_X11_450 lk_Mo_0 kk_Mo_0_54 (dc dl_X11_key 18 rfl) (fun v4 => ?_)
        refine s_bipush (pc := 32) (v := 12) (dc dl_X11_key 19 rfl) bi_12 ?_
        refine s_icmp_ne (pc := 34) (tgt := 39) (dc dl_X11_key 20 rfl) rfl ?_ ?_
        · exact s_wk (hj2 ()) rfl
        · refine s_aload_n (pc := 39) (dc dl_X11_key 23 rfl) rfl rfl ?_
          refine s_getR (pc := 40) fl_X11_101 lk_Mo_0 kk_Mo_0_55 (dc dl_X11_key 24 rfl) ?_
          refine s_aload_n (pc := 43) (dc dl_X11_key 25 rfl) rfl rfl ?_
          refine s_getI (pc := 44) fl_X11_450 lk_Mo_0 kk_Mo_0_54 (dc dl_X11_key 26 rfl) (fun v5 => ?_)
          refine s_iload_n (pc := 47) (dc dl_X11_key 27 rfl) rfl rfl ?_
          refine s_iast (pc := 48) lk_Mo_30 (dc dl_X11_key 28 rfl) ?_
          refine s_aload_n (pc := 49) (dc dl_X11_key 29 rfl) rfl rfl ?_
          refine s_aload_n (pc := 50) (dc dl_X11_key 30 rfl) rfl rfl ?_
          refine s_getI (pc := 51) fl_X11_450 lk_Mo_0 kk_Mo_0_54 (dc dl_X11_key 31 rfl) (fun v6 => ?_)
          refine s_iconst (pc := 54) (v := 1) (dc dl_X11_key 32 rfl) ic_1 ?_
          refine s_iadd (pc := 55) (dc dl_X11_key 33 rfl) ?_
          refine s_putI (pc := 56) fw_X11_450 lk_Mo_0 kk_Mo_0_54 (dc dl_X11_key 34 rfl) ?_
          refine s_aload_n (pc := 59) (dc dl_X11_key 35 rfl) rfl rfl ?_
          refine s_getI (pc := 60) fl_X11_450 lk_Mo_0 kk_Mo_0_54 (dc dl_X11_key 36 rfl) (fun v7 => ?_)
          exact s_ireturn (pc := 63) rfl (dc dl_X11_key 37 rfl)
def gX11_looksFor (x1 x2 : Int32) : MM Int32 :=
  nz x1 (
  lt (irm x2 x1) fun y1 =>
  loopC 100000 (fun (self2 : (Int32 × Int32) → MM Int32) (s3 : Int32 × Int32) =>
  jn (fun (a5 : Unit) =>
  pr s3.1) (fun j4 =>
  (if x1 ≤ s3.1 then
  j4 ()
  else
  bd (la 31 s3.2) fun v6 =>
  (if v6 = 0 then
  j4 ()
  else
  bd (la 31 s3.2) fun v7 =>
  (if v7 = (x2 + 1) then
  j4 ()
  else
  nz x1 (
  lt (irm (s3.2 + 1) x1) fun y8 =>
  lt (s3.1 + 1) fun y9 =>
  self2 (y9, y8))))))) (1, y1))
set_option maxHeartbeats 4000000 in
theorem cn_X11_looksFor (l : Launch) (G : Gl) (hG : gOk G) (ad : Nat → Nat) (x1 x2 : Int32) : Cn l G mX11_looksFor 0 lay_Mo ad [.ref (ad 0), .int x1, .int x2] (gX11_looksFor x1 x2) := by
  refine cn_of (lv := [some (.ref (ad 0)), some (.int x1), some (.int x2), none, none]) (by decide +kernel) rfl (Nat.le_of_ble_eq_true rfl) rfl ?_
  unfold gX11_looksFor
  refine s_iconst (pc := 0) (v := 1) (dc dl_X11_looksFor 0 rfl) ic_1 ?_
  refine s_istore_n (pc := 1) (lv' := [some (.ref (ad 0)), some (.int x1), some (.int x2), some (.int 1), none]) (dc dl_X11_looksFor 1 rfl) rfl (Nat.le_of_ble_eq_true rfl) rfl ?_
  refine s_iload_n (pc := 2) (dc dl_X11_looksFor 2 rfl) rfl rfl ?_
  refine s_iload_n (pc := 3) (dc dl_X11_looksFor 3 rfl) rfl rfl ?_
  refine s_irem (pc := 4) (dc dl_X11_looksFor 4 rfl) ?_
  refine s_istoreL (pc := 5) (lf' := fun y1 => [some (.ref (ad 0)), some (.int x1), some (.int x2), some (.int 1), some (.int y1)]) (dc dl_X11_looksFor 5 rfl) (Nat.le_of_ble_eq_true rfl) (fun _ => rfl) (fun y1 => ?_)
  refine s_weak (lv' := [some (.ref (ad 0)), some (.int x1), some (.int x2), some (.int 1), some (.int y1)]) rfl ?_
  refine s_loop (pc := 7) (fun s3 : Int32 × Int32 => [some (.ref (ad 0)), some (.int x1), some (.int x2), some (.int s3.1), some (.int s3.2)]) [] (fun self2 hself2 s3 => ?_) _ (1, y1)
  refine s_iload_n (pc := 7) (dc dl_X11_looksFor 6 rfl) rfl rfl ?_
  refine s_iload_n (pc := 8) (dc dl_X11_looksFor 7 rfl) rfl rfl ?_
  refine s_jn (pj := 50) (fun a5 : Unit => [none, none, none, some (.int s3.1), none]) (fun a5 : Unit => []) (fun a5 => ?_) (fun j4 hj4 => ?_)
  · refine s_iload_n (pc := 50) (dc dl_X11_looksFor 33 rfl) rfl rfl ?_
    exact s_ireturn (pc := 51) rfl (dc dl_X11_looksFor 34 rfl)
  · refine s_icmp_ge (pc := 9) (tgt := 50) (dc dl_X11_looksFor 8 rfl) rfl ?_ ?_
    · exact s_wk (hj4 ()) rfl
    · refine s_aload_n (pc := 12) (dc dl_X11_looksFor 9 rfl) rfl rfl ?_
      refine s_getR (pc := 13) fl_X11_104 lk_Mo_0 kk_Mo_0_56 (dc dl_X11_looksFor 10 rfl) ?_
      refine s_iload (pc := 16) (dc dl_X11_looksFor 11 rfl) rfl ?_
      refine s_iald (pc := 18) lk_Mo_31 (dc dl_X11_looksFor 12 rfl) (fun v6 => ?_)
      refine s_if_eq (pc := 19) (tgt := 50) (dc dl_X11_looksFor 13 rfl) rfl ?_ ?_
      · exact s_wk (hj4 ()) rfl
      · refine s_aload_n (pc := 22) (dc dl_X11_looksFor 14 rfl) rfl rfl ?_
        refine s_getR (pc := 23) fl_X11_104 lk_Mo_0 kk_Mo_0_56 (dc dl_X11_looksFor 15 rfl) ?_
        refine s_iload (pc := 26) (dc dl_X11_looksFor 16 rfl) rfl ?_
        refine s_iald (pc := 28) lk_Mo_31 (dc dl_X11_looksFor 17 rfl) (fun v7 => ?_)
        refine s_iload_n (pc := 29) (dc dl_X11_looksFor 18 rfl) rfl rfl ?_
        refine s_iconst (pc := 30) (v := 1) (dc dl_X11_looksFor 19 rfl) ic_1 ?_
        refine s_iadd (pc := 31) (dc dl_X11_looksFor 20 rfl) ?_
        refine s_icmp_eq (pc := 32) (tgt := 50) (dc dl_X11_looksFor 21 rfl) rfl ?_ ?_
        · exact s_wk (hj4 ()) rfl
        · refine s_iload (pc := 35) (dc dl_X11_looksFor 22 rfl) rfl ?_
          refine s_iconst (pc := 37) (v := 1) (dc dl_X11_looksFor 23 rfl) ic_1 ?_
          refine s_iadd (pc := 38) (dc dl_X11_looksFor 24 rfl) ?_
          refine s_iload_n (pc := 39) (dc dl_X11_looksFor 25 rfl) rfl rfl ?_
          refine s_irem (pc := 40) (dc dl_X11_looksFor 26 rfl) ?_
          refine s_istoreL (pc := 41) (lf' := fun y8 => [some (.ref (ad 0)), some (.int x1), some (.int x2), some (.int s3.1), some (.int y8)]) (dc dl_X11_looksFor 27 rfl) (Nat.le_of_ble_eq_true rfl) (fun _ => rfl) (fun y8 => ?_)
          refine s_iload_n (pc := 43) (dc dl_X11_looksFor 28 rfl) rfl rfl ?_
          refine s_iconst (pc := 44) (v := 1) (dc dl_X11_looksFor 29 rfl) ic_1 ?_
          refine s_iadd (pc := 45) (dc dl_X11_looksFor 30 rfl) ?_
          refine s_istore_nL (pc := 46) (lf' := fun y9 => [some (.ref (ad 0)), some (.int x1), some (.int x2), some (.int y9), some (.int y8)]) (dc dl_X11_looksFor 31 rfl) rfl (Nat.le_of_ble_eq_true rfl) (fun _ => rfl) (fun y9 => ?_)
          refine s_goto (pc := 47) (tgt := 7) (dc dl_X11_looksFor 32 rfl) rfl ?_
          exact s_wk (hself2 (y9, y8)) rfl
def gX11_table (x1 x2 x3 : Int32) : MM Int32 :=
  bd (sv 0 0 0) fun _ =>
  bd (gX11_isIn x1 2 16) fun r1 =>
  jn (fun (a3 : Unit) =>
  pr ((-1))) (fun j2 =>
  (if r1 = 0 then
  j2 ()
  else
  bd (gX11_isIn x2 0 99) fun r4 =>
  (if r4 = 0 then
  j2 ()
  else
  bd (gX11_isIn x3 0 1) fun r5 =>
  (if r5 = 0 then
  j2 ()
  else
  loopC 100000 (fun (self6 : Int32 → MM Int32) (s7 : Int32) =>
  (if x1 ≤ s7 then
  loopC 100000 (fun (self8 : Int32 → MM Int32) (s9 : Int32) =>
  bd (ld 0 54) fun v10 =>
  (if v10 ≤ s9 then
  bd (gX11_looksFor x1 x2) fun r11 =>
  nz x1 (
  nz x1 (
  lt (irm (((irm x2 x1) + r11) - 1) x1) fun y12 =>
  jn (fun (a14 : Int32) =>
  pr a14) (fun j13 =>
  (if x3 = 1 then
  j13 r11
  else
  bd (la 31 y12) fun v15 =>
  (if v15 = (x2 + 1) then
  j13 y12
  else
  j13 ((-1)))))))
  else
  bd (la 30 s9) fun v16 =>
  nz x1 (
  bd (la 30 s9) fun v17 =>
  bd (gX11_looksFor x1 v17) fun r18 =>
  nz x1 (
  lt (irm (((irm v16 x1) + r18) - 1) x1) fun y19 =>
  bd (la 31 y19) fun v20 =>
  jn (fun (a22 : Unit) =>
  lt (s9 + 1) fun y23 =>
  self8 y23) (fun j21 =>
  (if v20 = 0 then
  bd (la 30 s9) fun v24 =>
  bd (sa 31 y19 (v24 + 1)) fun _ =>
  j21 ()
  else
  j21 ())))))) 0
  else
  bd (sa 31 s7 0) fun _ =>
  lt (s7 + 1) fun y25 =>
  self6 y25)) 0))))
set_option maxHeartbeats 4000000 in
theorem cn_X11_table (l : Launch) (G : Gl) (hG : gOk G) (ad : Nat → Nat) (x1 x2 x3 : Int32) : Cn l G mX11_table 1 lay_Mo ad [.ref (ad 0), .int x1, .int x2, .int x3] (gX11_table x1 x2 x3) := by
  refine cn_of (lv := [some (.ref (ad 0)), some (.int x1), some (.int x2), some (.int x3), none, none]) (by decide +kernel) rfl (Nat.le_of_ble_eq_true rfl) rfl ?_
  unfold gX11_table
  refine s_aload_n (pc := 0) (dc dl_X11_table 0 rfl) rfl rfl ?_
  refine s_iconst (pc := 1) (v := 0) (dc dl_X11_table 1 rfl) ic_0 ?_
  refine s_putI (pc := 2) fw_X11_125 lk_Mo_0 kk_Mo_0_0 (dc dl_X11_table 2 rfl) ?_
  refine s_aload_n (pc := 5) (dc dl_X11_table 3 rfl) rfl rfl ?_
  refine s_iload_n (pc := 6) (dc dl_X11_table 4 rfl) rfl rfl ?_
  refine s_iconst (pc := 7) (v := 2) (dc dl_X11_table 5 rfl) ic_2 ?_
  refine s_bipush (pc := 8) (v := 16) (dc dl_X11_table 6 rfl) bi_16 ?_
  refine s_call (pc := 10) (rest := []) hG (calls_V (mi := mX11_table) (o := 0) (As := [.int x1, .int 2, .int 16]) (rest := []) hG (dc dl_X11_table 7 rfl) mo_X11_isIn mv_X11_isIn ml_X11_150 ⟨Nat.le_of_ble_eq_true rfl, Nat.le_of_ble_eq_true rfl⟩ rfl rfl (Nat.le_of_ble_eq_true rfl) lk_Mo_0 rfl) (cn_X11_isIn l G hG ad x1 2 16) rfl (fun r1 => ?_)
  refine s_jn (pj := 37) (fun a3 : Unit => [none, none, none, none, none, none]) (fun a3 : Unit => []) (fun a3 => ?_) (fun j2 hj2 => ?_)
  · refine s_iconst (pc := 37) (v := (-1)) (dc dl_X11_table 21 rfl) ic_m1 ?_
    exact s_ireturn (pc := 38) rfl (dc dl_X11_table 22 rfl)
  · refine s_if_eq (pc := 13) (tgt := 37) (dc dl_X11_table 8 rfl) rfl ?_ ?_
    · exact s_wk (hj2 ()) rfl
    · refine s_aload_n (pc := 16) (dc dl_X11_table 9 rfl) rfl rfl ?_
      refine s_iload_n (pc := 17) (dc dl_X11_table 10 rfl) rfl rfl ?_
      refine s_iconst (pc := 18) (v := 0) (dc dl_X11_table 11 rfl) ic_0 ?_
      refine s_bipush (pc := 19) (v := 99) (dc dl_X11_table 12 rfl) bi_99 ?_
      refine s_call (pc := 21) (rest := []) hG (calls_V (mi := mX11_table) (o := 0) (As := [.int x2, .int 0, .int 99]) (rest := []) hG (dc dl_X11_table 13 rfl) mo_X11_isIn mv_X11_isIn ml_X11_150 ⟨Nat.le_of_ble_eq_true rfl, Nat.le_of_ble_eq_true rfl⟩ rfl rfl (Nat.le_of_ble_eq_true rfl) lk_Mo_0 rfl) (cn_X11_isIn l G hG ad x2 0 99) rfl (fun r4 => ?_)
      refine s_if_eq (pc := 24) (tgt := 37) (dc dl_X11_table 14 rfl) rfl ?_ ?_
      · exact s_wk (hj2 ()) rfl
      · refine s_aload_n (pc := 27) (dc dl_X11_table 15 rfl) rfl rfl ?_
        refine s_iload_n (pc := 28) (dc dl_X11_table 16 rfl) rfl rfl ?_
        refine s_iconst (pc := 29) (v := 0) (dc dl_X11_table 17 rfl) ic_0 ?_
        refine s_iconst (pc := 30) (v := 1) (dc dl_X11_table 18 rfl) ic_1 ?_
        refine s_call (pc := 31) (rest := []) hG (calls_V (mi := mX11_table) (o := 0) (As := [.int x3, .int 0, .int 1]) (rest := []) hG (dc dl_X11_table 19 rfl) mo_X11_isIn mv_X11_isIn ml_X11_150 ⟨Nat.le_of_ble_eq_true rfl, Nat.le_of_ble_eq_true rfl⟩ rfl rfl (Nat.le_of_ble_eq_true rfl) lk_Mo_0 rfl) (cn_X11_isIn l G hG ad x3 0 1) rfl (fun r5 => ?_)
        refine s_if_ne (pc := 34) (tgt := 39) (dc dl_X11_table 20 rfl) rfl ?_ ?_
        · exact s_wk (hj2 ()) rfl
        · refine s_iconst (pc := 39) (v := 0) (dc dl_X11_table 23 rfl) ic_0 ?_
          refine s_istore (pc := 40) (lv' := [some (.ref (ad 0)), some (.int x1), some (.int x2), some (.int x3), some (.int 0), none]) (dc dl_X11_table 24 rfl) (Nat.le_of_ble_eq_true rfl) rfl ?_
          refine s_weak (lv' := [some (.ref (ad 0)), some (.int x1), some (.int x2), some (.int x3), some (.int 0), none]) rfl ?_
          refine s_loop (pc := 42) (fun s7 : Int32 => [some (.ref (ad 0)), some (.int x1), some (.int x2), some (.int x3), some (.int s7), none]) [] (fun self6 hself6 s7 => ?_) _ 0
          refine s_iload (pc := 42) (dc dl_X11_table 25 rfl) rfl ?_
          refine s_iload_n (pc := 44) (dc dl_X11_table 26 rfl) rfl rfl ?_
          refine s_icmp_ge (pc := 45) (tgt := 62) (dc dl_X11_table 27 rfl) rfl ?_ ?_
          · refine s_iconst (pc := 62) (v := 0) (dc dl_X11_table 35 rfl) ic_0 ?_
            refine s_istore (pc := 63) (lv' := [some (.ref (ad 0)), some (.int x1), some (.int x2), some (.int x3), some (.int 0), none]) (dc dl_X11_table 36 rfl) (Nat.le_of_ble_eq_true rfl) rfl ?_
            refine s_weak (lv' := [some (.ref (ad 0)), some (.int x1), some (.int x2), some (.int x3), some (.int 0), none]) rfl ?_
            refine s_loop (pc := 65) (fun s9 : Int32 => [some (.ref (ad 0)), some (.int x1), some (.int x2), some (.int x3), some (.int s9), none]) [] (fun self8 hself8 s9 => ?_) _ 0
            refine s_iload (pc := 65) (dc dl_X11_table 37 rfl) rfl ?_
            refine s_aload_n (pc := 67) (dc dl_X11_table 38 rfl) rfl rfl ?_
            refine s_getI (pc := 68) fl_X11_450 lk_Mo_0 kk_Mo_0_54 (dc dl_X11_table 39 rfl) (fun v10 => ?_)
            refine s_icmp_ge (pc := 71) (tgt := 134) (dc dl_X11_table 40 rfl) rfl ?_ ?_
            · refine s_aload_n (pc := 134) (dc dl_X11_table 77 rfl) rfl rfl ?_
              refine s_iload_n (pc := 135) (dc dl_X11_table 78 rfl) rfl rfl ?_
              refine s_iload_n (pc := 136) (dc dl_X11_table 79 rfl) rfl rfl ?_
              refine s_call (pc := 137) (rest := []) hG (calls_V (mi := mX11_table) (o := 0) (As := [.int x1, .int x2]) (rest := []) hG (dc dl_X11_table 80 rfl) mo_X11_looksFor mv_X11_looksFor ml_X11_453 ⟨Nat.le_of_ble_eq_true rfl, Nat.le_of_ble_eq_true rfl⟩ rfl rfl (Nat.le_of_ble_eq_true rfl) lk_Mo_0 rfl) (cn_X11_looksFor l G hG ad x1 x2) rfl (fun r11 => ?_)
              refine s_istore (pc := 140) (lv' := [some (.ref (ad 0)), some (.int x1), some (.int x2), some (.int x3), some (.int r11), none]) (dc dl_X11_table 81 rfl) (Nat.le_of_ble_eq_true rfl) rfl ?_
              refine s_iload_n (pc := 142) (dc dl_X11_table 82 rfl) rfl rfl ?_
              refine s_iload_n (pc := 143) (dc dl_X11_table 83 rfl) rfl rfl ?_
              refine s_irem (pc := 144) (dc dl_X11_table 84 rfl) ?_
              refine s_iload (pc := 145) (dc dl_X11_table 85 rfl) rfl ?_
              refine s_iadd (pc := 147) (dc dl_X11_table 86 rfl) ?_
              refine s_iconst (pc := 148) (v := 1) (dc dl_X11_table 87 rfl) ic_1 ?_
              refine s_isub (pc := 149) (dc dl_X11_table 88 rfl) ?_
              refine s_iload_n (pc := 150) (dc dl_X11_table 89 rfl) rfl rfl ?_
              refine s_irem (pc := 151) (dc dl_X11_table 90 rfl) ?_
              refine s_istoreL (pc := 152) (lf' := fun y12 => [some (.ref (ad 0)), some (.int x1), some (.int x2), some (.int x3), some (.int r11), some (.int y12)]) (dc dl_X11_table 91 rfl) (Nat.le_of_ble_eq_true rfl) (fun _ => rfl) (fun y12 => ?_)
              refine s_iload_n (pc := 154) (dc dl_X11_table 92 rfl) rfl rfl ?_
              refine s_iconst (pc := 155) (v := 1) (dc dl_X11_table 93 rfl) ic_1 ?_
              refine s_jn (pj := 183) (fun a14 : Int32 => [none, none, none, none, none, none]) (fun a14 : Int32 => [.int a14]) (fun a14 => ?_) (fun j13 hj13 => ?_)
              · exact s_ireturn (pc := 183) rfl (dc dl_X11_table 108 rfl)
              · refine s_icmp_ne (pc := 156) (tgt := 164) (dc dl_X11_table 94 rfl) rfl ?_ ?_
                · refine s_iload (pc := 159) (dc dl_X11_table 95 rfl) rfl ?_
                  refine s_goto (pc := 161) (tgt := 183) (dc dl_X11_table 96 rfl) rfl ?_
                  exact s_wk (hj13 r11) rfl
                · refine s_aload_n (pc := 164) (dc dl_X11_table 97 rfl) rfl rfl ?_
                  refine s_getR (pc := 165) fl_X11_104 lk_Mo_0 kk_Mo_0_56 (dc dl_X11_table 98 rfl) ?_
                  refine s_iload (pc := 168) (dc dl_X11_table 99 rfl) rfl ?_
                  refine s_iald (pc := 170) lk_Mo_31 (dc dl_X11_table 100 rfl) (fun v15 => ?_)
                  refine s_iload_n (pc := 171) (dc dl_X11_table 101 rfl) rfl rfl ?_
                  refine s_iconst (pc := 172) (v := 1) (dc dl_X11_table 102 rfl) ic_1 ?_
                  refine s_iadd (pc := 173) (dc dl_X11_table 103 rfl) ?_
                  refine s_icmp_ne (pc := 174) (tgt := 182) (dc dl_X11_table 104 rfl) rfl ?_ ?_
                  · refine s_iload (pc := 177) (dc dl_X11_table 105 rfl) rfl ?_
                    refine s_goto (pc := 179) (tgt := 183) (dc dl_X11_table 106 rfl) rfl ?_
                    exact s_wk (hj13 y12) rfl
                  · refine s_iconst (pc := 182) (v := (-1)) (dc dl_X11_table 107 rfl) ic_m1 ?_
                    exact s_wk (hj13 ((-1))) rfl
            · refine s_aload_n (pc := 74) (dc dl_X11_table 41 rfl) rfl rfl ?_
              refine s_getR (pc := 75) fl_X11_101 lk_Mo_0 kk_Mo_0_55 (dc dl_X11_table 42 rfl) ?_
              refine s_iload (pc := 78) (dc dl_X11_table 43 rfl) rfl ?_
              refine s_iald (pc := 80) lk_Mo_30 (dc dl_X11_table 44 rfl) (fun v16 => ?_)
              refine s_iload_n (pc := 81) (dc dl_X11_table 45 rfl) rfl rfl ?_
              refine s_irem (pc := 82) (dc dl_X11_table 46 rfl) ?_
              refine s_aload_n (pc := 83) (dc dl_X11_table 47 rfl) rfl rfl ?_
              refine s_iload_n (pc := 84) (dc dl_X11_table 48 rfl) rfl rfl ?_
              refine s_aload_n (pc := 85) (dc dl_X11_table 49 rfl) rfl rfl ?_
              refine s_getR (pc := 86) fl_X11_101 lk_Mo_0 kk_Mo_0_55 (dc dl_X11_table 50 rfl) ?_
              refine s_iload (pc := 89) (dc dl_X11_table 51 rfl) rfl ?_
              refine s_iald (pc := 91) lk_Mo_30 (dc dl_X11_table 52 rfl) (fun v17 => ?_)
              refine s_call (pc := 92) (rest := [.int (irm v16 x1)]) hG (calls_V (mi := mX11_table) (o := 0) (As := [.int x1, .int v17]) (rest := [.int (irm v16 x1)]) hG (dc dl_X11_table 53 rfl) mo_X11_looksFor mv_X11_looksFor ml_X11_453 ⟨Nat.le_of_ble_eq_true rfl, Nat.le_of_ble_eq_true rfl⟩ rfl rfl (Nat.le_of_ble_eq_true rfl) lk_Mo_0 rfl) (cn_X11_looksFor l G hG ad x1 v17) rfl (fun r18 => ?_)
              refine s_iadd (pc := 95) (dc dl_X11_table 54 rfl) ?_
              refine s_iconst (pc := 96) (v := 1) (dc dl_X11_table 55 rfl) ic_1 ?_
              refine s_isub (pc := 97) (dc dl_X11_table 56 rfl) ?_
              refine s_iload_n (pc := 98) (dc dl_X11_table 57 rfl) rfl rfl ?_
              refine s_irem (pc := 99) (dc dl_X11_table 58 rfl) ?_
              refine s_istoreL (pc := 100) (lf' := fun y19 => [some (.ref (ad 0)), some (.int x1), some (.int x2), some (.int x3), some (.int s9), some (.int y19)]) (dc dl_X11_table 59 rfl) (Nat.le_of_ble_eq_true rfl) (fun _ => rfl) (fun y19 => ?_)
              refine s_aload_n (pc := 102) (dc dl_X11_table 60 rfl) rfl rfl ?_
              refine s_getR (pc := 103) fl_X11_104 lk_Mo_0 kk_Mo_0_56 (dc dl_X11_table 61 rfl) ?_
              refine s_iload (pc := 106) (dc dl_X11_table 62 rfl) rfl ?_
              refine s_iald (pc := 108) lk_Mo_31 (dc dl_X11_table 63 rfl) (fun v20 => ?_)
              refine s_jn (pj := 128) (fun a22 : Unit => [some (.ref (ad 0)), some (.int x1), some (.int x2), some (.int x3), some (.int s9), none]) (fun a22 : Unit => []) (fun a22 => ?_) (fun j21 hj21 => ?_)
              · refine s_iincL (pc := 128) (lf' := fun y23 => [some (.ref (ad 0)), some (.int x1), some (.int x2), some (.int x3), some (.int y23), none]) (dc dl_X11_table 75 rfl) rfl rfl (Nat.le_of_ble_eq_true rfl) (fun _ => rfl) (fun y23 => ?_)
                refine s_goto (pc := 131) (tgt := 65) (dc dl_X11_table 76 rfl) rfl ?_
                exact s_wk (hself8 y23) rfl
              · refine s_if_ne (pc := 109) (tgt := 128) (dc dl_X11_table 64 rfl) rfl ?_ ?_
                · refine s_aload_n (pc := 112) (dc dl_X11_table 65 rfl) rfl rfl ?_
                  refine s_getR (pc := 113) fl_X11_104 lk_Mo_0 kk_Mo_0_56 (dc dl_X11_table 66 rfl) ?_
                  refine s_iload (pc := 116) (dc dl_X11_table 67 rfl) rfl ?_
                  refine s_aload_n (pc := 118) (dc dl_X11_table 68 rfl) rfl rfl ?_
                  refine s_getR (pc := 119) fl_X11_101 lk_Mo_0 kk_Mo_0_55 (dc dl_X11_table 69 rfl) ?_
                  refine s_iload (pc := 122) (dc dl_X11_table 70 rfl) rfl ?_
                  refine s_iald (pc := 124) lk_Mo_30 (dc dl_X11_table 71 rfl) (fun v24 => ?_)
                  refine s_iconst (pc := 125) (v := 1) (dc dl_X11_table 72 rfl) ic_1 ?_
                  refine s_iadd (pc := 126) (dc dl_X11_table 73 rfl) ?_
                  refine s_iast (pc := 127) lk_Mo_31 (dc dl_X11_table 74 rfl) ?_
                  exact s_wk (hj21 ()) rfl
                · exact s_wk (hj21 ()) rfl
          · refine s_aload_n (pc := 48) (dc dl_X11_table 28 rfl) rfl rfl ?_
            refine s_getR (pc := 49) fl_X11_104 lk_Mo_0 kk_Mo_0_56 (dc dl_X11_table 29 rfl) ?_
            refine s_iload (pc := 52) (dc dl_X11_table 30 rfl) rfl ?_
            refine s_iconst (pc := 54) (v := 0) (dc dl_X11_table 31 rfl) ic_0 ?_
            refine s_iast (pc := 55) lk_Mo_31 (dc dl_X11_table 32 rfl) ?_
            refine s_iincL (pc := 56) (lf' := fun y25 => [some (.ref (ad 0)), some (.int x1), some (.int x2), some (.int x3), some (.int y25), none]) (dc dl_X11_table 33 rfl) rfl rfl (Nat.le_of_ble_eq_true rfl) (fun _ => rfl) (fun y25 => ?_)
            refine s_goto (pc := 59) (tgt := 42) (dc dl_X11_table 34 rfl) rfl ?_
            exact s_wk (hself6 y25) rfl
def gX11_ask (x1 : Int32) : MM Int32 :=
  bd (sv 0 0 0) fun _ =>
  (if x1 = ((-1)) then
  bd (sv 0 57 0) fun _ =>
  pr 0
  else
  bd (gX11_isIn x1 0 9) fun r1 =>
  jn (fun (a3 : Unit) =>
  pr ((-1))) (fun j2 =>
  (if r1 = 0 then
  j2 ()
  else
  bd (ld 0 57) fun v4 =>
  (if v4 = 16 then
  j2 ()
  else
  bd (ld 0 57) fun v5 =>
  bd (sa 32 v5 x1) fun _ =>
  bd (ld 0 57) fun v6 =>
  bd (sv 0 57 (v6 + 1)) fun _ =>
  bd (ld 0 57) fun v7 =>
  pr v7))))
set_option maxHeartbeats 4000000 in
theorem cn_X11_ask (l : Launch) (G : Gl) (hG : gOk G) (ad : Nat → Nat) (x1 : Int32) : Cn l G mX11_ask 1 lay_Mo ad [.ref (ad 0), .int x1] (gX11_ask x1) := by
  refine cn_of (lv := [some (.ref (ad 0)), some (.int x1)]) (by decide +kernel) rfl (Nat.le_of_ble_eq_true rfl) rfl ?_
  unfold gX11_ask
  refine s_aload_n (pc := 0) (dc dl_X11_ask 0 rfl) rfl rfl ?_
  refine s_iconst (pc := 1) (v := 0) (dc dl_X11_ask 1 rfl) ic_0 ?_
  refine s_putI (pc := 2) fw_X11_125 lk_Mo_0 kk_Mo_0_0 (dc dl_X11_ask 2 rfl) ?_
  refine s_iload_n (pc := 5) (dc dl_X11_ask 3 rfl) rfl rfl ?_
  refine s_iconst (pc := 6) (v := (-1)) (dc dl_X11_ask 4 rfl) ic_m1 ?_
  refine s_icmp_ne (pc := 7) (tgt := 17) (dc dl_X11_ask 5 rfl) rfl ?_ ?_
  · refine s_aload_n (pc := 10) (dc dl_X11_ask 6 rfl) rfl rfl ?_
    refine s_iconst (pc := 11) (v := 0) (dc dl_X11_ask 7 rfl) ic_0 ?_
    refine s_putI (pc := 12) fw_X11_456 lk_Mo_0 kk_Mo_0_57 (dc dl_X11_ask 8 rfl) ?_
    refine s_iconst (pc := 15) (v := 0) (dc dl_X11_ask 9 rfl) ic_0 ?_
    exact s_ireturn (pc := 16) rfl (dc dl_X11_ask 10 rfl)
  · refine s_aload_n (pc := 17) (dc dl_X11_ask 11 rfl) rfl rfl ?_
    refine s_iload_n (pc := 18) (dc dl_X11_ask 12 rfl) rfl rfl ?_
    refine s_iconst (pc := 19) (v := 0) (dc dl_X11_ask 13 rfl) ic_0 ?_
    refine s_bipush (pc := 20) (v := 9) (dc dl_X11_ask 14 rfl) bi_9 ?_
    refine s_call (pc := 22) (rest := []) hG (calls_V (mi := mX11_ask) (o := 0) (As := [.int x1, .int 0, .int 9]) (rest := []) hG (dc dl_X11_ask 15 rfl) mo_X11_isIn mv_X11_isIn ml_X11_150 ⟨Nat.le_of_ble_eq_true rfl, Nat.le_of_ble_eq_true rfl⟩ rfl rfl (Nat.le_of_ble_eq_true rfl) lk_Mo_0 rfl) (cn_X11_isIn l G hG ad x1 0 9) rfl (fun r1 => ?_)
    refine s_jn (pj := 37) (fun a3 : Unit => [none, none]) (fun a3 : Unit => []) (fun a3 => ?_) (fun j2 hj2 => ?_)
    · refine s_iconst (pc := 37) (v := (-1)) (dc dl_X11_ask 21 rfl) ic_m1 ?_
      exact s_ireturn (pc := 38) rfl (dc dl_X11_ask 22 rfl)
    · refine s_if_eq (pc := 25) (tgt := 37) (dc dl_X11_ask 16 rfl) rfl ?_ ?_
      · exact s_wk (hj2 ()) rfl
      · refine s_aload_n (pc := 28) (dc dl_X11_ask 17 rfl) rfl rfl ?_
        refine s_getI (pc := 29) fl_X11_456 lk_Mo_0 kk_Mo_0_57 (dc dl_X11_ask 18 rfl) (fun v4 => ?_)
        refine s_bipush (pc := 32) (v := 16) (dc dl_X11_ask 19 rfl) bi_16 ?_
        refine s_icmp_ne (pc := 34) (tgt := 39) (dc dl_X11_ask 20 rfl) rfl ?_ ?_
        · exact s_wk (hj2 ()) rfl
        · refine s_aload_n (pc := 39) (dc dl_X11_ask 23 rfl) rfl rfl ?_
          refine s_getR (pc := 40) fl_X11_107 lk_Mo_0 kk_Mo_0_58 (dc dl_X11_ask 24 rfl) ?_
          refine s_aload_n (pc := 43) (dc dl_X11_ask 25 rfl) rfl rfl ?_
          refine s_getI (pc := 44) fl_X11_456 lk_Mo_0 kk_Mo_0_57 (dc dl_X11_ask 26 rfl) (fun v5 => ?_)
          refine s_iload_n (pc := 47) (dc dl_X11_ask 27 rfl) rfl rfl ?_
          refine s_iast (pc := 48) lk_Mo_32 (dc dl_X11_ask 28 rfl) ?_
          refine s_aload_n (pc := 49) (dc dl_X11_ask 29 rfl) rfl rfl ?_
          refine s_aload_n (pc := 50) (dc dl_X11_ask 30 rfl) rfl rfl ?_
          refine s_getI (pc := 51) fl_X11_456 lk_Mo_0 kk_Mo_0_57 (dc dl_X11_ask 31 rfl) (fun v6 => ?_)
          refine s_iconst (pc := 54) (v := 1) (dc dl_X11_ask 32 rfl) ic_1 ?_
          refine s_iadd (pc := 55) (dc dl_X11_ask 33 rfl) ?_
          refine s_putI (pc := 56) fw_X11_456 lk_Mo_0 kk_Mo_0_57 (dc dl_X11_ask 34 rfl) ?_
          refine s_aload_n (pc := 59) (dc dl_X11_ask 35 rfl) rfl rfl ?_
          refine s_getI (pc := 60) fl_X11_456 lk_Mo_0 kk_Mo_0_57 (dc dl_X11_ask 36 rfl) (fun v7 => ?_)
          exact s_ireturn (pc := 63) rfl (dc dl_X11_ask 37 rfl)
def gX11_askedWhen (x1 x2 x3 : Int32) : MM Int32 :=
  (if x3 = 0 then
  lt (x2 - 1) fun y1 =>
  loopC 100000 (fun (self2 : Int32 → MM Int32) (s3 : Int32) =>
  jn (fun (a5 : Unit) =>
  pr s3) (fun j4 =>
  (if s3 < 0 then
  j4 ()
  else
  bd (la 32 s3) fun v6 =>
  (if v6 = x1 then
  j4 ()
  else
  lt (s3 - 1) fun y7 =>
  self2 y7)))) y1
  else
  lt (x2 + 1) fun y8 =>
  loopC 100000 (fun (self9 : Int32 → MM Int32) (s10 : Int32) =>
  bd (ld 0 57) fun v11 =>
  jn (fun (a13 : Unit) =>
  pr s10) (fun j12 =>
  (if v11 ≤ s10 then
  j12 ()
  else
  bd (la 32 s10) fun v14 =>
  (if v14 = x1 then
  j12 ()
  else
  lt (s10 + 1) fun y15 =>
  self9 y15)))) y8)
set_option maxHeartbeats 4000000 in
theorem cn_X11_askedWhen (l : Launch) (G : Gl) (hG : gOk G) (ad : Nat → Nat) (x1 x2 x3 : Int32) : Cn l G mX11_askedWhen 0 lay_Mo ad [.ref (ad 0), .int x1, .int x2, .int x3] (gX11_askedWhen x1 x2 x3) := by
  refine cn_of (lv := [some (.ref (ad 0)), some (.int x1), some (.int x2), some (.int x3), none]) (by decide +kernel) rfl (Nat.le_of_ble_eq_true rfl) rfl ?_
  unfold gX11_askedWhen
  refine s_iload_n (pc := 0) (dc dl_X11_askedWhen 0 rfl) rfl rfl ?_
  refine s_if_eq (pc := 1) (tgt := 41) (dc dl_X11_askedWhen 1 rfl) rfl ?_ ?_
  · refine s_iload_n (pc := 41) (dc dl_X11_askedWhen 23 rfl) rfl rfl ?_
    refine s_iconst (pc := 42) (v := 1) (dc dl_X11_askedWhen 24 rfl) ic_1 ?_
    refine s_isub (pc := 43) (dc dl_X11_askedWhen 25 rfl) ?_
    refine s_istoreL (pc := 44) (lf' := fun y1 => [some (.ref (ad 0)), some (.int x1), some (.int x2), some (.int x3), some (.int y1)]) (dc dl_X11_askedWhen 26 rfl) (Nat.le_of_ble_eq_true rfl) (fun _ => rfl) (fun y1 => ?_)
    refine s_weak (lv' := [some (.ref (ad 0)), some (.int x1), none, none, some (.int y1)]) rfl ?_
    refine s_loop (pc := 46) (fun s3 : Int32 => [some (.ref (ad 0)), some (.int x1), none, none, some (.int s3)]) [] (fun self2 hself2 s3 => ?_) _ y1
    refine s_iload (pc := 46) (dc dl_X11_askedWhen 27 rfl) rfl ?_
    refine s_jn (pj := 71) (fun a5 : Unit => [none, none, none, none, some (.int s3)]) (fun a5 : Unit => []) (fun a5 => ?_) (fun j4 hj4 => ?_)
    · refine s_iload (pc := 71) (dc dl_X11_askedWhen 40 rfl) rfl ?_
      exact s_ireturn (pc := 73) rfl (dc dl_X11_askedWhen 41 rfl)
    · refine s_if_lt (pc := 48) (tgt := 71) (dc dl_X11_askedWhen 28 rfl) rfl ?_ ?_
      · exact s_wk (hj4 ()) rfl
      · refine s_aload_n (pc := 51) (dc dl_X11_askedWhen 29 rfl) rfl rfl ?_
        refine s_getR (pc := 52) fl_X11_107 lk_Mo_0 kk_Mo_0_58 (dc dl_X11_askedWhen 30 rfl) ?_
        refine s_iload (pc := 55) (dc dl_X11_askedWhen 31 rfl) rfl ?_
        refine s_iald (pc := 57) lk_Mo_32 (dc dl_X11_askedWhen 32 rfl) (fun v6 => ?_)
        refine s_iload_n (pc := 58) (dc dl_X11_askedWhen 33 rfl) rfl rfl ?_
        refine s_icmp_eq (pc := 59) (tgt := 71) (dc dl_X11_askedWhen 34 rfl) rfl ?_ ?_
        · exact s_wk (hj4 ()) rfl
        · refine s_iload (pc := 62) (dc dl_X11_askedWhen 35 rfl) rfl ?_
          refine s_iconst (pc := 64) (v := 1) (dc dl_X11_askedWhen 36 rfl) ic_1 ?_
          refine s_isub (pc := 65) (dc dl_X11_askedWhen 37 rfl) ?_
          refine s_istoreL (pc := 66) (lf' := fun y7 => [some (.ref (ad 0)), some (.int x1), none, none, some (.int y7)]) (dc dl_X11_askedWhen 38 rfl) (Nat.le_of_ble_eq_true rfl) (fun _ => rfl) (fun y7 => ?_)
          refine s_goto (pc := 68) (tgt := 46) (dc dl_X11_askedWhen 39 rfl) rfl ?_
          exact s_wk (hself2 y7) rfl
  · refine s_iload_n (pc := 4) (dc dl_X11_askedWhen 2 rfl) rfl rfl ?_
    refine s_iconst (pc := 5) (v := 1) (dc dl_X11_askedWhen 3 rfl) ic_1 ?_
    refine s_iadd (pc := 6) (dc dl_X11_askedWhen 4 rfl) ?_
    refine s_istoreL (pc := 7) (lf' := fun y8 => [some (.ref (ad 0)), some (.int x1), some (.int x2), some (.int x3), some (.int y8)]) (dc dl_X11_askedWhen 5 rfl) (Nat.le_of_ble_eq_true rfl) (fun _ => rfl) (fun y8 => ?_)
    refine s_weak (lv' := [some (.ref (ad 0)), some (.int x1), none, none, some (.int y8)]) rfl ?_
    refine s_loop (pc := 9) (fun s10 : Int32 => [some (.ref (ad 0)), some (.int x1), none, none, some (.int s10)]) [] (fun self9 hself9 s10 => ?_) _ y8
    refine s_iload (pc := 9) (dc dl_X11_askedWhen 6 rfl) rfl ?_
    refine s_aload_n (pc := 11) (dc dl_X11_askedWhen 7 rfl) rfl rfl ?_
    refine s_getI (pc := 12) fl_X11_456 lk_Mo_0 kk_Mo_0_57 (dc dl_X11_askedWhen 8 rfl) (fun v11 => ?_)
    refine s_jn (pj := 38) (fun a13 : Unit => [none, none, none, none, some (.int s10)]) (fun a13 : Unit => []) (fun a13 => ?_) (fun j12 hj12 => ?_)
    · refine s_iload (pc := 38) (dc dl_X11_askedWhen 21 rfl) rfl ?_
      exact s_ireturn (pc := 40) rfl (dc dl_X11_askedWhen 22 rfl)
    · refine s_icmp_ge (pc := 15) (tgt := 38) (dc dl_X11_askedWhen 9 rfl) rfl ?_ ?_
      · exact s_wk (hj12 ()) rfl
      · refine s_aload_n (pc := 18) (dc dl_X11_askedWhen 10 rfl) rfl rfl ?_
        refine s_getR (pc := 19) fl_X11_107 lk_Mo_0 kk_Mo_0_58 (dc dl_X11_askedWhen 11 rfl) ?_
        refine s_iload (pc := 22) (dc dl_X11_askedWhen 12 rfl) rfl ?_
        refine s_iald (pc := 24) lk_Mo_32 (dc dl_X11_askedWhen 13 rfl) (fun v14 => ?_)
        refine s_iload_n (pc := 25) (dc dl_X11_askedWhen 14 rfl) rfl rfl ?_
        refine s_icmp_eq (pc := 26) (tgt := 38) (dc dl_X11_askedWhen 15 rfl) rfl ?_ ?_
        · exact s_wk (hj12 ()) rfl
        · refine s_iload (pc := 29) (dc dl_X11_askedWhen 16 rfl) rfl ?_
          refine s_iconst (pc := 31) (v := 1) (dc dl_X11_askedWhen 17 rfl) ic_1 ?_
          refine s_iadd (pc := 32) (dc dl_X11_askedWhen 18 rfl) ?_
          refine s_istoreL (pc := 33) (lf' := fun y15 => [some (.ref (ad 0)), some (.int x1), none, none, some (.int y15)]) (dc dl_X11_askedWhen 19 rfl) (Nat.le_of_ble_eq_true rfl) (fun _ => rfl) (fun y15 => ?_)
          refine s_goto (pc := 35) (tgt := 9) (dc dl_X11_askedWhen 20 rfl) rfl ?_
          exact s_wk (hself9 y15) rfl
def gX11_goesOut (x1 x2 x3 : Int32) : MM Int32 :=
  loopC 100000 (fun (self1 : (Int32 × Int32) → MM Int32) (s2 : Int32 × Int32) =>
  (if 10 ≤ s2.2 then
  pr s2.1
  else
  bd (gX11_has x1 s2.2) fun r3 =>
  jn (fun (a5 : Int32) =>
  lt (s2.2 + 1) fun y6 =>
  self1 (a5, y6)) (fun j4 =>
  (if r3 = 0 then
  j4 s2.1
  else
  jn (fun (a8 : Int32) =>
  (if a8 = 0 then
  j4 s2.1
  else
  j4 s2.2)) (fun j7 =>
  jn (fun (a10 : Unit) =>
  j7 1) (fun j9 =>
  (if s2.1 = ((-1)) then
  j9 ()
  else
  jn (fun (a12 : Unit) =>
  j7 0) (fun j11 =>
  (if x3 = 0 then
  bd (gX11_askedWhen s2.2 x2 0) fun r13 =>
  bd (gX11_askedWhen s2.1 x2 0) fun r14 =>
  (if r14 ≤ r13 then
  j11 ()
  else
  j9 ())
  else
  bd (gX11_askedWhen s2.2 x2 1) fun r15 =>
  bd (gX11_askedWhen s2.1 x2 1) fun r16 =>
  (if r15 ≤ r16 then
  j11 ()
  else
  j9 ())))))))))) (((-1)), 0)
set_option maxHeartbeats 4000000 in
theorem cn_X11_goesOut (l : Launch) (G : Gl) (hG : gOk G) (ad : Nat → Nat) (x1 x2 x3 : Int32) : Cn l G mX11_goesOut 1 lay_Mo ad [.ref (ad 0), .int x1, .int x2, .int x3] (gX11_goesOut x1 x2 x3) := by
  refine cn_of (lv := [some (.ref (ad 0)), some (.int x1), some (.int x2), some (.int x3), none, none, none]) (by decide +kernel) rfl (Nat.le_of_ble_eq_true rfl) rfl ?_
  unfold gX11_goesOut
  refine s_iconst (pc := 0) (v := (-1)) (dc dl_X11_goesOut 0 rfl) ic_m1 ?_
  refine s_istore (pc := 1) (lv' := [some (.ref (ad 0)), some (.int x1), some (.int x2), some (.int x3), some (.int ((-1))), none, none]) (dc dl_X11_goesOut 1 rfl) (Nat.le_of_ble_eq_true rfl) rfl ?_
  refine s_iconst (pc := 3) (v := 0) (dc dl_X11_goesOut 2 rfl) ic_0 ?_
  refine s_istore (pc := 4) (lv' := [some (.ref (ad 0)), some (.int x1), some (.int x2), some (.int x3), some (.int ((-1))), some (.int 0), none]) (dc dl_X11_goesOut 3 rfl) (Nat.le_of_ble_eq_true rfl) rfl ?_
  refine s_weak (lv' := [some (.ref (ad 0)), some (.int x1), some (.int x2), some (.int x3), some (.int ((-1))), some (.int 0), none]) rfl ?_
  refine s_loop (pc := 6) (fun s2 : Int32 × Int32 => [some (.ref (ad 0)), some (.int x1), some (.int x2), some (.int x3), some (.int s2.1), some (.int s2.2), none]) [] (fun self1 hself1 s2 => ?_) _ (((-1)), 0)
  refine s_iload (pc := 6) (dc dl_X11_goesOut 4 rfl) rfl ?_
  refine s_bipush (pc := 8) (v := 10) (dc dl_X11_goesOut 5 rfl) bi_10 ?_
  refine s_icmp_ge (pc := 10) (tgt := 99) (dc dl_X11_goesOut 6 rfl) rfl ?_ ?_
  · refine s_iload (pc := 99) (dc dl_X11_goesOut 51 rfl) rfl ?_
    exact s_ireturn (pc := 101) rfl (dc dl_X11_goesOut 52 rfl)
  · refine s_aload_n (pc := 13) (dc dl_X11_goesOut 7 rfl) rfl rfl ?_
    refine s_iload_n (pc := 14) (dc dl_X11_goesOut 8 rfl) rfl rfl ?_
    refine s_iload (pc := 15) (dc dl_X11_goesOut 9 rfl) rfl ?_
    refine s_call (pc := 17) (rest := []) hG (calls_V (mi := mX11_goesOut) (o := 0) (As := [.int x1, .int s2.2]) (rest := []) hG (dc dl_X11_goesOut 10 rfl) mo_X11_has mv_X11_has ml_X11_332 ⟨Nat.le_of_ble_eq_true rfl, Nat.le_of_ble_eq_true rfl⟩ rfl rfl (Nat.le_of_ble_eq_true rfl) lk_Mo_0 rfl) (cn_X11_has l G hG ad x1 s2.2) rfl (fun r3 => ?_)
    refine s_jn (pj := 93) (fun a5 : Int32 => [some (.ref (ad 0)), some (.int x1), some (.int x2), some (.int x3), some (.int a5), some (.int s2.2), none]) (fun a5 : Int32 => []) (fun a5 => ?_) (fun j4 hj4 => ?_)
    · refine s_iincL (pc := 93) (lf' := fun y6 => [some (.ref (ad 0)), some (.int x1), some (.int x2), some (.int x3), some (.int a5), some (.int y6), none]) (dc dl_X11_goesOut 49 rfl) rfl rfl (Nat.le_of_ble_eq_true rfl) (fun _ => rfl) (fun y6 => ?_)
      refine s_goto (pc := 96) (tgt := 6) (dc dl_X11_goesOut 50 rfl) rfl ?_
      exact s_wk (hself1 (a5, y6)) rfl
    · refine s_if_ne (pc := 20) (tgt := 26) (dc dl_X11_goesOut 11 rfl) rfl ?_ ?_
      · refine s_goto (pc := 23) (tgt := 93) (dc dl_X11_goesOut 12 rfl) rfl ?_
        exact s_wk (hj4 s2.1) rfl
      · refine s_iload (pc := 26) (dc dl_X11_goesOut 13 rfl) rfl ?_
        refine s_iconst (pc := 28) (v := (-1)) (dc dl_X11_goesOut 14 rfl) ic_m1 ?_
        refine s_jn (pj := 82) (fun a8 : Int32 => [some (.ref (ad 0)), some (.int x1), some (.int x2), some (.int x3), some (.int s2.1), some (.int s2.2), none]) (fun a8 : Int32 => [.int a8]) (fun a8 => ?_) (fun j7 hj7 => ?_)
        · refine s_istore (pc := 82) (lv' := [some (.ref (ad 0)), some (.int x1), some (.int x2), some (.int x3), some (.int s2.1), some (.int s2.2), some (.int a8)]) (dc dl_X11_goesOut 44 rfl) (Nat.le_of_ble_eq_true rfl) rfl ?_
          refine s_iload (pc := 84) (dc dl_X11_goesOut 45 rfl) rfl ?_
          refine s_if_eq (pc := 86) (tgt := 93) (dc dl_X11_goesOut 46 rfl) rfl ?_ ?_
          · exact s_wk (hj4 s2.1) rfl
          · refine s_iload (pc := 89) (dc dl_X11_goesOut 47 rfl) rfl ?_
            refine s_istore (pc := 91) (lv' := [some (.ref (ad 0)), some (.int x1), some (.int x2), some (.int x3), some (.int s2.2), some (.int s2.2), some (.int a8)]) (dc dl_X11_goesOut 48 rfl) (Nat.le_of_ble_eq_true rfl) rfl ?_
            exact s_wk (hj4 s2.2) rfl
        · refine s_jn (pj := 77) (fun a10 : Unit => [some (.ref (ad 0)), some (.int x1), some (.int x2), some (.int x3), some (.int s2.1), some (.int s2.2), none]) (fun a10 : Unit => []) (fun a10 => ?_) (fun j9 hj9 => ?_)
          · refine s_iconst (pc := 77) (v := 1) (dc dl_X11_goesOut 41 rfl) ic_1 ?_
            refine s_goto (pc := 78) (tgt := 82) (dc dl_X11_goesOut 42 rfl) rfl ?_
            exact s_wk (hj7 1) rfl
          · refine s_icmp_eq (pc := 29) (tgt := 77) (dc dl_X11_goesOut 15 rfl) rfl ?_ ?_
            · exact s_wk (hj9 ()) rfl
            · refine s_iload_n (pc := 32) (dc dl_X11_goesOut 16 rfl) rfl rfl ?_
              refine s_jn (pj := 81) (fun a12 : Unit => [some (.ref (ad 0)), some (.int x1), some (.int x2), some (.int x3), some (.int s2.1), some (.int s2.2), none]) (fun a12 : Unit => []) (fun a12 => ?_) (fun j11 hj11 => ?_)
              · refine s_iconst (pc := 81) (v := 0) (dc dl_X11_goesOut 43 rfl) ic_0 ?_
                exact s_wk (hj7 0) rfl
              · refine s_if_eq (pc := 33) (tgt := 58) (dc dl_X11_goesOut 17 rfl) rfl ?_ ?_
                · refine s_aload_n (pc := 58) (dc dl_X11_goesOut 30 rfl) rfl rfl ?_
                  refine s_iload (pc := 59) (dc dl_X11_goesOut 31 rfl) rfl ?_
                  refine s_iload_n (pc := 61) (dc dl_X11_goesOut 32 rfl) rfl rfl ?_
                  refine s_iconst (pc := 62) (v := 0) (dc dl_X11_goesOut 33 rfl) ic_0 ?_
                  refine s_call (pc := 63) (rest := []) hG (calls_V (mi := mX11_goesOut) (o := 0) (As := [.int s2.2, .int x2, .int 0]) (rest := []) hG (dc dl_X11_goesOut 34 rfl) mo_X11_askedWhen mv_X11_askedWhen ml_X11_459 ⟨Nat.le_of_ble_eq_true rfl, Nat.le_of_ble_eq_true rfl⟩ rfl rfl (Nat.le_of_ble_eq_true rfl) lk_Mo_0 rfl) (cn_X11_askedWhen l G hG ad s2.2 x2 0) rfl (fun r13 => ?_)
                  refine s_aload_n (pc := 66) (dc dl_X11_goesOut 35 rfl) rfl rfl ?_
                  refine s_iload (pc := 67) (dc dl_X11_goesOut 36 rfl) rfl ?_
                  refine s_iload_n (pc := 69) (dc dl_X11_goesOut 37 rfl) rfl rfl ?_
                  refine s_iconst (pc := 70) (v := 0) (dc dl_X11_goesOut 38 rfl) ic_0 ?_
                  refine s_call (pc := 71) (rest := [.int r13]) hG (calls_V (mi := mX11_goesOut) (o := 0) (As := [.int s2.1, .int x2, .int 0]) (rest := [.int r13]) hG (dc dl_X11_goesOut 39 rfl) mo_X11_askedWhen mv_X11_askedWhen ml_X11_459 ⟨Nat.le_of_ble_eq_true rfl, Nat.le_of_ble_eq_true rfl⟩ rfl rfl (Nat.le_of_ble_eq_true rfl) lk_Mo_0 rfl) (cn_X11_askedWhen l G hG ad s2.1 x2 0) rfl (fun r14 => ?_)
                  refine s_icmp_ge (pc := 74) (tgt := 81) (dc dl_X11_goesOut 40 rfl) rfl ?_ ?_
                  · exact s_wk (hj11 ()) rfl
                  · exact s_wk (hj9 ()) rfl
                · refine s_aload_n (pc := 36) (dc dl_X11_goesOut 18 rfl) rfl rfl ?_
                  refine s_iload (pc := 37) (dc dl_X11_goesOut 19 rfl) rfl ?_
                  refine s_iload_n (pc := 39) (dc dl_X11_goesOut 20 rfl) rfl rfl ?_
                  refine s_iconst (pc := 40) (v := 1) (dc dl_X11_goesOut 21 rfl) ic_1 ?_
                  refine s_call (pc := 41) (rest := []) hG (calls_V (mi := mX11_goesOut) (o := 0) (As := [.int s2.2, .int x2, .int 1]) (rest := []) hG (dc dl_X11_goesOut 22 rfl) mo_X11_askedWhen mv_X11_askedWhen ml_X11_459 ⟨Nat.le_of_ble_eq_true rfl, Nat.le_of_ble_eq_true rfl⟩ rfl rfl (Nat.le_of_ble_eq_true rfl) lk_Mo_0 rfl) (cn_X11_askedWhen l G hG ad s2.2 x2 1) rfl (fun r15 => ?_)
                  refine s_aload_n (pc := 44) (dc dl_X11_goesOut 23 rfl) rfl rfl ?_
                  refine s_iload (pc := 45) (dc dl_X11_goesOut 24 rfl) rfl ?_
                  refine s_iload_n (pc := 47) (dc dl_X11_goesOut 25 rfl) rfl rfl ?_
                  refine s_iconst (pc := 48) (v := 1) (dc dl_X11_goesOut 26 rfl) ic_1 ?_
                  refine s_call (pc := 49) (rest := [.int r15]) hG (calls_V (mi := mX11_goesOut) (o := 0) (As := [.int s2.1, .int x2, .int 1]) (rest := [.int r15]) hG (dc dl_X11_goesOut 27 rfl) mo_X11_askedWhen mv_X11_askedWhen ml_X11_459 ⟨Nat.le_of_ble_eq_true rfl, Nat.le_of_ble_eq_true rfl⟩ rfl rfl (Nat.le_of_ble_eq_true rfl) lk_Mo_0 rfl) (cn_X11_askedWhen l G hG ad s2.1 x2 1) rfl (fun r16 => ?_)
                  refine s_icmp_le (pc := 52) (tgt := 81) (dc dl_X11_goesOut 28 rfl) rfl ?_ ?_
                  · exact s_wk (hj11 ()) rfl
                  · refine s_goto (pc := 55) (tgt := 77) (dc dl_X11_goesOut 29 rfl) rfl ?_
                    exact s_wk (hj9 ()) rfl
def gX11_pages (x1 x2 : Int32) : MM Int32 :=
  bd (sv 0 0 0) fun _ =>
  bd (gX11_isIn x1 1 5) fun r1 =>
  jn (fun (a3 : Unit) =>
  pr ((-1))) (fun j2 =>
  (if r1 = 0 then
  j2 ()
  else
  bd (gX11_isIn x2 0 1) fun r4 =>
  (if r4 = 0 then
  j2 ()
  else
  loopC 100000 (fun (self5 : (Int32 × Int32 × Int32) → MM Int32) (s6 : Int32 × Int32 × Int32) =>
  bd (ld 0 57) fun v7 =>
  (if v7 ≤ s6.2.2 then
  pr s6.2.1
  else
  bd (la 32 s6.2.2) fun v8 =>
  bd (gX11_has s6.1 v8) fun r9 =>
  jn (fun (a11 : Int32 × Int32) =>
  lt (s6.2.2 + 1) fun y12 =>
  self5 (a11.1, a11.2, y12)) (fun j10 =>
  (if r9 = 0 then
  lt (s6.2.1 + 1) fun y13 =>
  bd (gX11_onesOf s6.1) fun r14 =>
  jn (fun (a16 : Int32) =>
  bd (la 32 s6.2.2) fun v17 =>
  lt (a16 ||| (1 <<< (v17 &&& 31))) fun y18 =>
  j10 (y18, y13)) (fun j15 =>
  (if r14 = x1 then
  jn (fun (a20 : Int32) =>
  bd (gX11_goesOut s6.1 s6.2.2 a20) fun r21 =>
  lt (s6.1 &&& ((1 <<< (r21 &&& 31)) ^^^ ((-1)))) fun y22 =>
  j15 y22) (fun j19 =>
  (if x2 = 1 then
  j19 1
  else
  j19 0))
  else
  j15 s6.1))
  else
  j10 (s6.1, s6.2.1))))) (0, 0, 0))))
set_option maxHeartbeats 4000000 in
theorem cn_X11_pages (l : Launch) (G : Gl) (hG : gOk G) (ad : Nat → Nat) (x1 x2 : Int32) : Cn l G mX11_pages 2 lay_Mo ad [.ref (ad 0), .int x1, .int x2] (gX11_pages x1 x2) := by
  refine cn_of (lv := [some (.ref (ad 0)), some (.int x1), some (.int x2), none, none, none]) (by decide +kernel) rfl (Nat.le_of_ble_eq_true rfl) rfl ?_
  unfold gX11_pages
  refine s_aload_n (pc := 0) (dc dl_X11_pages 0 rfl) rfl rfl ?_
  refine s_iconst (pc := 1) (v := 0) (dc dl_X11_pages 1 rfl) ic_0 ?_
  refine s_putI (pc := 2) fw_X11_125 lk_Mo_0 kk_Mo_0_0 (dc dl_X11_pages 2 rfl) ?_
  refine s_aload_n (pc := 5) (dc dl_X11_pages 3 rfl) rfl rfl ?_
  refine s_iload_n (pc := 6) (dc dl_X11_pages 4 rfl) rfl rfl ?_
  refine s_iconst (pc := 7) (v := 1) (dc dl_X11_pages 5 rfl) ic_1 ?_
  refine s_iconst (pc := 8) (v := 5) (dc dl_X11_pages 6 rfl) ic_5 ?_
  refine s_call (pc := 9) (rest := []) hG (calls_V (mi := mX11_pages) (o := 0) (As := [.int x1, .int 1, .int 5]) (rest := []) hG (dc dl_X11_pages 7 rfl) mo_X11_isIn mv_X11_isIn ml_X11_150 ⟨Nat.le_of_ble_eq_true rfl, Nat.le_of_ble_eq_true rfl⟩ rfl rfl (Nat.le_of_ble_eq_true rfl) lk_Mo_0 rfl) (cn_X11_isIn l G hG ad x1 1 5) rfl (fun r1 => ?_)
  refine s_jn (pj := 25) (fun a3 : Unit => [none, none, none, none, none, none]) (fun a3 : Unit => []) (fun a3 => ?_) (fun j2 hj2 => ?_)
  · refine s_iconst (pc := 25) (v := (-1)) (dc dl_X11_pages 15 rfl) ic_m1 ?_
    exact s_ireturn (pc := 26) rfl (dc dl_X11_pages 16 rfl)
  · refine s_if_eq (pc := 12) (tgt := 25) (dc dl_X11_pages 8 rfl) rfl ?_ ?_
    · exact s_wk (hj2 ()) rfl
    · refine s_aload_n (pc := 15) (dc dl_X11_pages 9 rfl) rfl rfl ?_
      refine s_iload_n (pc := 16) (dc dl_X11_pages 10 rfl) rfl rfl ?_
      refine s_iconst (pc := 17) (v := 0) (dc dl_X11_pages 11 rfl) ic_0 ?_
      refine s_iconst (pc := 18) (v := 1) (dc dl_X11_pages 12 rfl) ic_1 ?_
      refine s_call (pc := 19) (rest := []) hG (calls_V (mi := mX11_pages) (o := 0) (As := [.int x2, .int 0, .int 1]) (rest := []) hG (dc dl_X11_pages 13 rfl) mo_X11_isIn mv_X11_isIn ml_X11_150 ⟨Nat.le_of_ble_eq_true rfl, Nat.le_of_ble_eq_true rfl⟩ rfl rfl (Nat.le_of_ble_eq_true rfl) lk_Mo_0 rfl) (cn_X11_isIn l G hG ad x2 0 1) rfl (fun r4 => ?_)
      refine s_if_ne (pc := 22) (tgt := 27) (dc dl_X11_pages 14 rfl) rfl ?_ ?_
      · exact s_wk (hj2 ()) rfl
      · refine s_iconst (pc := 27) (v := 0) (dc dl_X11_pages 17 rfl) ic_0 ?_
        refine s_istore_n (pc := 28) (lv' := [some (.ref (ad 0)), some (.int x1), some (.int x2), some (.int 0), none, none]) (dc dl_X11_pages 18 rfl) rfl (Nat.le_of_ble_eq_true rfl) rfl ?_
        refine s_iconst (pc := 29) (v := 0) (dc dl_X11_pages 19 rfl) ic_0 ?_
        refine s_istore (pc := 30) (lv' := [some (.ref (ad 0)), some (.int x1), some (.int x2), some (.int 0), some (.int 0), none]) (dc dl_X11_pages 20 rfl) (Nat.le_of_ble_eq_true rfl) rfl ?_
        refine s_iconst (pc := 32) (v := 0) (dc dl_X11_pages 21 rfl) ic_0 ?_
        refine s_istore (pc := 33) (lv' := [some (.ref (ad 0)), some (.int x1), some (.int x2), some (.int 0), some (.int 0), some (.int 0)]) (dc dl_X11_pages 22 rfl) (Nat.le_of_ble_eq_true rfl) rfl ?_
        refine s_weak (lv' := [some (.ref (ad 0)), some (.int x1), some (.int x2), some (.int 0), some (.int 0), some (.int 0)]) rfl ?_
        refine s_loop (pc := 35) (fun s6 : Int32 × Int32 × Int32 => [some (.ref (ad 0)), some (.int x1), some (.int x2), some (.int s6.1), some (.int s6.2.1), some (.int s6.2.2)]) [] (fun self5 hself5 s6 => ?_) _ (0, 0, 0)
        refine s_iload (pc := 35) (dc dl_X11_pages 23 rfl) rfl ?_
        refine s_aload_n (pc := 37) (dc dl_X11_pages 24 rfl) rfl rfl ?_
        refine s_getI (pc := 38) fl_X11_456 lk_Mo_0 kk_Mo_0_57 (dc dl_X11_pages 25 rfl) (fun v7 => ?_)
        refine s_icmp_ge (pc := 41) (tgt := 119) (dc dl_X11_pages 26 rfl) rfl ?_ ?_
        · refine s_iload (pc := 119) (dc dl_X11_pages 73 rfl) rfl ?_
          exact s_ireturn (pc := 121) rfl (dc dl_X11_pages 74 rfl)
        · refine s_aload_n (pc := 44) (dc dl_X11_pages 27 rfl) rfl rfl ?_
          refine s_iload_n (pc := 45) (dc dl_X11_pages 28 rfl) rfl rfl ?_
          refine s_aload_n (pc := 46) (dc dl_X11_pages 29 rfl) rfl rfl ?_
          refine s_getR (pc := 47) fl_X11_107 lk_Mo_0 kk_Mo_0_58 (dc dl_X11_pages 30 rfl) ?_
          refine s_iload (pc := 50) (dc dl_X11_pages 31 rfl) rfl ?_
          refine s_iald (pc := 52) lk_Mo_32 (dc dl_X11_pages 32 rfl) (fun v8 => ?_)
          refine s_call (pc := 53) (rest := []) hG (calls_V (mi := mX11_pages) (o := 0) (As := [.int s6.1, .int v8]) (rest := []) hG (dc dl_X11_pages 33 rfl) mo_X11_has mv_X11_has ml_X11_332 ⟨Nat.le_of_ble_eq_true rfl, Nat.le_of_ble_eq_true rfl⟩ rfl rfl (Nat.le_of_ble_eq_true rfl) lk_Mo_0 rfl) (cn_X11_has l G hG ad s6.1 v8) rfl (fun r9 => ?_)
          refine s_jn (pj := 113) (fun a11 : Int32 × Int32 => [some (.ref (ad 0)), some (.int x1), some (.int x2), some (.int a11.1), some (.int a11.2), some (.int s6.2.2)]) (fun a11 : Int32 × Int32 => []) (fun a11 => ?_) (fun j10 hj10 => ?_)
          · refine s_iincL (pc := 113) (lf' := fun y12 => [some (.ref (ad 0)), some (.int x1), some (.int x2), some (.int a11.1), some (.int a11.2), some (.int y12)]) (dc dl_X11_pages 71 rfl) rfl rfl (Nat.le_of_ble_eq_true rfl) (fun _ => rfl) (fun y12 => ?_)
            refine s_goto (pc := 116) (tgt := 35) (dc dl_X11_pages 72 rfl) rfl ?_
            exact s_wk (hself5 (a11.1, a11.2, y12)) rfl
          · refine s_if_eq (pc := 56) (tgt := 62) (dc dl_X11_pages 34 rfl) rfl ?_ ?_
            · refine s_iload (pc := 62) (dc dl_X11_pages 36 rfl) rfl ?_
              refine s_iconst (pc := 64) (v := 1) (dc dl_X11_pages 37 rfl) ic_1 ?_
              refine s_iadd (pc := 65) (dc dl_X11_pages 38 rfl) ?_
              refine s_istoreL (pc := 66) (lf' := fun y13 => [some (.ref (ad 0)), some (.int x1), some (.int x2), some (.int s6.1), some (.int y13), some (.int s6.2.2)]) (dc dl_X11_pages 39 rfl) (Nat.le_of_ble_eq_true rfl) (fun _ => rfl) (fun y13 => ?_)
              refine s_aload_n (pc := 68) (dc dl_X11_pages 40 rfl) rfl rfl ?_
              refine s_iload_n (pc := 69) (dc dl_X11_pages 41 rfl) rfl rfl ?_
              refine s_call (pc := 70) (rest := []) hG (calls_V (mi := mX11_pages) (o := 0) (As := [.int s6.1]) (rest := []) hG (dc dl_X11_pages 42 rfl) mo_X11_onesOf mv_X11_onesOf ml_X11_463 ⟨Nat.le_of_ble_eq_true rfl, Nat.le_of_ble_eq_true rfl⟩ rfl rfl (Nat.le_of_ble_eq_true rfl) lk_Mo_0 rfl) (cn_X11_onesOf l G hG ad s6.1) rfl (fun r14 => ?_)
              refine s_iload_n (pc := 73) (dc dl_X11_pages 43 rfl) rfl rfl ?_
              refine s_jn (pj := 101) (fun a16 : Int32 => [some (.ref (ad 0)), some (.int x1), some (.int x2), some (.int a16), some (.int y13), some (.int s6.2.2)]) (fun a16 : Int32 => []) (fun a16 => ?_) (fun j15 hj15 => ?_)
              · refine s_iload_n (pc := 101) (dc dl_X11_pages 62 rfl) rfl rfl ?_
                refine s_iconst (pc := 102) (v := 1) (dc dl_X11_pages 63 rfl) ic_1 ?_
                refine s_aload_n (pc := 103) (dc dl_X11_pages 64 rfl) rfl rfl ?_
                refine s_getR (pc := 104) fl_X11_107 lk_Mo_0 kk_Mo_0_58 (dc dl_X11_pages 65 rfl) ?_
                refine s_iload (pc := 107) (dc dl_X11_pages 66 rfl) rfl ?_
                refine s_iald (pc := 109) lk_Mo_32 (dc dl_X11_pages 67 rfl) (fun v17 => ?_)
                refine s_ishl (pc := 110) (dc dl_X11_pages 68 rfl) ?_
                refine s_ior (pc := 111) (dc dl_X11_pages 69 rfl) ?_
                refine s_istore_nL (pc := 112) (lf' := fun y18 => [some (.ref (ad 0)), some (.int x1), some (.int x2), some (.int y18), some (.int y13), some (.int s6.2.2)]) (dc dl_X11_pages 70 rfl) rfl (Nat.le_of_ble_eq_true rfl) (fun _ => rfl) (fun y18 => ?_)
                exact s_wk (hj10 (y18, y13)) rfl
              · refine s_icmp_ne (pc := 74) (tgt := 101) (dc dl_X11_pages 44 rfl) rfl ?_ ?_
                · refine s_iload_n (pc := 77) (dc dl_X11_pages 45 rfl) rfl rfl ?_
                  refine s_iconst (pc := 78) (v := 1) (dc dl_X11_pages 46 rfl) ic_1 ?_
                  refine s_aload_n (pc := 79) (dc dl_X11_pages 47 rfl) rfl rfl ?_
                  refine s_iload_n (pc := 80) (dc dl_X11_pages 48 rfl) rfl rfl ?_
                  refine s_iload (pc := 81) (dc dl_X11_pages 49 rfl) rfl ?_
                  refine s_iload_n (pc := 83) (dc dl_X11_pages 50 rfl) rfl rfl ?_
                  refine s_iconst (pc := 84) (v := 1) (dc dl_X11_pages 51 rfl) ic_1 ?_
                  refine s_jn (pj := 93) (fun a20 : Int32 => [some (.ref (ad 0)), some (.int x1), some (.int x2), none, some (.int y13), some (.int s6.2.2)]) (fun a20 : Int32 => [.int a20, .int s6.2.2, .int s6.1, .ref (ad 0), .int 1, .int s6.1]) (fun a20 => ?_) (fun j19 hj19 => ?_)
                  · refine s_call (pc := 93) (rest := [.int 1, .int s6.1]) hG (calls_V (mi := mX11_pages) (o := 0) (As := [.int s6.1, .int s6.2.2, .int a20]) (rest := [.int 1, .int s6.1]) hG (dc dl_X11_pages 56 rfl) mo_X11_goesOut mv_X11_goesOut ml_X11_466 ⟨Nat.le_of_ble_eq_true rfl, Nat.le_of_ble_eq_true rfl⟩ rfl rfl (Nat.le_of_ble_eq_true rfl) lk_Mo_0 rfl) (cn_X11_goesOut l G hG ad s6.1 s6.2.2 a20) rfl (fun r21 => ?_)
                    refine s_ishl (pc := 96) (dc dl_X11_pages 57 rfl) ?_
                    refine s_iconst (pc := 97) (v := (-1)) (dc dl_X11_pages 58 rfl) ic_m1 ?_
                    refine s_ixor (pc := 98) (dc dl_X11_pages 59 rfl) ?_
                    refine s_iand (pc := 99) (dc dl_X11_pages 60 rfl) ?_
                    refine s_istore_nL (pc := 100) (lf' := fun y22 => [some (.ref (ad 0)), some (.int x1), some (.int x2), some (.int y22), some (.int y13), some (.int s6.2.2)]) (dc dl_X11_pages 61 rfl) rfl (Nat.le_of_ble_eq_true rfl) (fun _ => rfl) (fun y22 => ?_)
                    exact s_wk (hj15 y22) rfl
                  · refine s_icmp_ne (pc := 85) (tgt := 92) (dc dl_X11_pages 52 rfl) rfl ?_ ?_
                    · refine s_iconst (pc := 88) (v := 1) (dc dl_X11_pages 53 rfl) ic_1 ?_
                      refine s_goto (pc := 89) (tgt := 93) (dc dl_X11_pages 54 rfl) rfl ?_
                      exact s_wk (hj19 1) rfl
                    · refine s_iconst (pc := 92) (v := 0) (dc dl_X11_pages 55 rfl) ic_0 ?_
                      exact s_wk (hj19 0) rfl
                · exact s_wk (hj15 s6.1) rfl
            · refine s_goto (pc := 59) (tgt := 113) (dc dl_X11_pages 35 rfl) rfl ?_
              exact s_wk (hj10 (s6.1, s6.2.1)) rfl
def gX11_casesOf (x1 : Int32) : MM Int32 :=
  loopC 100000 (fun (self1 : (Int32 × Int32) → MM Int32) (s2 : Int32 × Int32) =>
  (if 16 ≤ s2.2 then
  pr s2.1
  else
  loopC 100000 (fun (self3 : (Int32 × Int32) → MM Int32) (s4 : Int32 × Int32) =>
  (if 4 ≤ s4.2 then
  jn (fun (a6 : Int32) =>
  lt (s2.2 + 1) fun y7 =>
  self1 (a6, y7)) (fun j5 =>
  (if s4.1 = 0 then
  j5 s2.1
  else
  lt (s2.1 ||| (1 <<< (s2.2 &&& 31))) fun y8 =>
  j5 y8))
  else
  bd (la 33 s4.2) fun v9 =>
  nz v9 (
  nz 3 (
  lt (irm (x1 / v9) 3) fun y10 =>
  jn (fun (a12 : Int32) =>
  lt (s4.2 + 1) fun y13 =>
  self3 (a12, y13)) (fun j11 =>
  (if 2 ≤ y10 then
  j11 s4.1
  else
  (if y10 = ((s2.2 >>> (s4.2 &&& 31)) &&& 1) then
  j11 s4.1
  else
  j11 0))))))) (1, 0))) (0, 0)
set_option maxHeartbeats 4000000 in
theorem cn_X11_casesOf (l : Launch) (G : Gl) (hG : gOk G) (ad : Nat → Nat) (x1 : Int32) : Cn l G mX11_casesOf 0 lay_Mo ad [.ref (ad 0), .int x1] (gX11_casesOf x1) := by
  refine cn_of (lv := [some (.ref (ad 0)), some (.int x1), none, none, none, none, none]) (by decide +kernel) rfl (Nat.le_of_ble_eq_true rfl) rfl ?_
  unfold gX11_casesOf
  refine s_iconst (pc := 0) (v := 0) (dc dl_X11_casesOf 0 rfl) ic_0 ?_
  refine s_istore_n (pc := 1) (lv' := [some (.ref (ad 0)), some (.int x1), some (.int 0), none, none, none, none]) (dc dl_X11_casesOf 1 rfl) rfl (Nat.le_of_ble_eq_true rfl) rfl ?_
  refine s_iconst (pc := 2) (v := 0) (dc dl_X11_casesOf 2 rfl) ic_0 ?_
  refine s_istore_n (pc := 3) (lv' := [some (.ref (ad 0)), some (.int x1), some (.int 0), some (.int 0), none, none, none]) (dc dl_X11_casesOf 3 rfl) rfl (Nat.le_of_ble_eq_true rfl) rfl ?_
  refine s_weak (lv' := [some (.ref (ad 0)), some (.int x1), some (.int 0), some (.int 0), none, none, none]) rfl ?_
  refine s_loop (pc := 4) (fun s2 : Int32 × Int32 => [some (.ref (ad 0)), some (.int x1), some (.int s2.1), some (.int s2.2), none, none, none]) [] (fun self1 hself1 s2 => ?_) _ (0, 0)
  refine s_iload_n (pc := 4) (dc dl_X11_casesOf 4 rfl) rfl rfl ?_
  refine s_bipush (pc := 5) (v := 16) (dc dl_X11_casesOf 5 rfl) bi_16 ?_
  refine s_icmp_ge (pc := 7) (tgt := 78) (dc dl_X11_casesOf 6 rfl) rfl ?_ ?_
  · refine s_iload_n (pc := 78) (dc dl_X11_casesOf 47 rfl) rfl rfl ?_
    exact s_ireturn (pc := 79) rfl (dc dl_X11_casesOf 48 rfl)
  · refine s_iconst (pc := 10) (v := 1) (dc dl_X11_casesOf 7 rfl) ic_1 ?_
    refine s_istore (pc := 11) (lv' := [some (.ref (ad 0)), some (.int x1), some (.int s2.1), some (.int s2.2), some (.int 1), none, none]) (dc dl_X11_casesOf 8 rfl) (Nat.le_of_ble_eq_true rfl) rfl ?_
    refine s_iconst (pc := 13) (v := 0) (dc dl_X11_casesOf 9 rfl) ic_0 ?_
    refine s_istore (pc := 14) (lv' := [some (.ref (ad 0)), some (.int x1), some (.int s2.1), some (.int s2.2), some (.int 1), some (.int 0), none]) (dc dl_X11_casesOf 10 rfl) (Nat.le_of_ble_eq_true rfl) rfl ?_
    refine s_weak (lv' := [some (.ref (ad 0)), some (.int x1), some (.int s2.1), some (.int s2.2), some (.int 1), some (.int 0), none]) rfl ?_
    refine s_loop (pc := 16) (fun s4 : Int32 × Int32 => [some (.ref (ad 0)), some (.int x1), some (.int s2.1), some (.int s2.2), some (.int s4.1), some (.int s4.2), none]) [] (fun self3 hself3 s4 => ?_) _ (1, 0)
    refine s_iload (pc := 16) (dc dl_X11_casesOf 11 rfl) rfl ?_
    refine s_iconst (pc := 18) (v := 4) (dc dl_X11_casesOf 12 rfl) ic_4 ?_
    refine s_icmp_ge (pc := 19) (tgt := 61) (dc dl_X11_casesOf 13 rfl) rfl ?_ ?_
    · refine s_iload (pc := 61) (dc dl_X11_casesOf 37 rfl) rfl ?_
      refine s_jn (pj := 72) (fun a6 : Int32 => [some (.ref (ad 0)), some (.int x1), some (.int a6), some (.int s2.2), none, none, none]) (fun a6 : Int32 => []) (fun a6 => ?_) (fun j5 hj5 => ?_)
      · refine s_iincL (pc := 72) (lf' := fun y7 => [some (.ref (ad 0)), some (.int x1), some (.int a6), some (.int y7), none, none, none]) (dc dl_X11_casesOf 45 rfl) rfl rfl (Nat.le_of_ble_eq_true rfl) (fun _ => rfl) (fun y7 => ?_)
        refine s_goto (pc := 75) (tgt := 4) (dc dl_X11_casesOf 46 rfl) rfl ?_
        exact s_wk (hself1 (a6, y7)) rfl
      · refine s_if_eq (pc := 63) (tgt := 72) (dc dl_X11_casesOf 38 rfl) rfl ?_ ?_
        · exact s_wk (hj5 s2.1) rfl
        · refine s_iload_n (pc := 66) (dc dl_X11_casesOf 39 rfl) rfl rfl ?_
          refine s_iconst (pc := 67) (v := 1) (dc dl_X11_casesOf 40 rfl) ic_1 ?_
          refine s_iload_n (pc := 68) (dc dl_X11_casesOf 41 rfl) rfl rfl ?_
          refine s_ishl (pc := 69) (dc dl_X11_casesOf 42 rfl) ?_
          refine s_ior (pc := 70) (dc dl_X11_casesOf 43 rfl) ?_
          refine s_istore_nL (pc := 71) (lf' := fun y8 => [some (.ref (ad 0)), some (.int x1), some (.int y8), some (.int s2.2), some (.int s4.1), some (.int s4.2), none]) (dc dl_X11_casesOf 44 rfl) rfl (Nat.le_of_ble_eq_true rfl) (fun _ => rfl) (fun y8 => ?_)
          exact s_wk (hj5 y8) rfl
    · refine s_iload_n (pc := 22) (dc dl_X11_casesOf 14 rfl) rfl rfl ?_
      refine s_aload_n (pc := 23) (dc dl_X11_casesOf 15 rfl) rfl rfl ?_
      refine s_getR (pc := 24) fl_X11_110 lk_Mo_0 kk_Mo_0_59 (dc dl_X11_casesOf 16 rfl) ?_
      refine s_iload (pc := 27) (dc dl_X11_casesOf 17 rfl) rfl ?_
      refine s_iald (pc := 29) lk_Mo_33 (dc dl_X11_casesOf 18 rfl) (fun v9 => ?_)
      refine s_idiv (pc := 30) (dc dl_X11_casesOf 19 rfl) ?_
      refine s_iconst (pc := 31) (v := 3) (dc dl_X11_casesOf 20 rfl) ic_3 ?_
      refine s_irem (pc := 32) (dc dl_X11_casesOf 21 rfl) ?_
      refine s_istoreL (pc := 33) (lf' := fun y10 => [some (.ref (ad 0)), some (.int x1), some (.int s2.1), some (.int s2.2), some (.int s4.1), some (.int s4.2), some (.int y10)]) (dc dl_X11_casesOf 22 rfl) (Nat.le_of_ble_eq_true rfl) (fun _ => rfl) (fun y10 => ?_)
      refine s_iload (pc := 35) (dc dl_X11_casesOf 23 rfl) rfl ?_
      refine s_iconst (pc := 37) (v := 2) (dc dl_X11_casesOf 24 rfl) ic_2 ?_
      refine s_jn (pj := 55) (fun a12 : Int32 => [some (.ref (ad 0)), some (.int x1), some (.int s2.1), some (.int s2.2), some (.int a12), some (.int s4.2), none]) (fun a12 : Int32 => []) (fun a12 => ?_) (fun j11 hj11 => ?_)
      · refine s_iincL (pc := 55) (lf' := fun y13 => [some (.ref (ad 0)), some (.int x1), some (.int s2.1), some (.int s2.2), some (.int a12), some (.int y13), none]) (dc dl_X11_casesOf 35 rfl) rfl rfl (Nat.le_of_ble_eq_true rfl) (fun _ => rfl) (fun y13 => ?_)
        refine s_goto (pc := 58) (tgt := 16) (dc dl_X11_casesOf 36 rfl) rfl ?_
        exact s_wk (hself3 (a12, y13)) rfl
      · refine s_icmp_ge (pc := 38) (tgt := 55) (dc dl_X11_casesOf 25 rfl) rfl ?_ ?_
        · exact s_wk (hj11 s4.1) rfl
        · refine s_iload (pc := 41) (dc dl_X11_casesOf 26 rfl) rfl ?_
          refine s_iload_n (pc := 43) (dc dl_X11_casesOf 27 rfl) rfl rfl ?_
          refine s_iload (pc := 44) (dc dl_X11_casesOf 28 rfl) rfl ?_
          refine s_ishr (pc := 46) (dc dl_X11_casesOf 29 rfl) ?_
          refine s_iconst (pc := 47) (v := 1) (dc dl_X11_casesOf 30 rfl) ic_1 ?_
          refine s_iand (pc := 48) (dc dl_X11_casesOf 31 rfl) ?_
          refine s_icmp_eq (pc := 49) (tgt := 55) (dc dl_X11_casesOf 32 rfl) rfl ?_ ?_
          · exact s_wk (hj11 s4.1) rfl
          · refine s_iconst (pc := 52) (v := 0) (dc dl_X11_casesOf 33 rfl) ic_0 ?_
            refine s_istore (pc := 53) (lv' := [some (.ref (ad 0)), some (.int x1), some (.int s2.1), some (.int s2.2), some (.int 0), some (.int s4.2), some (.int y10)]) (dc dl_X11_casesOf 34 rfl) (Nat.le_of_ble_eq_true rfl) rfl ?_
            exact s_wk (hj11 0) rfl
def gX11_isSide (x1 x2 : Int32) : MM Int32 :=
  bd (gX11_casesOf x1) fun r1 =>
  (if (r1 &&& (x2 ^^^ ((-1)))) = 0 then
  loopC 100000 (fun (self2 : Int32 → MM Int32) (s3 : Int32) =>
  (if 4 ≤ s3 then
  rz 1
  else
  bd (la 33 s3) fun v4 =>
  nz v4 (
  nz 3 (
  lt (irm (x1 / v4) 3) fun y5 =>
  jn (fun (a7 : Unit) =>
  lt (s3 + 1) fun y8 =>
  self2 y8) (fun j6 =>
  (if 2 ≤ y5 then
  j6 ()
  else
  bd (la 33 s3) fun v9 =>
  bd (gX11_casesOf (x1 + ((2 - y5) * v9))) fun r10 =>
  (if (r10 &&& (x2 ^^^ ((-1)))) = 0 then
  rz 0
  else
  j6 ()))))))) 0
  else
  rz 0)
set_option maxHeartbeats 4000000 in
theorem cn_X11_isSide (l : Launch) (G : Gl) (hG : gOk G) (ad : Nat → Nat) (x1 x2 : Int32) : Cn l G mX11_isSide 1 lay_Mo ad [.ref (ad 0), .int x1, .int x2] (gX11_isSide x1 x2) := by
  refine cn_of (lv := [some (.ref (ad 0)), some (.int x1), some (.int x2), none, none]) (by decide +kernel) rfl (Nat.le_of_ble_eq_true rfl) rfl ?_
  unfold gX11_isSide
  refine s_aload_n (pc := 0) (dc dl_X11_isSide 0 rfl) rfl rfl ?_
  refine s_iload_n (pc := 1) (dc dl_X11_isSide 1 rfl) rfl rfl ?_
  refine s_call (pc := 2) (rest := []) hG (calls_V (mi := mX11_isSide) (o := 0) (As := [.int x1]) (rest := []) hG (dc dl_X11_isSide 2 rfl) mo_X11_casesOf mv_X11_casesOf ml_X11_469 ⟨Nat.le_of_ble_eq_true rfl, Nat.le_of_ble_eq_true rfl⟩ rfl rfl (Nat.le_of_ble_eq_true rfl) lk_Mo_0 rfl) (cn_X11_casesOf l G hG ad x1) rfl (fun r1 => ?_)
  refine s_iload_n (pc := 5) (dc dl_X11_isSide 3 rfl) rfl rfl ?_
  refine s_iconst (pc := 6) (v := (-1)) (dc dl_X11_isSide 4 rfl) ic_m1 ?_
  refine s_ixor (pc := 7) (dc dl_X11_isSide 5 rfl) ?_
  refine s_iand (pc := 8) (dc dl_X11_isSide 6 rfl) ?_
  refine s_if_eq (pc := 9) (tgt := 14) (dc dl_X11_isSide 7 rfl) rfl ?_ ?_
  · refine s_iconst (pc := 14) (v := 0) (dc dl_X11_isSide 10 rfl) ic_0 ?_
    refine s_istore_n (pc := 15) (lv' := [some (.ref (ad 0)), some (.int x1), some (.int x2), some (.int 0), none]) (dc dl_X11_isSide 11 rfl) rfl (Nat.le_of_ble_eq_true rfl) rfl ?_
    refine s_weak (lv' := [some (.ref (ad 0)), some (.int x1), some (.int x2), some (.int 0), none]) rfl ?_
    refine s_loop (pc := 16) (fun s3 : Int32 => [some (.ref (ad 0)), some (.int x1), some (.int x2), some (.int s3), none]) [] (fun self2 hself2 s3 => ?_) _ 0
    refine s_iload_n (pc := 16) (dc dl_X11_isSide 12 rfl) rfl rfl ?_
    refine s_iconst (pc := 17) (v := 4) (dc dl_X11_isSide 13 rfl) ic_4 ?_
    refine s_icmp_ge (pc := 18) (tgt := 71) (dc dl_X11_isSide 14 rfl) rfl ?_ ?_
    · refine s_iconst (pc := 71) (v := 1) (dc dl_X11_isSide 48 rfl) ic_1 ?_
      exact s_zreturn (pc := 72) rfl (dc dl_X11_isSide 49 rfl)
    · refine s_iload_n (pc := 21) (dc dl_X11_isSide 15 rfl) rfl rfl ?_
      refine s_aload_n (pc := 22) (dc dl_X11_isSide 16 rfl) rfl rfl ?_
      refine s_getR (pc := 23) fl_X11_110 lk_Mo_0 kk_Mo_0_59 (dc dl_X11_isSide 17 rfl) ?_
      refine s_iload_n (pc := 26) (dc dl_X11_isSide 18 rfl) rfl rfl ?_
      refine s_iald (pc := 27) lk_Mo_33 (dc dl_X11_isSide 19 rfl) (fun v4 => ?_)
      refine s_idiv (pc := 28) (dc dl_X11_isSide 20 rfl) ?_
      refine s_iconst (pc := 29) (v := 3) (dc dl_X11_isSide 21 rfl) ic_3 ?_
      refine s_irem (pc := 30) (dc dl_X11_isSide 22 rfl) ?_
      refine s_istoreL (pc := 31) (lf' := fun y5 => [some (.ref (ad 0)), some (.int x1), some (.int x2), some (.int s3), some (.int y5)]) (dc dl_X11_isSide 23 rfl) (Nat.le_of_ble_eq_true rfl) (fun _ => rfl) (fun y5 => ?_)
      refine s_iload (pc := 33) (dc dl_X11_isSide 24 rfl) rfl ?_
      refine s_iconst (pc := 35) (v := 2) (dc dl_X11_isSide 25 rfl) ic_2 ?_
      refine s_jn (pj := 65) (fun a7 : Unit => [some (.ref (ad 0)), some (.int x1), some (.int x2), some (.int s3), none]) (fun a7 : Unit => []) (fun a7 => ?_) (fun j6 hj6 => ?_)
      · refine s_iincL (pc := 65) (lf' := fun y8 => [some (.ref (ad 0)), some (.int x1), some (.int x2), some (.int y8), none]) (dc dl_X11_isSide 46 rfl) rfl rfl (Nat.le_of_ble_eq_true rfl) (fun _ => rfl) (fun y8 => ?_)
        refine s_goto (pc := 68) (tgt := 16) (dc dl_X11_isSide 47 rfl) rfl ?_
        exact s_wk (hself2 y8) rfl
      · refine s_icmp_ge (pc := 36) (tgt := 65) (dc dl_X11_isSide 26 rfl) rfl ?_ ?_
        · exact s_wk (hj6 ()) rfl
        · refine s_aload_n (pc := 39) (dc dl_X11_isSide 27 rfl) rfl rfl ?_
          refine s_iload_n (pc := 40) (dc dl_X11_isSide 28 rfl) rfl rfl ?_
          refine s_iconst (pc := 41) (v := 2) (dc dl_X11_isSide 29 rfl) ic_2 ?_
          refine s_iload (pc := 42) (dc dl_X11_isSide 30 rfl) rfl ?_
          refine s_isub (pc := 44) (dc dl_X11_isSide 31 rfl) ?_
          refine s_aload_n (pc := 45) (dc dl_X11_isSide 32 rfl) rfl rfl ?_
          refine s_getR (pc := 46) fl_X11_110 lk_Mo_0 kk_Mo_0_59 (dc dl_X11_isSide 33 rfl) ?_
          refine s_iload_n (pc := 49) (dc dl_X11_isSide 34 rfl) rfl rfl ?_
          refine s_iald (pc := 50) lk_Mo_33 (dc dl_X11_isSide 35 rfl) (fun v9 => ?_)
          refine s_imul (pc := 51) (dc dl_X11_isSide 36 rfl) ?_
          refine s_iadd (pc := 52) (dc dl_X11_isSide 37 rfl) ?_
          refine s_call (pc := 53) (rest := []) hG (calls_V (mi := mX11_isSide) (o := 0) (As := [.int (x1 + ((2 - y5) * v9))]) (rest := []) hG (dc dl_X11_isSide 38 rfl) mo_X11_casesOf mv_X11_casesOf ml_X11_469 ⟨Nat.le_of_ble_eq_true rfl, Nat.le_of_ble_eq_true rfl⟩ rfl rfl (Nat.le_of_ble_eq_true rfl) lk_Mo_0 rfl) (cn_X11_casesOf l G hG ad (x1 + ((2 - y5) * v9))) rfl (fun r10 => ?_)
          refine s_iload_n (pc := 56) (dc dl_X11_isSide 39 rfl) rfl rfl ?_
          refine s_iconst (pc := 57) (v := (-1)) (dc dl_X11_isSide 40 rfl) ic_m1 ?_
          refine s_ixor (pc := 58) (dc dl_X11_isSide 41 rfl) ?_
          refine s_iand (pc := 59) (dc dl_X11_isSide 42 rfl) ?_
          refine s_if_ne (pc := 60) (tgt := 65) (dc dl_X11_isSide 43 rfl) rfl ?_ ?_
          · refine s_iconst (pc := 63) (v := 0) (dc dl_X11_isSide 44 rfl) ic_0 ?_
            exact s_zreturn (pc := 64) rfl (dc dl_X11_isSide 45 rfl)
          · exact s_wk (hj6 ()) rfl
  · refine s_iconst (pc := 12) (v := 0) (dc dl_X11_isSide 8 rfl) ic_0 ?_
    exact s_zreturn (pc := 13) rfl (dc dl_X11_isSide 9 rfl)
def gX11_truth (x1 x2 : Int32) : MM Int32 :=
  bd (sv 0 0 0) fun _ =>
  bd (gX11_isIn x1 0 65535) fun r1 =>
  jn (fun (a3 : Unit) =>
  pr ((-1))) (fun j2 =>
  (if r1 = 0 then
  j2 ()
  else
  bd (gX11_isIn x2 0 1) fun r4 =>
  (if r4 = 0 then
  j2 ()
  else
  loopC 100000 (fun (self5 : (Int32 × Int32 × Int32 × Int32) → MM Int32) (s6 : Int32 × Int32 × Int32 × Int32) =>
  (if 81 ≤ s6.2.2.2 then
  (if x2 = 0 then
  pr s6.2.2.1
  else
  loopC 100000 (fun (self7 : (Int32 × Int32) → MM Int32) (s8 : Int32 × Int32) =>
  (if 81 ≤ s8.2 then
  pr s8.1
  else
  bd (gX11_isSide s8.2 x1) fun r9 =>
  jn (fun (a11 : Int32) =>
  lt (s8.2 + 1) fun y12 =>
  self7 (a11, y12)) (fun j10 =>
  (if r9 = 0 then
  j10 s8.1
  else
  bd (gX11_casesOf s8.2) fun r13 =>
  (if (r13 &&& (s6.2.1 ^^^ ((-1)))) = 0 then
  j10 s8.1
  else
  lt (s8.1 + 1) fun y14 =>
  j10 y14))))) (0, 0))
  else
  bd (gX11_isSide s6.2.2.2 x1) fun r15 =>
  jn (fun (a17 : Int32 × Int32 × Int32) =>
  lt (s6.2.2.2 + 1) fun y18 =>
  self5 (a17.1, a17.2.1, a17.2.2, y18)) (fun j16 =>
  (if r15 = 0 then
  j16 (s6.1, s6.2.1, s6.2.2.1)
  else
  lt (s6.2.2.1 + 1) fun y19 =>
  bd (gX11_casesOf s6.2.2.2) fun r20 =>
  lt (s6.2.1 ||| (s6.1 &&& r20)) fun y21 =>
  bd (gX11_casesOf s6.2.2.2) fun r22 =>
  lt (s6.1 ||| r22) fun y23 =>
  j16 (y23, y21, y19))))) (0, 0, 0, 0))))
set_option maxHeartbeats 4000000 in
theorem cn_X11_truth (l : Launch) (G : Gl) (hG : gOk G) (ad : Nat → Nat) (x1 x2 : Int32) : Cn l G mX11_truth 2 lay_Mo ad [.ref (ad 0), .int x1, .int x2] (gX11_truth x1 x2) := by
  refine cn_of (lv := [some (.ref (ad 0)), some (.int x1), some (.int x2), none, none, none, none, none]) (by decide +kernel) rfl (Nat.le_of_ble_eq_true rfl) rfl ?_
  unfold gX11_truth
  refine s_aload_n (pc := 0) (dc dl_X11_truth 0 rfl) rfl rfl ?_
  refine s_iconst (pc := 1) (v := 0) (dc dl_X11_truth 1 rfl) ic_0 ?_
  refine s_putI (pc := 2) fw_X11_125 lk_Mo_0 kk_Mo_0_0 (dc dl_X11_truth 2 rfl) ?_
  refine s_aload_n (pc := 5) (dc dl_X11_truth 3 rfl) rfl rfl ?_
  refine s_iload_n (pc := 6) (dc dl_X11_truth 4 rfl) rfl rfl ?_
  refine s_iconst (pc := 7) (v := 0) (dc dl_X11_truth 5 rfl) ic_0 ?_
  refine s_ldcw (pc := 8) (v := 65535) ct_X11_472 (dc dl_X11_truth 6 rfl) ?_
  refine s_call (pc := 11) (rest := []) hG (calls_V (mi := mX11_truth) (o := 0) (As := [.int x1, .int 0, .int 65535]) (rest := []) hG (dc dl_X11_truth 7 rfl) mo_X11_isIn mv_X11_isIn ml_X11_150 ⟨Nat.le_of_ble_eq_true rfl, Nat.le_of_ble_eq_true rfl⟩ rfl rfl (Nat.le_of_ble_eq_true rfl) lk_Mo_0 rfl) (cn_X11_isIn l G hG ad x1 0 65535) rfl (fun r1 => ?_)
  refine s_jn (pj := 27) (fun a3 : Unit => [none, none, none, none, none, none, none, none]) (fun a3 : Unit => []) (fun a3 => ?_) (fun j2 hj2 => ?_)
  · refine s_iconst (pc := 27) (v := (-1)) (dc dl_X11_truth 15 rfl) ic_m1 ?_
    exact s_ireturn (pc := 28) rfl (dc dl_X11_truth 16 rfl)
  · refine s_if_eq (pc := 14) (tgt := 27) (dc dl_X11_truth 8 rfl) rfl ?_ ?_
    · exact s_wk (hj2 ()) rfl
    · refine s_aload_n (pc := 17) (dc dl_X11_truth 9 rfl) rfl rfl ?_
      refine s_iload_n (pc := 18) (dc dl_X11_truth 10 rfl) rfl rfl ?_
      refine s_iconst (pc := 19) (v := 0) (dc dl_X11_truth 11 rfl) ic_0 ?_
      refine s_iconst (pc := 20) (v := 1) (dc dl_X11_truth 12 rfl) ic_1 ?_
      refine s_call (pc := 21) (rest := []) hG (calls_V (mi := mX11_truth) (o := 0) (As := [.int x2, .int 0, .int 1]) (rest := []) hG (dc dl_X11_truth 13 rfl) mo_X11_isIn mv_X11_isIn ml_X11_150 ⟨Nat.le_of_ble_eq_true rfl, Nat.le_of_ble_eq_true rfl⟩ rfl rfl (Nat.le_of_ble_eq_true rfl) lk_Mo_0 rfl) (cn_X11_isIn l G hG ad x2 0 1) rfl (fun r4 => ?_)
      refine s_if_ne (pc := 24) (tgt := 29) (dc dl_X11_truth 14 rfl) rfl ?_ ?_
      · exact s_wk (hj2 ()) rfl
      · refine s_iconst (pc := 29) (v := 0) (dc dl_X11_truth 17 rfl) ic_0 ?_
        refine s_istore_n (pc := 30) (lv' := [some (.ref (ad 0)), some (.int x1), some (.int x2), some (.int 0), none, none, none, none]) (dc dl_X11_truth 18 rfl) rfl (Nat.le_of_ble_eq_true rfl) rfl ?_
        refine s_iconst (pc := 31) (v := 0) (dc dl_X11_truth 19 rfl) ic_0 ?_
        refine s_istore (pc := 32) (lv' := [some (.ref (ad 0)), some (.int x1), some (.int x2), some (.int 0), some (.int 0), none, none, none]) (dc dl_X11_truth 20 rfl) (Nat.le_of_ble_eq_true rfl) rfl ?_
        refine s_iconst (pc := 34) (v := 0) (dc dl_X11_truth 21 rfl) ic_0 ?_
        refine s_istore (pc := 35) (lv' := [some (.ref (ad 0)), some (.int x1), some (.int x2), some (.int 0), some (.int 0), some (.int 0), none, none]) (dc dl_X11_truth 22 rfl) (Nat.le_of_ble_eq_true rfl) rfl ?_
        refine s_iconst (pc := 37) (v := 0) (dc dl_X11_truth 23 rfl) ic_0 ?_
        refine s_istore (pc := 38) (lv' := [some (.ref (ad 0)), some (.int x1), some (.int x2), some (.int 0), some (.int 0), some (.int 0), some (.int 0), none]) (dc dl_X11_truth 24 rfl) (Nat.le_of_ble_eq_true rfl) rfl ?_
        refine s_weak (lv' := [some (.ref (ad 0)), some (.int x1), some (.int x2), some (.int 0), some (.int 0), some (.int 0), some (.int 0), none]) rfl ?_
        refine s_loop (pc := 40) (fun s6 : Int32 × Int32 × Int32 × Int32 => [some (.ref (ad 0)), some (.int x1), some (.int x2), some (.int s6.1), some (.int s6.2.1), some (.int s6.2.2.1), some (.int s6.2.2.2), none]) [] (fun self5 hself5 s6 => ?_) _ (0, 0, 0, 0)
        refine s_iload (pc := 40) (dc dl_X11_truth 25 rfl) rfl ?_
        refine s_bipush (pc := 42) (v := 81) (dc dl_X11_truth 26 rfl) bi_81 ?_
        refine s_icmp_ge (pc := 44) (tgt := 94) (dc dl_X11_truth 27 rfl) rfl ?_ ?_
        · refine s_iload_n (pc := 94) (dc dl_X11_truth 54 rfl) rfl rfl ?_
          refine s_if_ne (pc := 95) (tgt := 101) (dc dl_X11_truth 55 rfl) rfl ?_ ?_
          · refine s_iload (pc := 98) (dc dl_X11_truth 56 rfl) rfl ?_
            exact s_ireturn (pc := 100) rfl (dc dl_X11_truth 57 rfl)
          · refine s_iconst (pc := 101) (v := 0) (dc dl_X11_truth 58 rfl) ic_0 ?_
            refine s_istore (pc := 102) (lv' := [some (.ref (ad 0)), some (.int x1), some (.int x2), some (.int s6.1), some (.int s6.2.1), some (.int s6.2.2.1), some (.int 0), none]) (dc dl_X11_truth 59 rfl) (Nat.le_of_ble_eq_true rfl) rfl ?_
            refine s_iconst (pc := 104) (v := 0) (dc dl_X11_truth 60 rfl) ic_0 ?_
            refine s_istore (pc := 105) (lv' := [some (.ref (ad 0)), some (.int x1), some (.int x2), some (.int s6.1), some (.int s6.2.1), some (.int s6.2.2.1), some (.int 0), some (.int 0)]) (dc dl_X11_truth 61 rfl) (Nat.le_of_ble_eq_true rfl) rfl ?_
            refine s_weak (lv' := [some (.ref (ad 0)), some (.int x1), none, none, some (.int s6.2.1), none, some (.int 0), some (.int 0)]) rfl ?_
            refine s_loop (pc := 107) (fun s8 : Int32 × Int32 => [some (.ref (ad 0)), some (.int x1), none, none, some (.int s6.2.1), none, some (.int s8.1), some (.int s8.2)]) [] (fun self7 hself7 s8 => ?_) _ (0, 0)
            refine s_iload (pc := 107) (dc dl_X11_truth 62 rfl) rfl ?_
            refine s_bipush (pc := 109) (v := 81) (dc dl_X11_truth 63 rfl) bi_81 ?_
            refine s_icmp_ge (pc := 111) (tgt := 150) (dc dl_X11_truth 64 rfl) rfl ?_ ?_
            · refine s_iload (pc := 150) (dc dl_X11_truth 84 rfl) rfl ?_
              exact s_ireturn (pc := 152) rfl (dc dl_X11_truth 85 rfl)
            · refine s_aload_n (pc := 114) (dc dl_X11_truth 65 rfl) rfl rfl ?_
              refine s_iload (pc := 115) (dc dl_X11_truth 66 rfl) rfl ?_
              refine s_iload_n (pc := 117) (dc dl_X11_truth 67 rfl) rfl rfl ?_
              refine s_call (pc := 118) (rest := []) hG (calls_V (mi := mX11_truth) (o := 0) (As := [.int s8.2, .int x1]) (rest := []) hG (dc dl_X11_truth 68 rfl) mo_X11_isSide mv_X11_isSide ml_X11_473 ⟨Nat.le_of_ble_eq_true rfl, Nat.le_of_ble_eq_true rfl⟩ rfl rfl (Nat.le_of_ble_eq_true rfl) lk_Mo_0 rfl) (cn_X11_isSide l G hG ad s8.2 x1) rfl (fun r9 => ?_)
              refine s_jn (pj := 144) (fun a11 : Int32 => [some (.ref (ad 0)), some (.int x1), none, none, some (.int s6.2.1), none, some (.int a11), some (.int s8.2)]) (fun a11 : Int32 => []) (fun a11 => ?_) (fun j10 hj10 => ?_)
              · refine s_iincL (pc := 144) (lf' := fun y12 => [some (.ref (ad 0)), some (.int x1), none, none, some (.int s6.2.1), none, some (.int a11), some (.int y12)]) (dc dl_X11_truth 82 rfl) rfl rfl (Nat.le_of_ble_eq_true rfl) (fun _ => rfl) (fun y12 => ?_)
                refine s_goto (pc := 147) (tgt := 107) (dc dl_X11_truth 83 rfl) rfl ?_
                exact s_wk (hself7 (a11, y12)) rfl
              · refine s_if_eq (pc := 121) (tgt := 144) (dc dl_X11_truth 69 rfl) rfl ?_ ?_
                · exact s_wk (hj10 s8.1) rfl
                · refine s_aload_n (pc := 124) (dc dl_X11_truth 70 rfl) rfl rfl ?_
                  refine s_iload (pc := 125) (dc dl_X11_truth 71 rfl) rfl ?_
                  refine s_call (pc := 127) (rest := []) hG (calls_V (mi := mX11_truth) (o := 0) (As := [.int s8.2]) (rest := []) hG (dc dl_X11_truth 72 rfl) mo_X11_casesOf mv_X11_casesOf ml_X11_469 ⟨Nat.le_of_ble_eq_true rfl, Nat.le_of_ble_eq_true rfl⟩ rfl rfl (Nat.le_of_ble_eq_true rfl) lk_Mo_0 rfl) (cn_X11_casesOf l G hG ad s8.2) rfl (fun r13 => ?_)
                  refine s_iload (pc := 130) (dc dl_X11_truth 73 rfl) rfl ?_
                  refine s_iconst (pc := 132) (v := (-1)) (dc dl_X11_truth 74 rfl) ic_m1 ?_
                  refine s_ixor (pc := 133) (dc dl_X11_truth 75 rfl) ?_
                  refine s_iand (pc := 134) (dc dl_X11_truth 76 rfl) ?_
                  refine s_if_eq (pc := 135) (tgt := 144) (dc dl_X11_truth 77 rfl) rfl ?_ ?_
                  · exact s_wk (hj10 s8.1) rfl
                  · refine s_iload (pc := 138) (dc dl_X11_truth 78 rfl) rfl ?_
                    refine s_iconst (pc := 140) (v := 1) (dc dl_X11_truth 79 rfl) ic_1 ?_
                    refine s_iadd (pc := 141) (dc dl_X11_truth 80 rfl) ?_
                    refine s_istoreL (pc := 142) (lf' := fun y14 => [some (.ref (ad 0)), some (.int x1), none, none, some (.int s6.2.1), none, some (.int y14), some (.int s8.2)]) (dc dl_X11_truth 81 rfl) (Nat.le_of_ble_eq_true rfl) (fun _ => rfl) (fun y14 => ?_)
                    exact s_wk (hj10 y14) rfl
        · refine s_aload_n (pc := 47) (dc dl_X11_truth 28 rfl) rfl rfl ?_
          refine s_iload (pc := 48) (dc dl_X11_truth 29 rfl) rfl ?_
          refine s_iload_n (pc := 50) (dc dl_X11_truth 30 rfl) rfl rfl ?_
          refine s_call (pc := 51) (rest := []) hG (calls_V (mi := mX11_truth) (o := 0) (As := [.int s6.2.2.2, .int x1]) (rest := []) hG (dc dl_X11_truth 31 rfl) mo_X11_isSide mv_X11_isSide ml_X11_473 ⟨Nat.le_of_ble_eq_true rfl, Nat.le_of_ble_eq_true rfl⟩ rfl rfl (Nat.le_of_ble_eq_true rfl) lk_Mo_0 rfl) (cn_X11_isSide l G hG ad s6.2.2.2 x1) rfl (fun r15 => ?_)
          refine s_jn (pj := 88) (fun a17 : Int32 × Int32 × Int32 => [some (.ref (ad 0)), some (.int x1), some (.int x2), some (.int a17.1), some (.int a17.2.1), some (.int a17.2.2), some (.int s6.2.2.2), none]) (fun a17 : Int32 × Int32 × Int32 => []) (fun a17 => ?_) (fun j16 hj16 => ?_)
          · refine s_iincL (pc := 88) (lf' := fun y18 => [some (.ref (ad 0)), some (.int x1), some (.int x2), some (.int a17.1), some (.int a17.2.1), some (.int a17.2.2), some (.int y18), none]) (dc dl_X11_truth 52 rfl) rfl rfl (Nat.le_of_ble_eq_true rfl) (fun _ => rfl) (fun y18 => ?_)
            refine s_goto (pc := 91) (tgt := 40) (dc dl_X11_truth 53 rfl) rfl ?_
            exact s_wk (hself5 (a17.1, a17.2.1, a17.2.2, y18)) rfl
          · refine s_if_ne (pc := 54) (tgt := 60) (dc dl_X11_truth 32 rfl) rfl ?_ ?_
            · refine s_goto (pc := 57) (tgt := 88) (dc dl_X11_truth 33 rfl) rfl ?_
              exact s_wk (hj16 (s6.1, s6.2.1, s6.2.2.1)) rfl
            · refine s_iload (pc := 60) (dc dl_X11_truth 34 rfl) rfl ?_
              refine s_iconst (pc := 62) (v := 1) (dc dl_X11_truth 35 rfl) ic_1 ?_
              refine s_iadd (pc := 63) (dc dl_X11_truth 36 rfl) ?_
              refine s_istoreL (pc := 64) (lf' := fun y19 => [some (.ref (ad 0)), some (.int x1), some (.int x2), some (.int s6.1), some (.int s6.2.1), some (.int y19), some (.int s6.2.2.2), none]) (dc dl_X11_truth 37 rfl) (Nat.le_of_ble_eq_true rfl) (fun _ => rfl) (fun y19 => ?_)
              refine s_iload (pc := 66) (dc dl_X11_truth 38 rfl) rfl ?_
              refine s_iload_n (pc := 68) (dc dl_X11_truth 39 rfl) rfl rfl ?_
              refine s_aload_n (pc := 69) (dc dl_X11_truth 40 rfl) rfl rfl ?_
              refine s_iload (pc := 70) (dc dl_X11_truth 41 rfl) rfl ?_
              refine s_call (pc := 72) (rest := [.int s6.1, .int s6.2.1]) hG (calls_V (mi := mX11_truth) (o := 0) (As := [.int s6.2.2.2]) (rest := [.int s6.1, .int s6.2.1]) hG (dc dl_X11_truth 42 rfl) mo_X11_casesOf mv_X11_casesOf ml_X11_469 ⟨Nat.le_of_ble_eq_true rfl, Nat.le_of_ble_eq_true rfl⟩ rfl rfl (Nat.le_of_ble_eq_true rfl) lk_Mo_0 rfl) (cn_X11_casesOf l G hG ad s6.2.2.2) rfl (fun r20 => ?_)
              refine s_iand (pc := 75) (dc dl_X11_truth 43 rfl) ?_
              refine s_ior (pc := 76) (dc dl_X11_truth 44 rfl) ?_
              refine s_istoreL (pc := 77) (lf' := fun y21 => [some (.ref (ad 0)), some (.int x1), some (.int x2), some (.int s6.1), some (.int y21), some (.int y19), some (.int s6.2.2.2), none]) (dc dl_X11_truth 45 rfl) (Nat.le_of_ble_eq_true rfl) (fun _ => rfl) (fun y21 => ?_)
              refine s_iload_n (pc := 79) (dc dl_X11_truth 46 rfl) rfl rfl ?_
              refine s_aload_n (pc := 80) (dc dl_X11_truth 47 rfl) rfl rfl ?_
              refine s_iload (pc := 81) (dc dl_X11_truth 48 rfl) rfl ?_
              refine s_call (pc := 83) (rest := [.int s6.1]) hG (calls_V (mi := mX11_truth) (o := 0) (As := [.int s6.2.2.2]) (rest := [.int s6.1]) hG (dc dl_X11_truth 49 rfl) mo_X11_casesOf mv_X11_casesOf ml_X11_469 ⟨Nat.le_of_ble_eq_true rfl, Nat.le_of_ble_eq_true rfl⟩ rfl rfl (Nat.le_of_ble_eq_true rfl) lk_Mo_0 rfl) (cn_X11_casesOf l G hG ad s6.2.2.2) rfl (fun r22 => ?_)
              refine s_ior (pc := 86) (dc dl_X11_truth 50 rfl) ?_
              refine s_istore_nL (pc := 87) (lf' := fun y23 => [some (.ref (ad 0)), some (.int x1), some (.int x2), some (.int y23), some (.int y21), some (.int y19), some (.int s6.2.2.2), none]) (dc dl_X11_truth 51 rfl) rfl (Nat.le_of_ble_eq_true rfl) (fun _ => rfl) (fun y23 => ?_)
              exact s_wk (hj16 (y23, y21, y19)) rfl
def gX11_meetsOf (x1 x2 x3 : Int32) : MM Int32 :=
  (if x3 = (x1 - 1) then
  pr x2
  else
  nz (x1 - 1) (
  nz (x1 - 1) (
  lt (irm (((irm ((2 * x2) - x3) (x1 - 1)) + x1) - 1) (x1 - 1)) fun y1 =>
  jn (fun (a3 : Int32) =>
  pr a3) (fun j2 =>
  (if y1 = x3 then
  j2 (x1 - 1)
  else
  j2 y1)))))
set_option maxHeartbeats 4000000 in
theorem cn_X11_meetsOf (l : Launch) (G : Gl) (hG : gOk G) (ad : Nat → Nat) (x1 x2 x3 : Int32) : Cn l G mX11_meetsOf 0 lay_Mo ad [.ref (ad 0), .int x1, .int x2, .int x3] (gX11_meetsOf x1 x2 x3) := by
  refine cn_of (lv := [some (.ref (ad 0)), some (.int x1), some (.int x2), some (.int x3), none]) (by decide +kernel) rfl (Nat.le_of_ble_eq_true rfl) rfl ?_
  unfold gX11_meetsOf
  refine s_iload_n (pc := 0) (dc dl_X11_meetsOf 0 rfl) rfl rfl ?_
  refine s_iload_n (pc := 1) (dc dl_X11_meetsOf 1 rfl) rfl rfl ?_
  refine s_iconst (pc := 2) (v := 1) (dc dl_X11_meetsOf 2 rfl) ic_1 ?_
  refine s_isub (pc := 3) (dc dl_X11_meetsOf 3 rfl) ?_
  refine s_icmp_ne (pc := 4) (tgt := 9) (dc dl_X11_meetsOf 4 rfl) rfl ?_ ?_
  · refine s_iload_n (pc := 7) (dc dl_X11_meetsOf 5 rfl) rfl rfl ?_
    exact s_ireturn (pc := 8) rfl (dc dl_X11_meetsOf 6 rfl)
  · refine s_iconst (pc := 9) (v := 2) (dc dl_X11_meetsOf 7 rfl) ic_2 ?_
    refine s_iload_n (pc := 10) (dc dl_X11_meetsOf 8 rfl) rfl rfl ?_
    refine s_imul (pc := 11) (dc dl_X11_meetsOf 9 rfl) ?_
    refine s_iload_n (pc := 12) (dc dl_X11_meetsOf 10 rfl) rfl rfl ?_
    refine s_isub (pc := 13) (dc dl_X11_meetsOf 11 rfl) ?_
    refine s_iload_n (pc := 14) (dc dl_X11_meetsOf 12 rfl) rfl rfl ?_
    refine s_iconst (pc := 15) (v := 1) (dc dl_X11_meetsOf 13 rfl) ic_1 ?_
    refine s_isub (pc := 16) (dc dl_X11_meetsOf 14 rfl) ?_
    refine s_irem (pc := 17) (dc dl_X11_meetsOf 15 rfl) ?_
    refine s_iload_n (pc := 18) (dc dl_X11_meetsOf 16 rfl) rfl rfl ?_
    refine s_iadd (pc := 19) (dc dl_X11_meetsOf 17 rfl) ?_
    refine s_iconst (pc := 20) (v := 1) (dc dl_X11_meetsOf 18 rfl) ic_1 ?_
    refine s_isub (pc := 21) (dc dl_X11_meetsOf 19 rfl) ?_
    refine s_iload_n (pc := 22) (dc dl_X11_meetsOf 20 rfl) rfl rfl ?_
    refine s_iconst (pc := 23) (v := 1) (dc dl_X11_meetsOf 21 rfl) ic_1 ?_
    refine s_isub (pc := 24) (dc dl_X11_meetsOf 22 rfl) ?_
    refine s_irem (pc := 25) (dc dl_X11_meetsOf 23 rfl) ?_
    refine s_istoreL (pc := 26) (lf' := fun y1 => [some (.ref (ad 0)), some (.int x1), some (.int x2), some (.int x3), some (.int y1)]) (dc dl_X11_meetsOf 24 rfl) (Nat.le_of_ble_eq_true rfl) (fun _ => rfl) (fun y1 => ?_)
    refine s_iload (pc := 28) (dc dl_X11_meetsOf 25 rfl) rfl ?_
    refine s_iload_n (pc := 30) (dc dl_X11_meetsOf 26 rfl) rfl rfl ?_
    refine s_jn (pj := 42) (fun a3 : Int32 => [none, none, none, none, none]) (fun a3 : Int32 => [.int a3]) (fun a3 => ?_) (fun j2 hj2 => ?_)
    · exact s_ireturn (pc := 42) rfl (dc dl_X11_meetsOf 33 rfl)
    · refine s_icmp_ne (pc := 31) (tgt := 40) (dc dl_X11_meetsOf 27 rfl) rfl ?_ ?_
      · refine s_iload_n (pc := 34) (dc dl_X11_meetsOf 28 rfl) rfl rfl ?_
        refine s_iconst (pc := 35) (v := 1) (dc dl_X11_meetsOf 29 rfl) ic_1 ?_
        refine s_isub (pc := 36) (dc dl_X11_meetsOf 30 rfl) ?_
        refine s_goto (pc := 37) (tgt := 42) (dc dl_X11_meetsOf 31 rfl) rfl ?_
        exact s_wk (hj2 (x1 - 1)) rfl
      · refine s_iload (pc := 40) (dc dl_X11_meetsOf 32 rfl) rfl ?_
        exact s_wk (hj2 y1) rfl
def gX11_rounds (x1 x2 x3 : Int32) : MM Int32 :=
  bd (sv 0 0 0) fun _ =>
  nz 2 (
  lt (x1 + (irm x1 2)) fun y1 =>
  bd (gX11_isIn x1 2 13) fun r2 =>
  jn (fun (a4 : Unit) =>
  pr ((-1))) (fun j3 =>
  (if r2 = 0 then
  j3 ()
  else
  bd (gX11_isIn x2 0 (y1 - 2)) fun r5 =>
  (if r5 = 0 then
  j3 ()
  else
  bd (gX11_isIn x3 0 (x1 - 1)) fun r6 =>
  (if r6 = 0 then
  j3 ()
  else
  bd (gX11_meetsOf y1 x2 x3) fun r7 =>
  jn (fun (a9 : Int32) =>
  pr a9) (fun j8 =>
  (if x1 ≤ r7 then
  j8 ((-1))
  else
  j8 r7)))))))
set_option maxHeartbeats 4000000 in
theorem cn_X11_rounds (l : Launch) (G : Gl) (hG : gOk G) (ad : Nat → Nat) (x1 x2 x3 : Int32) : Cn l G mX11_rounds 1 lay_Mo ad [.ref (ad 0), .int x1, .int x2, .int x3] (gX11_rounds x1 x2 x3) := by
  refine cn_of (lv := [some (.ref (ad 0)), some (.int x1), some (.int x2), some (.int x3), none, none]) (by decide +kernel) rfl (Nat.le_of_ble_eq_true rfl) rfl ?_
  unfold gX11_rounds
  refine s_aload_n (pc := 0) (dc dl_X11_rounds 0 rfl) rfl rfl ?_
  refine s_iconst (pc := 1) (v := 0) (dc dl_X11_rounds 1 rfl) ic_0 ?_
  refine s_putI (pc := 2) fw_X11_125 lk_Mo_0 kk_Mo_0_0 (dc dl_X11_rounds 2 rfl) ?_
  refine s_iload_n (pc := 5) (dc dl_X11_rounds 3 rfl) rfl rfl ?_
  refine s_iload_n (pc := 6) (dc dl_X11_rounds 4 rfl) rfl rfl ?_
  refine s_iconst (pc := 7) (v := 2) (dc dl_X11_rounds 5 rfl) ic_2 ?_
  refine s_irem (pc := 8) (dc dl_X11_rounds 6 rfl) ?_
  refine s_iadd (pc := 9) (dc dl_X11_rounds 7 rfl) ?_
  refine s_istoreL (pc := 10) (lf' := fun y1 => [some (.ref (ad 0)), some (.int x1), some (.int x2), some (.int x3), some (.int y1), none]) (dc dl_X11_rounds 8 rfl) (Nat.le_of_ble_eq_true rfl) (fun _ => rfl) (fun y1 => ?_)
  refine s_aload_n (pc := 12) (dc dl_X11_rounds 9 rfl) rfl rfl ?_
  refine s_iload_n (pc := 13) (dc dl_X11_rounds 10 rfl) rfl rfl ?_
  refine s_iconst (pc := 14) (v := 2) (dc dl_X11_rounds 11 rfl) ic_2 ?_
  refine s_bipush (pc := 15) (v := 13) (dc dl_X11_rounds 12 rfl) bi_13 ?_
  refine s_call (pc := 17) (rest := []) hG (calls_V (mi := mX11_rounds) (o := 0) (As := [.int x1, .int 2, .int 13]) (rest := []) hG (dc dl_X11_rounds 13 rfl) mo_X11_isIn mv_X11_isIn ml_X11_150 ⟨Nat.le_of_ble_eq_true rfl, Nat.le_of_ble_eq_true rfl⟩ rfl rfl (Nat.le_of_ble_eq_true rfl) lk_Mo_0 rfl) (cn_X11_isIn l G hG ad x1 2 13) rfl (fun r2 => ?_)
  refine s_jn (pj := 48) (fun a4 : Unit => [none, none, none, none, none, none]) (fun a4 : Unit => []) (fun a4 => ?_) (fun j3 hj3 => ?_)
  · refine s_iconst (pc := 48) (v := (-1)) (dc dl_X11_rounds 31 rfl) ic_m1 ?_
    exact s_ireturn (pc := 49) rfl (dc dl_X11_rounds 32 rfl)
  · refine s_if_eq (pc := 20) (tgt := 48) (dc dl_X11_rounds 14 rfl) rfl ?_ ?_
    · exact s_wk (hj3 ()) rfl
    · refine s_aload_n (pc := 23) (dc dl_X11_rounds 15 rfl) rfl rfl ?_
      refine s_iload_n (pc := 24) (dc dl_X11_rounds 16 rfl) rfl rfl ?_
      refine s_iconst (pc := 25) (v := 0) (dc dl_X11_rounds 17 rfl) ic_0 ?_
      refine s_iload (pc := 26) (dc dl_X11_rounds 18 rfl) rfl ?_
      refine s_iconst (pc := 28) (v := 2) (dc dl_X11_rounds 19 rfl) ic_2 ?_
      refine s_isub (pc := 29) (dc dl_X11_rounds 20 rfl) ?_
      refine s_call (pc := 30) (rest := []) hG (calls_V (mi := mX11_rounds) (o := 0) (As := [.int x2, .int 0, .int (y1 - 2)]) (rest := []) hG (dc dl_X11_rounds 21 rfl) mo_X11_isIn mv_X11_isIn ml_X11_150 ⟨Nat.le_of_ble_eq_true rfl, Nat.le_of_ble_eq_true rfl⟩ rfl rfl (Nat.le_of_ble_eq_true rfl) lk_Mo_0 rfl) (cn_X11_isIn l G hG ad x2 0 (y1 - 2)) rfl (fun r5 => ?_)
      refine s_if_eq (pc := 33) (tgt := 48) (dc dl_X11_rounds 22 rfl) rfl ?_ ?_
      · exact s_wk (hj3 ()) rfl
      · refine s_aload_n (pc := 36) (dc dl_X11_rounds 23 rfl) rfl rfl ?_
        refine s_iload_n (pc := 37) (dc dl_X11_rounds 24 rfl) rfl rfl ?_
        refine s_iconst (pc := 38) (v := 0) (dc dl_X11_rounds 25 rfl) ic_0 ?_
        refine s_iload_n (pc := 39) (dc dl_X11_rounds 26 rfl) rfl rfl ?_
        refine s_iconst (pc := 40) (v := 1) (dc dl_X11_rounds 27 rfl) ic_1 ?_
        refine s_isub (pc := 41) (dc dl_X11_rounds 28 rfl) ?_
        refine s_call (pc := 42) (rest := []) hG (calls_V (mi := mX11_rounds) (o := 0) (As := [.int x3, .int 0, .int (x1 - 1)]) (rest := []) hG (dc dl_X11_rounds 29 rfl) mo_X11_isIn mv_X11_isIn ml_X11_150 ⟨Nat.le_of_ble_eq_true rfl, Nat.le_of_ble_eq_true rfl⟩ rfl rfl (Nat.le_of_ble_eq_true rfl) lk_Mo_0 rfl) (cn_X11_isIn l G hG ad x3 0 (x1 - 1)) rfl (fun r6 => ?_)
        refine s_if_ne (pc := 45) (tgt := 50) (dc dl_X11_rounds 30 rfl) rfl ?_ ?_
        · exact s_wk (hj3 ()) rfl
        · refine s_aload_n (pc := 50) (dc dl_X11_rounds 33 rfl) rfl rfl ?_
          refine s_iload (pc := 51) (dc dl_X11_rounds 34 rfl) rfl ?_
          refine s_iload_n (pc := 53) (dc dl_X11_rounds 35 rfl) rfl rfl ?_
          refine s_iload_n (pc := 54) (dc dl_X11_rounds 36 rfl) rfl rfl ?_
          refine s_call (pc := 55) (rest := []) hG (calls_V (mi := mX11_rounds) (o := 0) (As := [.int y1, .int x2, .int x3]) (rest := []) hG (dc dl_X11_rounds 37 rfl) mo_X11_meetsOf mv_X11_meetsOf ml_X11_476 ⟨Nat.le_of_ble_eq_true rfl, Nat.le_of_ble_eq_true rfl⟩ rfl rfl (Nat.le_of_ble_eq_true rfl) lk_Mo_0 rfl) (cn_X11_meetsOf l G hG ad y1 x2 x3) rfl (fun r7 => ?_)
          refine s_istore (pc := 58) (lv' := [some (.ref (ad 0)), some (.int x1), some (.int x2), some (.int x3), some (.int y1), some (.int r7)]) (dc dl_X11_rounds 38 rfl) (Nat.le_of_ble_eq_true rfl) rfl ?_
          refine s_iload (pc := 60) (dc dl_X11_rounds 39 rfl) rfl ?_
          refine s_iload_n (pc := 62) (dc dl_X11_rounds 40 rfl) rfl rfl ?_
          refine s_jn (pj := 72) (fun a9 : Int32 => [none, none, none, none, none, none]) (fun a9 : Int32 => [.int a9]) (fun a9 => ?_) (fun j8 hj8 => ?_)
          · exact s_ireturn (pc := 72) rfl (dc dl_X11_rounds 45 rfl)
          · refine s_icmp_ge (pc := 63) (tgt := 71) (dc dl_X11_rounds 41 rfl) rfl ?_ ?_
            · refine s_iconst (pc := 71) (v := (-1)) (dc dl_X11_rounds 44 rfl) ic_m1 ?_
              exact s_wk (hj8 ((-1))) rfl
            · refine s_iload (pc := 66) (dc dl_X11_rounds 42 rfl) rfl ?_
              refine s_goto (pc := 68) (tgt := 72) (dc dl_X11_rounds 43 rfl) rfl ?_
              exact s_wk (hj8 r7) rfl
def gX11_meets (x1 x2 x3 : Int32) : MM Int32 :=
  bd (sv 0 0 0) fun _ =>
  nz 2 (
  lt (x1 + (irm x1 2)) fun y1 =>
  bd (gX11_isIn x1 2 13) fun r2 =>
  jn (fun (a4 : Unit) =>
  pr ((-1))) (fun j3 =>
  (if r2 = 0 then
  j3 ()
  else
  bd (gX11_isIn x2 0 (x1 - 1)) fun r5 =>
  (if r5 = 0 then
  j3 ()
  else
  bd (gX11_isIn x3 0 (x1 - 1)) fun r6 =>
  (if r6 = 0 then
  j3 ()
  else
  (if x2 = x3 then
  j3 ()
  else
  loopC 100000 (fun (self7 : Int32 → MM Int32) (s8 : Int32) =>
  bd (gX11_meetsOf y1 s8 x2) fun r9 =>
  (if r9 = x3 then
  pr s8
  else
  lt (s8 + 1) fun y10 =>
  self7 y10)) 0))))))
set_option maxHeartbeats 4000000 in
theorem cn_X11_meets (l : Launch) (G : Gl) (hG : gOk G) (ad : Nat → Nat) (x1 x2 x3 : Int32) : Cn l G mX11_meets 1 lay_Mo ad [.ref (ad 0), .int x1, .int x2, .int x3] (gX11_meets x1 x2 x3) := by
  refine cn_of (lv := [some (.ref (ad 0)), some (.int x1), some (.int x2), some (.int x3), none, none]) (by decide +kernel) rfl (Nat.le_of_ble_eq_true rfl) rfl ?_
  unfold gX11_meets
  refine s_aload_n (pc := 0) (dc dl_X11_meets 0 rfl) rfl rfl ?_
  refine s_iconst (pc := 1) (v := 0) (dc dl_X11_meets 1 rfl) ic_0 ?_
  refine s_putI (pc := 2) fw_X11_125 lk_Mo_0 kk_Mo_0_0 (dc dl_X11_meets 2 rfl) ?_
  refine s_iload_n (pc := 5) (dc dl_X11_meets 3 rfl) rfl rfl ?_
  refine s_iload_n (pc := 6) (dc dl_X11_meets 4 rfl) rfl rfl ?_
  refine s_iconst (pc := 7) (v := 2) (dc dl_X11_meets 5 rfl) ic_2 ?_
  refine s_irem (pc := 8) (dc dl_X11_meets 6 rfl) ?_
  refine s_iadd (pc := 9) (dc dl_X11_meets 7 rfl) ?_
  refine s_istoreL (pc := 10) (lf' := fun y1 => [some (.ref (ad 0)), some (.int x1), some (.int x2), some (.int x3), some (.int y1), none]) (dc dl_X11_meets 8 rfl) (Nat.le_of_ble_eq_true rfl) (fun _ => rfl) (fun y1 => ?_)
  refine s_aload_n (pc := 12) (dc dl_X11_meets 9 rfl) rfl rfl ?_
  refine s_iload_n (pc := 13) (dc dl_X11_meets 10 rfl) rfl rfl ?_
  refine s_iconst (pc := 14) (v := 2) (dc dl_X11_meets 11 rfl) ic_2 ?_
  refine s_bipush (pc := 15) (v := 13) (dc dl_X11_meets 12 rfl) bi_13 ?_
  refine s_call (pc := 17) (rest := []) hG (calls_V (mi := mX11_meets) (o := 0) (As := [.int x1, .int 2, .int 13]) (rest := []) hG (dc dl_X11_meets 13 rfl) mo_X11_isIn mv_X11_isIn ml_X11_150 ⟨Nat.le_of_ble_eq_true rfl, Nat.le_of_ble_eq_true rfl⟩ rfl rfl (Nat.le_of_ble_eq_true rfl) lk_Mo_0 rfl) (cn_X11_isIn l G hG ad x1 2 13) rfl (fun r2 => ?_)
  refine s_jn (pj := 52) (fun a4 : Unit => [none, none, none, none, none, none]) (fun a4 : Unit => []) (fun a4 => ?_) (fun j3 hj3 => ?_)
  · refine s_iconst (pc := 52) (v := (-1)) (dc dl_X11_meets 34 rfl) ic_m1 ?_
    exact s_ireturn (pc := 53) rfl (dc dl_X11_meets 35 rfl)
  · refine s_if_eq (pc := 20) (tgt := 52) (dc dl_X11_meets 14 rfl) rfl ?_ ?_
    · exact s_wk (hj3 ()) rfl
    · refine s_aload_n (pc := 23) (dc dl_X11_meets 15 rfl) rfl rfl ?_
      refine s_iload_n (pc := 24) (dc dl_X11_meets 16 rfl) rfl rfl ?_
      refine s_iconst (pc := 25) (v := 0) (dc dl_X11_meets 17 rfl) ic_0 ?_
      refine s_iload_n (pc := 26) (dc dl_X11_meets 18 rfl) rfl rfl ?_
      refine s_iconst (pc := 27) (v := 1) (dc dl_X11_meets 19 rfl) ic_1 ?_
      refine s_isub (pc := 28) (dc dl_X11_meets 20 rfl) ?_
      refine s_call (pc := 29) (rest := []) hG (calls_V (mi := mX11_meets) (o := 0) (As := [.int x2, .int 0, .int (x1 - 1)]) (rest := []) hG (dc dl_X11_meets 21 rfl) mo_X11_isIn mv_X11_isIn ml_X11_150 ⟨Nat.le_of_ble_eq_true rfl, Nat.le_of_ble_eq_true rfl⟩ rfl rfl (Nat.le_of_ble_eq_true rfl) lk_Mo_0 rfl) (cn_X11_isIn l G hG ad x2 0 (x1 - 1)) rfl (fun r5 => ?_)
      refine s_if_eq (pc := 32) (tgt := 52) (dc dl_X11_meets 22 rfl) rfl ?_ ?_
      · exact s_wk (hj3 ()) rfl
      · refine s_aload_n (pc := 35) (dc dl_X11_meets 23 rfl) rfl rfl ?_
        refine s_iload_n (pc := 36) (dc dl_X11_meets 24 rfl) rfl rfl ?_
        refine s_iconst (pc := 37) (v := 0) (dc dl_X11_meets 25 rfl) ic_0 ?_
        refine s_iload_n (pc := 38) (dc dl_X11_meets 26 rfl) rfl rfl ?_
        refine s_iconst (pc := 39) (v := 1) (dc dl_X11_meets 27 rfl) ic_1 ?_
        refine s_isub (pc := 40) (dc dl_X11_meets 28 rfl) ?_
        refine s_call (pc := 41) (rest := []) hG (calls_V (mi := mX11_meets) (o := 0) (As := [.int x3, .int 0, .int (x1 - 1)]) (rest := []) hG (dc dl_X11_meets 29 rfl) mo_X11_isIn mv_X11_isIn ml_X11_150 ⟨Nat.le_of_ble_eq_true rfl, Nat.le_of_ble_eq_true rfl⟩ rfl rfl (Nat.le_of_ble_eq_true rfl) lk_Mo_0 rfl) (cn_X11_isIn l G hG ad x3 0 (x1 - 1)) rfl (fun r6 => ?_)
        refine s_if_eq (pc := 44) (tgt := 52) (dc dl_X11_meets 30 rfl) rfl ?_ ?_
        · exact s_wk (hj3 ()) rfl
        · refine s_iload_n (pc := 47) (dc dl_X11_meets 31 rfl) rfl rfl ?_
          refine s_iload_n (pc := 48) (dc dl_X11_meets 32 rfl) rfl rfl ?_
          refine s_icmp_ne (pc := 49) (tgt := 54) (dc dl_X11_meets 33 rfl) rfl ?_ ?_
          · exact s_wk (hj3 ()) rfl
          · refine s_iconst (pc := 54) (v := 0) (dc dl_X11_meets 36 rfl) ic_0 ?_
            refine s_istore (pc := 55) (lv' := [some (.ref (ad 0)), some (.int x1), some (.int x2), some (.int x3), some (.int y1), some (.int 0)]) (dc dl_X11_meets 37 rfl) (Nat.le_of_ble_eq_true rfl) rfl ?_
            refine s_weak (lv' := [some (.ref (ad 0)), none, some (.int x2), some (.int x3), some (.int y1), some (.int 0)]) rfl ?_
            refine s_loop (pc := 57) (fun s8 : Int32 => [some (.ref (ad 0)), none, some (.int x2), some (.int x3), some (.int y1), some (.int s8)]) [] (fun self7 hself7 s8 => ?_) _ 0
            refine s_aload_n (pc := 57) (dc dl_X11_meets 38 rfl) rfl rfl ?_
            refine s_iload (pc := 58) (dc dl_X11_meets 39 rfl) rfl ?_
            refine s_iload (pc := 60) (dc dl_X11_meets 40 rfl) rfl ?_
            refine s_iload_n (pc := 62) (dc dl_X11_meets 41 rfl) rfl rfl ?_
            refine s_call (pc := 63) (rest := []) hG (calls_V (mi := mX11_meets) (o := 0) (As := [.int y1, .int s8, .int x2]) (rest := []) hG (dc dl_X11_meets 42 rfl) mo_X11_meetsOf mv_X11_meetsOf ml_X11_476 ⟨Nat.le_of_ble_eq_true rfl, Nat.le_of_ble_eq_true rfl⟩ rfl rfl (Nat.le_of_ble_eq_true rfl) lk_Mo_0 rfl) (cn_X11_meetsOf l G hG ad y1 s8 x2) rfl (fun r9 => ?_)
            refine s_iload_n (pc := 66) (dc dl_X11_meets 43 rfl) rfl rfl ?_
            refine s_icmp_eq (pc := 67) (tgt := 79) (dc dl_X11_meets 44 rfl) rfl ?_ ?_
            · refine s_iload (pc := 79) (dc dl_X11_meets 50 rfl) rfl ?_
              exact s_ireturn (pc := 81) rfl (dc dl_X11_meets 51 rfl)
            · refine s_iload (pc := 70) (dc dl_X11_meets 45 rfl) rfl ?_
              refine s_iconst (pc := 72) (v := 1) (dc dl_X11_meets 46 rfl) ic_1 ?_
              refine s_iadd (pc := 73) (dc dl_X11_meets 47 rfl) ?_
              refine s_istoreL (pc := 74) (lf' := fun y10 => [some (.ref (ad 0)), none, some (.int x2), some (.int x3), some (.int y1), some (.int y10)]) (dc dl_X11_meets 48 rfl) (Nat.le_of_ble_eq_true rfl) (fun _ => rfl) (fun y10 => ?_)
              refine s_goto (pc := 76) (tgt := 57) (dc dl_X11_meets 49 rfl) rfl ?_
              exact s_wk (hself7 y10) rfl
def gX11_rows (x1 x2 : Int32) : MM Int32 :=
  bd (sv 0 0 0) fun _ =>
  bd (gX11_isIn x1 0 10) fun r1 =>
  jn (fun (a3 : Unit) =>
  pr ((-1))) (fun j2 =>
  (if r1 = 0 then
  j2 ()
  else
  bd (gX11_isIn x2 0 10) fun r4 =>
  (if r4 = 0 then
  j2 ()
  else
  loopC 100000 (fun (self5 : Int32 → MM Int32) (s6 : Int32) =>
  (if x1 < s6 then
  bd (la 34 ((11 * x1) + x2)) fun v7 =>
  pr v7
  else
  loopC 100000 (fun (self8 : Int32 → MM Int32) (s9 : Int32) =>
  (if 11 ≤ s9 then
  lt (s6 + 1) fun y10 =>
  self5 y10
  else
  jn (fun (a12 : Int32) =>
  jn (fun (a14 : Int32) =>
  bd (sa 34 ((11 * s6) + s9) a14) fun _ =>
  lt (s9 + 1) fun y15 =>
  self8 y15) (fun j13 =>
  (if s6 ≤ 0 then
  j13 a12
  else
  jn (fun (a17 : Int32) =>
  bd (la 34 ((11 * (s6 - 1)) + s9)) fun v18 =>
  lt (a17 + (((s6 - 1) + s9) * v18)) fun y19 =>
  j13 y19) (fun j16 =>
  (if s9 = 0 then
  j16 0
  else
  bd (la 34 (((11 * (s6 - 1)) + s9) - 1)) fun v20 =>
  j16 v20))))) (fun j11 =>
  jn (fun (a22 : Unit) =>
  j11 0) (fun j21 =>
  (if s6 = 0 then
  (if s9 = 0 then
  j11 1
  else
  j21 ())
  else
  j21 ()))))) 0)) 0)))
set_option maxHeartbeats 4000000 in
theorem cn_X11_rows (l : Launch) (G : Gl) (hG : gOk G) (ad : Nat → Nat) (x1 x2 : Int32) : Cn l G mX11_rows 1 lay_Mo ad [.ref (ad 0), .int x1, .int x2] (gX11_rows x1 x2) := by
  refine cn_of (lv := [some (.ref (ad 0)), some (.int x1), some (.int x2), none, none, none]) (by decide +kernel) rfl (Nat.le_of_ble_eq_true rfl) rfl ?_
  unfold gX11_rows
  refine s_aload_n (pc := 0) (dc dl_X11_rows 0 rfl) rfl rfl ?_
  refine s_iconst (pc := 1) (v := 0) (dc dl_X11_rows 1 rfl) ic_0 ?_
  refine s_putI (pc := 2) fw_X11_125 lk_Mo_0 kk_Mo_0_0 (dc dl_X11_rows 2 rfl) ?_
  refine s_aload_n (pc := 5) (dc dl_X11_rows 3 rfl) rfl rfl ?_
  refine s_iload_n (pc := 6) (dc dl_X11_rows 4 rfl) rfl rfl ?_
  refine s_iconst (pc := 7) (v := 0) (dc dl_X11_rows 5 rfl) ic_0 ?_
  refine s_bipush (pc := 8) (v := 10) (dc dl_X11_rows 6 rfl) bi_10 ?_
  refine s_call (pc := 10) (rest := []) hG (calls_V (mi := mX11_rows) (o := 0) (As := [.int x1, .int 0, .int 10]) (rest := []) hG (dc dl_X11_rows 7 rfl) mo_X11_isIn mv_X11_isIn ml_X11_150 ⟨Nat.le_of_ble_eq_true rfl, Nat.le_of_ble_eq_true rfl⟩ rfl rfl (Nat.le_of_ble_eq_true rfl) lk_Mo_0 rfl) (cn_X11_isIn l G hG ad x1 0 10) rfl (fun r1 => ?_)
  refine s_jn (pj := 27) (fun a3 : Unit => [none, none, none, none, none, none]) (fun a3 : Unit => []) (fun a3 => ?_) (fun j2 hj2 => ?_)
  · refine s_iconst (pc := 27) (v := (-1)) (dc dl_X11_rows 15 rfl) ic_m1 ?_
    exact s_ireturn (pc := 28) rfl (dc dl_X11_rows 16 rfl)
  · refine s_if_eq (pc := 13) (tgt := 27) (dc dl_X11_rows 8 rfl) rfl ?_ ?_
    · exact s_wk (hj2 ()) rfl
    · refine s_aload_n (pc := 16) (dc dl_X11_rows 9 rfl) rfl rfl ?_
      refine s_iload_n (pc := 17) (dc dl_X11_rows 10 rfl) rfl rfl ?_
      refine s_iconst (pc := 18) (v := 0) (dc dl_X11_rows 11 rfl) ic_0 ?_
      refine s_bipush (pc := 19) (v := 10) (dc dl_X11_rows 12 rfl) bi_10 ?_
      refine s_call (pc := 21) (rest := []) hG (calls_V (mi := mX11_rows) (o := 0) (As := [.int x2, .int 0, .int 10]) (rest := []) hG (dc dl_X11_rows 13 rfl) mo_X11_isIn mv_X11_isIn ml_X11_150 ⟨Nat.le_of_ble_eq_true rfl, Nat.le_of_ble_eq_true rfl⟩ rfl rfl (Nat.le_of_ble_eq_true rfl) lk_Mo_0 rfl) (cn_X11_isIn l G hG ad x2 0 10) rfl (fun r4 => ?_)
      refine s_if_ne (pc := 24) (tgt := 29) (dc dl_X11_rows 14 rfl) rfl ?_ ?_
      · exact s_wk (hj2 ()) rfl
      · refine s_iconst (pc := 29) (v := 0) (dc dl_X11_rows 17 rfl) ic_0 ?_
        refine s_istore_n (pc := 30) (lv' := [some (.ref (ad 0)), some (.int x1), some (.int x2), some (.int 0), none, none]) (dc dl_X11_rows 18 rfl) rfl (Nat.le_of_ble_eq_true rfl) rfl ?_
        refine s_weak (lv' := [some (.ref (ad 0)), some (.int x1), some (.int x2), some (.int 0), none, none]) rfl ?_
        refine s_loop (pc := 31) (fun s6 : Int32 => [some (.ref (ad 0)), some (.int x1), some (.int x2), some (.int s6), none, none]) [] (fun self5 hself5 s6 => ?_) _ 0
        refine s_iload_n (pc := 31) (dc dl_X11_rows 19 rfl) rfl rfl ?_
        refine s_iload_n (pc := 32) (dc dl_X11_rows 20 rfl) rfl rfl ?_
        refine s_icmp_gt (pc := 33) (tgt := 141) (dc dl_X11_rows 21 rfl) rfl ?_ ?_
        · refine s_aload_n (pc := 141) (dc dl_X11_rows 84 rfl) rfl rfl ?_
          refine s_getR (pc := 142) fl_X11_113 lk_Mo_0 kk_Mo_0_60 (dc dl_X11_rows 85 rfl) ?_
          refine s_bipush (pc := 145) (v := 11) (dc dl_X11_rows 86 rfl) bi_11 ?_
          refine s_iload_n (pc := 147) (dc dl_X11_rows 87 rfl) rfl rfl ?_
          refine s_imul (pc := 148) (dc dl_X11_rows 88 rfl) ?_
          refine s_iload_n (pc := 149) (dc dl_X11_rows 89 rfl) rfl rfl ?_
          refine s_iadd (pc := 150) (dc dl_X11_rows 90 rfl) ?_
          refine s_iald (pc := 151) lk_Mo_34 (dc dl_X11_rows 91 rfl) (fun v7 => ?_)
          exact s_ireturn (pc := 152) rfl (dc dl_X11_rows 92 rfl)
        · refine s_iconst (pc := 36) (v := 0) (dc dl_X11_rows 22 rfl) ic_0 ?_
          refine s_istore (pc := 37) (lv' := [some (.ref (ad 0)), some (.int x1), some (.int x2), some (.int s6), some (.int 0), none]) (dc dl_X11_rows 23 rfl) (Nat.le_of_ble_eq_true rfl) rfl ?_
          refine s_weak (lv' := [some (.ref (ad 0)), some (.int x1), some (.int x2), some (.int s6), some (.int 0), none]) rfl ?_
          refine s_loop (pc := 39) (fun s9 : Int32 => [some (.ref (ad 0)), some (.int x1), some (.int x2), some (.int s6), some (.int s9), none]) [] (fun self8 hself8 s9 => ?_) _ 0
          refine s_iload (pc := 39) (dc dl_X11_rows 24 rfl) rfl ?_
          refine s_bipush (pc := 41) (v := 11) (dc dl_X11_rows 25 rfl) bi_11 ?_
          refine s_icmp_ge (pc := 43) (tgt := 135) (dc dl_X11_rows 26 rfl) rfl ?_ ?_
          · refine s_iincL (pc := 135) (lf' := fun y10 => [some (.ref (ad 0)), some (.int x1), some (.int x2), some (.int y10), some (.int s9), none]) (dc dl_X11_rows 82 rfl) rfl rfl (Nat.le_of_ble_eq_true rfl) (fun _ => rfl) (fun y10 => ?_)
            refine s_goto (pc := 138) (tgt := 31) (dc dl_X11_rows 83 rfl) rfl ?_
            exact s_wk (hself5 y10) rfl
          · refine s_iload_n (pc := 46) (dc dl_X11_rows 27 rfl) rfl rfl ?_
            refine s_jn (pj := 60) (fun a12 : Int32 => [some (.ref (ad 0)), some (.int x1), some (.int x2), some (.int s6), some (.int s9), none]) (fun a12 : Int32 => [.int a12]) (fun a12 => ?_) (fun j11 hj11 => ?_)
            · refine s_istore (pc := 60) (lv' := [some (.ref (ad 0)), some (.int x1), some (.int x2), some (.int s6), some (.int s9), some (.int a12)]) (dc dl_X11_rows 34 rfl) (Nat.le_of_ble_eq_true rfl) rfl ?_
              refine s_iload_n (pc := 62) (dc dl_X11_rows 35 rfl) rfl rfl ?_
              refine s_jn (pj := 115) (fun a14 : Int32 => [some (.ref (ad 0)), some (.int x1), some (.int x2), some (.int s6), some (.int s9), some (.int a14)]) (fun a14 : Int32 => []) (fun a14 => ?_) (fun j13 hj13 => ?_)
              · refine s_aload_n (pc := 115) (dc dl_X11_rows 71 rfl) rfl rfl ?_
                refine s_getR (pc := 116) fl_X11_113 lk_Mo_0 kk_Mo_0_60 (dc dl_X11_rows 72 rfl) ?_
                refine s_bipush (pc := 119) (v := 11) (dc dl_X11_rows 73 rfl) bi_11 ?_
                refine s_iload_n (pc := 121) (dc dl_X11_rows 74 rfl) rfl rfl ?_
                refine s_imul (pc := 122) (dc dl_X11_rows 75 rfl) ?_
                refine s_iload (pc := 123) (dc dl_X11_rows 76 rfl) rfl ?_
                refine s_iadd (pc := 125) (dc dl_X11_rows 77 rfl) ?_
                refine s_iload (pc := 126) (dc dl_X11_rows 78 rfl) rfl ?_
                refine s_iast (pc := 128) lk_Mo_34 (dc dl_X11_rows 79 rfl) ?_
                refine s_iincL (pc := 129) (lf' := fun y15 => [some (.ref (ad 0)), some (.int x1), some (.int x2), some (.int s6), some (.int y15), some (.int a14)]) (dc dl_X11_rows 80 rfl) rfl rfl (Nat.le_of_ble_eq_true rfl) (fun _ => rfl) (fun y15 => ?_)
                refine s_goto (pc := 132) (tgt := 39) (dc dl_X11_rows 81 rfl) rfl ?_
                exact s_wk (hself8 y15) rfl
              · refine s_if_le (pc := 63) (tgt := 115) (dc dl_X11_rows 36 rfl) rfl ?_ ?_
                · exact s_wk (hj13 a12) rfl
                · refine s_iload (pc := 66) (dc dl_X11_rows 37 rfl) rfl ?_
                  refine s_jn (pj := 91) (fun a17 : Int32 => [some (.ref (ad 0)), some (.int x1), some (.int x2), some (.int s6), some (.int s9), none]) (fun a17 : Int32 => [.int a17]) (fun a17 => ?_) (fun j16 hj16 => ?_)
                  · refine s_iload_n (pc := 91) (dc dl_X11_rows 53 rfl) rfl rfl ?_
                    refine s_iconst (pc := 92) (v := 1) (dc dl_X11_rows 54 rfl) ic_1 ?_
                    refine s_isub (pc := 93) (dc dl_X11_rows 55 rfl) ?_
                    refine s_iload (pc := 94) (dc dl_X11_rows 56 rfl) rfl ?_
                    refine s_iadd (pc := 96) (dc dl_X11_rows 57 rfl) ?_
                    refine s_aload_n (pc := 97) (dc dl_X11_rows 58 rfl) rfl rfl ?_
                    refine s_getR (pc := 98) fl_X11_113 lk_Mo_0 kk_Mo_0_60 (dc dl_X11_rows 59 rfl) ?_
                    refine s_bipush (pc := 101) (v := 11) (dc dl_X11_rows 60 rfl) bi_11 ?_
                    refine s_iload_n (pc := 103) (dc dl_X11_rows 61 rfl) rfl rfl ?_
                    refine s_iconst (pc := 104) (v := 1) (dc dl_X11_rows 62 rfl) ic_1 ?_
                    refine s_isub (pc := 105) (dc dl_X11_rows 63 rfl) ?_
                    refine s_imul (pc := 106) (dc dl_X11_rows 64 rfl) ?_
                    refine s_iload (pc := 107) (dc dl_X11_rows 65 rfl) rfl ?_
                    refine s_iadd (pc := 109) (dc dl_X11_rows 66 rfl) ?_
                    refine s_iald (pc := 110) lk_Mo_34 (dc dl_X11_rows 67 rfl) (fun v18 => ?_)
                    refine s_imul (pc := 111) (dc dl_X11_rows 68 rfl) ?_
                    refine s_iadd (pc := 112) (dc dl_X11_rows 69 rfl) ?_
                    refine s_istoreL (pc := 113) (lf' := fun y19 => [some (.ref (ad 0)), some (.int x1), some (.int x2), some (.int s6), some (.int s9), some (.int y19)]) (dc dl_X11_rows 70 rfl) (Nat.le_of_ble_eq_true rfl) (fun _ => rfl) (fun y19 => ?_)
                    exact s_wk (hj13 y19) rfl
                  · refine s_if_ne (pc := 68) (tgt := 75) (dc dl_X11_rows 38 rfl) rfl ?_ ?_
                    · refine s_iconst (pc := 71) (v := 0) (dc dl_X11_rows 39 rfl) ic_0 ?_
                      refine s_goto (pc := 72) (tgt := 91) (dc dl_X11_rows 40 rfl) rfl ?_
                      exact s_wk (hj16 0) rfl
                    · refine s_aload_n (pc := 75) (dc dl_X11_rows 41 rfl) rfl rfl ?_
                      refine s_getR (pc := 76) fl_X11_113 lk_Mo_0 kk_Mo_0_60 (dc dl_X11_rows 42 rfl) ?_
                      refine s_bipush (pc := 79) (v := 11) (dc dl_X11_rows 43 rfl) bi_11 ?_
                      refine s_iload_n (pc := 81) (dc dl_X11_rows 44 rfl) rfl rfl ?_
                      refine s_iconst (pc := 82) (v := 1) (dc dl_X11_rows 45 rfl) ic_1 ?_
                      refine s_isub (pc := 83) (dc dl_X11_rows 46 rfl) ?_
                      refine s_imul (pc := 84) (dc dl_X11_rows 47 rfl) ?_
                      refine s_iload (pc := 85) (dc dl_X11_rows 48 rfl) rfl ?_
                      refine s_iadd (pc := 87) (dc dl_X11_rows 49 rfl) ?_
                      refine s_iconst (pc := 88) (v := 1) (dc dl_X11_rows 50 rfl) ic_1 ?_
                      refine s_isub (pc := 89) (dc dl_X11_rows 51 rfl) ?_
                      refine s_iald (pc := 90) lk_Mo_34 (dc dl_X11_rows 52 rfl) (fun v20 => ?_)
                      exact s_wk (hj16 v20) rfl
            · refine s_jn (pj := 59) (fun a22 : Unit => [some (.ref (ad 0)), some (.int x1), some (.int x2), some (.int s6), some (.int s9), none]) (fun a22 : Unit => []) (fun a22 => ?_) (fun j21 hj21 => ?_)
              · refine s_iconst (pc := 59) (v := 0) (dc dl_X11_rows 33 rfl) ic_0 ?_
                exact s_wk (hj11 0) rfl
              · refine s_if_ne (pc := 47) (tgt := 59) (dc dl_X11_rows 28 rfl) rfl ?_ ?_
                · refine s_iload (pc := 50) (dc dl_X11_rows 29 rfl) rfl ?_
                  refine s_if_ne (pc := 52) (tgt := 59) (dc dl_X11_rows 30 rfl) rfl ?_ ?_
                  · refine s_iconst (pc := 55) (v := 1) (dc dl_X11_rows 31 rfl) ic_1 ?_
                    refine s_goto (pc := 56) (tgt := 60) (dc dl_X11_rows 32 rfl) rfl ?_
                    exact s_wk (hj11 1) rfl
                  · exact s_wk (hj21 ()) rfl
                · exact s_wk (hj21 ()) rfl
def gX11_digit (x1 : Int32) : MM Int32 :=
  bd (sv 0 0 0) fun _ =>
  (if x1 = ((-1)) then
  bd (sv 0 61 0) fun _ =>
  pr 0
  else
  bd (gX11_isIn x1 0 9) fun r1 =>
  jn (fun (a3 : Unit) =>
  pr ((-1))) (fun j2 =>
  (if r1 = 0 then
  j2 ()
  else
  bd (ld 0 61) fun v4 =>
  (if v4 = 10 then
  j2 ()
  else
  bd (ld 0 61) fun v5 =>
  bd (sa 35 v5 x1) fun _ =>
  bd (ld 0 61) fun v6 =>
  bd (sv 0 61 (v6 + 1)) fun _ =>
  bd (ld 0 61) fun v7 =>
  pr v7))))
set_option maxHeartbeats 4000000 in
theorem cn_X11_digit (l : Launch) (G : Gl) (hG : gOk G) (ad : Nat → Nat) (x1 : Int32) : Cn l G mX11_digit 1 lay_Mo ad [.ref (ad 0), .int x1] (gX11_digit x1) := by
  refine cn_of (lv := [some (.ref (ad 0)), some (.int x1)]) (by decide +kernel) rfl (Nat.le_of_ble_eq_true rfl) rfl ?_
  unfold gX11_digit
  refine s_aload_n (pc := 0) (dc dl_X11_digit 0 rfl) rfl rfl ?_
  refine s_iconst (pc := 1) (v := 0) (dc dl_X11_digit 1 rfl) ic_0 ?_
  refine s_putI (pc := 2) fw_X11_125 lk_Mo_0 kk_Mo_0_0 (dc dl_X11_digit 2 rfl) ?_
  refine s_iload_n (pc := 5) (dc dl_X11_digit 3 rfl) rfl rfl ?_
  refine s_iconst (pc := 6) (v := (-1)) (dc dl_X11_digit 4 rfl) ic_m1 ?_
  refine s_icmp_ne (pc := 7) (tgt := 17) (dc dl_X11_digit 5 rfl) rfl ?_ ?_
  · refine s_aload_n (pc := 10) (dc dl_X11_digit 6 rfl) rfl rfl ?_
    refine s_iconst (pc := 11) (v := 0) (dc dl_X11_digit 7 rfl) ic_0 ?_
    refine s_putI (pc := 12) fw_X11_479 lk_Mo_0 kk_Mo_0_61 (dc dl_X11_digit 8 rfl) ?_
    refine s_iconst (pc := 15) (v := 0) (dc dl_X11_digit 9 rfl) ic_0 ?_
    exact s_ireturn (pc := 16) rfl (dc dl_X11_digit 10 rfl)
  · refine s_aload_n (pc := 17) (dc dl_X11_digit 11 rfl) rfl rfl ?_
    refine s_iload_n (pc := 18) (dc dl_X11_digit 12 rfl) rfl rfl ?_
    refine s_iconst (pc := 19) (v := 0) (dc dl_X11_digit 13 rfl) ic_0 ?_
    refine s_bipush (pc := 20) (v := 9) (dc dl_X11_digit 14 rfl) bi_9 ?_
    refine s_call (pc := 22) (rest := []) hG (calls_V (mi := mX11_digit) (o := 0) (As := [.int x1, .int 0, .int 9]) (rest := []) hG (dc dl_X11_digit 15 rfl) mo_X11_isIn mv_X11_isIn ml_X11_150 ⟨Nat.le_of_ble_eq_true rfl, Nat.le_of_ble_eq_true rfl⟩ rfl rfl (Nat.le_of_ble_eq_true rfl) lk_Mo_0 rfl) (cn_X11_isIn l G hG ad x1 0 9) rfl (fun r1 => ?_)
    refine s_jn (pj := 37) (fun a3 : Unit => [none, none]) (fun a3 : Unit => []) (fun a3 => ?_) (fun j2 hj2 => ?_)
    · refine s_iconst (pc := 37) (v := (-1)) (dc dl_X11_digit 21 rfl) ic_m1 ?_
      exact s_ireturn (pc := 38) rfl (dc dl_X11_digit 22 rfl)
    · refine s_if_eq (pc := 25) (tgt := 37) (dc dl_X11_digit 16 rfl) rfl ?_ ?_
      · exact s_wk (hj2 ()) rfl
      · refine s_aload_n (pc := 28) (dc dl_X11_digit 17 rfl) rfl rfl ?_
        refine s_getI (pc := 29) fl_X11_479 lk_Mo_0 kk_Mo_0_61 (dc dl_X11_digit 18 rfl) (fun v4 => ?_)
        refine s_bipush (pc := 32) (v := 10) (dc dl_X11_digit 19 rfl) bi_10 ?_
        refine s_icmp_ne (pc := 34) (tgt := 39) (dc dl_X11_digit 20 rfl) rfl ?_ ?_
        · exact s_wk (hj2 ()) rfl
        · refine s_aload_n (pc := 39) (dc dl_X11_digit 23 rfl) rfl rfl ?_
          refine s_getR (pc := 40) fl_X11_116 lk_Mo_0 kk_Mo_0_62 (dc dl_X11_digit 24 rfl) ?_
          refine s_aload_n (pc := 43) (dc dl_X11_digit 25 rfl) rfl rfl ?_
          refine s_getI (pc := 44) fl_X11_479 lk_Mo_0 kk_Mo_0_61 (dc dl_X11_digit 26 rfl) (fun v5 => ?_)
          refine s_iload_n (pc := 47) (dc dl_X11_digit 27 rfl) rfl rfl ?_
          refine s_iast (pc := 48) lk_Mo_35 (dc dl_X11_digit 28 rfl) ?_
          refine s_aload_n (pc := 49) (dc dl_X11_digit 29 rfl) rfl rfl ?_
          refine s_aload_n (pc := 50) (dc dl_X11_digit 30 rfl) rfl rfl ?_
          refine s_getI (pc := 51) fl_X11_479 lk_Mo_0 kk_Mo_0_61 (dc dl_X11_digit 31 rfl) (fun v6 => ?_)
          refine s_iconst (pc := 54) (v := 1) (dc dl_X11_digit 32 rfl) ic_1 ?_
          refine s_iadd (pc := 55) (dc dl_X11_digit 33 rfl) ?_
          refine s_putI (pc := 56) fw_X11_479 lk_Mo_0 kk_Mo_0_61 (dc dl_X11_digit 34 rfl) ?_
          refine s_aload_n (pc := 59) (dc dl_X11_digit 35 rfl) rfl rfl ?_
          refine s_getI (pc := 60) fl_X11_479 lk_Mo_0 kk_Mo_0_61 (dc dl_X11_digit 36 rfl) (fun v7 => ?_)
          exact s_ireturn (pc := 63) rfl (dc dl_X11_digit 37 rfl)
def gX11_choicesOf (x1 : Int32) : MM Int32 :=
  jn (fun (a2 : Int32) =>
  pr a2) (fun j1 =>
  (if 2 ≤ x1 then
  jn (fun (a4 : Unit) =>
  j1 4) (fun j3 =>
  (if x1 = 7 then
  j3 ()
  else
  (if x1 = 9 then
  j3 ()
  else
  j1 3)))
  else
  j1 1))
set_option maxHeartbeats 4000000 in
theorem cn_X11_choicesOf (l : Launch) (G : Gl) (hG : gOk G) (ad : Nat → Nat) (x1 : Int32) : Cn l G mX11_choicesOf 0 lay_Mo ad [.ref (ad 0), .int x1] (gX11_choicesOf x1) := by
  refine cn_of (lv := [some (.ref (ad 0)), some (.int x1)]) (by decide +kernel) rfl (Nat.le_of_ble_eq_true rfl) rfl ?_
  unfold gX11_choicesOf
  refine s_iload_n (pc := 0) (dc dl_X11_choicesOf 0 rfl) rfl rfl ?_
  refine s_iconst (pc := 1) (v := 2) (dc dl_X11_choicesOf 1 rfl) ic_2 ?_
  refine s_jn (pj := 26) (fun a2 : Int32 => [none, none]) (fun a2 : Int32 => [.int a2]) (fun a2 => ?_) (fun j1 hj1 => ?_)
  · exact s_ireturn (pc := 26) rfl (dc dl_X11_choicesOf 14 rfl)
  · refine s_icmp_ge (pc := 2) (tgt := 9) (dc dl_X11_choicesOf 2 rfl) rfl ?_ ?_
    · refine s_iload_n (pc := 9) (dc dl_X11_choicesOf 5 rfl) rfl rfl ?_
      refine s_bipush (pc := 10) (v := 7) (dc dl_X11_choicesOf 6 rfl) bi_7 ?_
      refine s_jn (pj := 21) (fun a4 : Unit => [none, none]) (fun a4 : Unit => []) (fun a4 => ?_) (fun j3 hj3 => ?_)
      · refine s_iconst (pc := 21) (v := 4) (dc dl_X11_choicesOf 11 rfl) ic_4 ?_
        refine s_goto (pc := 22) (tgt := 26) (dc dl_X11_choicesOf 12 rfl) rfl ?_
        exact s_wk (hj1 4) rfl
      · refine s_icmp_eq (pc := 12) (tgt := 21) (dc dl_X11_choicesOf 7 rfl) rfl ?_ ?_
        · exact s_wk (hj3 ()) rfl
        · refine s_iload_n (pc := 15) (dc dl_X11_choicesOf 8 rfl) rfl rfl ?_
          refine s_bipush (pc := 16) (v := 9) (dc dl_X11_choicesOf 9 rfl) bi_9 ?_
          refine s_icmp_ne (pc := 18) (tgt := 25) (dc dl_X11_choicesOf 10 rfl) rfl ?_ ?_
          · exact s_wk (hj3 ()) rfl
          · refine s_iconst (pc := 25) (v := 3) (dc dl_X11_choicesOf 13 rfl) ic_3 ?_
            exact s_wk (hj1 3) rfl
    · refine s_iconst (pc := 5) (v := 1) (dc dl_X11_choicesOf 3 rfl) ic_1 ?_
      refine s_goto (pc := 6) (tgt := 26) (dc dl_X11_choicesOf 4 rfl) rfl ?_
      exact s_wk (hj1 1) rfl
def gX11_waysFrom (x1 : Int32) : MM Int32 :=
  loopC 100000 (fun (self1 : (Int32 × Int32) → MM Int32) (s2 : Int32 × Int32) =>
  bd (ld 0 61) fun v3 =>
  (if v3 ≤ s2.2 then
  pr s2.1
  else
  bd (la 35 s2.2) fun v4 =>
  bd (gX11_choicesOf v4) fun r5 =>
  lt (s2.1 * r5) fun y6 =>
  lt (s2.2 + 1) fun y7 =>
  self1 (y6, y7))) (1, x1)
set_option maxHeartbeats 4000000 in
theorem cn_X11_waysFrom (l : Launch) (G : Gl) (hG : gOk G) (ad : Nat → Nat) (x1 : Int32) : Cn l G mX11_waysFrom 1 lay_Mo ad [.ref (ad 0), .int x1] (gX11_waysFrom x1) := by
  refine cn_of (lv := [some (.ref (ad 0)), some (.int x1), none, none]) (by decide +kernel) rfl (Nat.le_of_ble_eq_true rfl) rfl ?_
  unfold gX11_waysFrom
  refine s_iconst (pc := 0) (v := 1) (dc dl_X11_waysFrom 0 rfl) ic_1 ?_
  refine s_istore_n (pc := 1) (lv' := [some (.ref (ad 0)), some (.int x1), some (.int 1), none]) (dc dl_X11_waysFrom 1 rfl) rfl (Nat.le_of_ble_eq_true rfl) rfl ?_
  refine s_iload_n (pc := 2) (dc dl_X11_waysFrom 2 rfl) rfl rfl ?_
  refine s_istore_n (pc := 3) (lv' := [some (.ref (ad 0)), some (.int x1), some (.int 1), some (.int x1)]) (dc dl_X11_waysFrom 3 rfl) rfl (Nat.le_of_ble_eq_true rfl) rfl ?_
  refine s_weak (lv' := [some (.ref (ad 0)), none, some (.int 1), some (.int x1)]) rfl ?_
  refine s_loop (pc := 4) (fun s2 : Int32 × Int32 => [some (.ref (ad 0)), none, some (.int s2.1), some (.int s2.2)]) [] (fun self1 hself1 s2 => ?_) _ (1, x1)
  refine s_iload_n (pc := 4) (dc dl_X11_waysFrom 4 rfl) rfl rfl ?_
  refine s_aload_n (pc := 5) (dc dl_X11_waysFrom 5 rfl) rfl rfl ?_
  refine s_getI (pc := 6) fl_X11_479 lk_Mo_0 kk_Mo_0_61 (dc dl_X11_waysFrom 6 rfl) (fun v3 => ?_)
  refine s_icmp_ge (pc := 9) (tgt := 31) (dc dl_X11_waysFrom 7 rfl) rfl ?_ ?_
  · refine s_iload_n (pc := 31) (dc dl_X11_waysFrom 19 rfl) rfl rfl ?_
    exact s_ireturn (pc := 32) rfl (dc dl_X11_waysFrom 20 rfl)
  · refine s_iload_n (pc := 12) (dc dl_X11_waysFrom 8 rfl) rfl rfl ?_
    refine s_aload_n (pc := 13) (dc dl_X11_waysFrom 9 rfl) rfl rfl ?_
    refine s_aload_n (pc := 14) (dc dl_X11_waysFrom 10 rfl) rfl rfl ?_
    refine s_getR (pc := 15) fl_X11_116 lk_Mo_0 kk_Mo_0_62 (dc dl_X11_waysFrom 11 rfl) ?_
    refine s_iload_n (pc := 18) (dc dl_X11_waysFrom 12 rfl) rfl rfl ?_
    refine s_iald (pc := 19) lk_Mo_35 (dc dl_X11_waysFrom 13 rfl) (fun v4 => ?_)
    refine s_call (pc := 20) (rest := [.int s2.1]) hG (calls_V (mi := mX11_waysFrom) (o := 0) (As := [.int v4]) (rest := [.int s2.1]) hG (dc dl_X11_waysFrom 14 rfl) mo_X11_choicesOf mv_X11_choicesOf ml_X11_482 ⟨Nat.le_of_ble_eq_true rfl, Nat.le_of_ble_eq_true rfl⟩ rfl rfl (Nat.le_of_ble_eq_true rfl) lk_Mo_0 rfl) (cn_X11_choicesOf l G hG ad v4) rfl (fun r5 => ?_)
    refine s_imul (pc := 23) (dc dl_X11_waysFrom 15 rfl) ?_
    refine s_istore_nL (pc := 24) (lf' := fun y6 => [some (.ref (ad 0)), none, some (.int y6), some (.int s2.2)]) (dc dl_X11_waysFrom 16 rfl) rfl (Nat.le_of_ble_eq_true rfl) (fun _ => rfl) (fun y6 => ?_)
    refine s_iincL (pc := 25) (lf' := fun y7 => [some (.ref (ad 0)), none, some (.int y6), some (.int y7)]) (dc dl_X11_waysFrom 17 rfl) rfl rfl (Nat.le_of_ble_eq_true rfl) (fun _ => rfl) (fun y7 => ?_)
    refine s_goto (pc := 28) (tgt := 4) (dc dl_X11_waysFrom 18 rfl) rfl ?_
    exact s_wk (hself1 (y6, y7)) rfl
def gX11_spelt (x1 x2 : Int32) : MM Int32 :=
  bd (sv 0 0 0) fun _ =>
  (if x1 = ((-1)) then
  bd (gX11_waysFrom 0) fun r11 =>
  pr r11
  else
  bd (ld 0 61) fun v1 =>
  bd (gX11_isIn x1 0 (v1 - 1)) fun r2 =>
  jn (fun (a4 : Unit) =>
  pr ((-1))) (fun j3 =>
  (if r2 = 0 then
  j3 ()
  else
  bd (gX11_waysFrom 0) fun r5 =>
  bd (gX11_isIn x2 0 (r5 - 1)) fun r6 =>
  (if r6 = 0 then
  j3 ()
  else
  bd (la 35 x1) fun v7 =>
  (if 2 ≤ v7 then
  bd (gX11_waysFrom (x1 + 1)) fun r8 =>
  nz r8 (
  bd (la 35 x1) fun v9 =>
  bd (gX11_choicesOf v9) fun r10 =>
  nz r10 (
  pr (irm (x2 / r8) r10)))
  else
  j3 ())))))
set_option maxHeartbeats 4000000 in
theorem cn_X11_spelt (l : Launch) (G : Gl) (hG : gOk G) (ad : Nat → Nat) (x1 x2 : Int32) : Cn l G mX11_spelt 2 lay_Mo ad [.ref (ad 0), .int x1, .int x2] (gX11_spelt x1 x2) := by
  refine cn_of (lv := [some (.ref (ad 0)), some (.int x1), some (.int x2)]) (by decide +kernel) rfl (Nat.le_of_ble_eq_true rfl) rfl ?_
  unfold gX11_spelt
  refine s_aload_n (pc := 0) (dc dl_X11_spelt 0 rfl) rfl rfl ?_
  refine s_iconst (pc := 1) (v := 0) (dc dl_X11_spelt 1 rfl) ic_0 ?_
  refine s_putI (pc := 2) fw_X11_125 lk_Mo_0 kk_Mo_0_0 (dc dl_X11_spelt 2 rfl) ?_
  refine s_iload_n (pc := 5) (dc dl_X11_spelt 3 rfl) rfl rfl ?_
  refine s_iconst (pc := 6) (v := (-1)) (dc dl_X11_spelt 4 rfl) ic_m1 ?_
  refine s_icmp_ne (pc := 7) (tgt := 16) (dc dl_X11_spelt 5 rfl) rfl ?_ ?_
  · refine s_aload_n (pc := 10) (dc dl_X11_spelt 6 rfl) rfl rfl ?_
    refine s_iconst (pc := 11) (v := 0) (dc dl_X11_spelt 7 rfl) ic_0 ?_
    refine s_call (pc := 12) (rest := []) hG (calls_V (mi := mX11_spelt) (o := 0) (As := [.int 0]) (rest := []) hG (dc dl_X11_spelt 8 rfl) mo_X11_waysFrom mv_X11_waysFrom ml_X11_485 ⟨Nat.le_of_ble_eq_true rfl, Nat.le_of_ble_eq_true rfl⟩ rfl rfl (Nat.le_of_ble_eq_true rfl) lk_Mo_0 rfl) (cn_X11_waysFrom l G hG ad 0) rfl (fun r11 => ?_)
    exact s_ireturn (pc := 15) rfl (dc dl_X11_spelt 9 rfl)
  · refine s_aload_n (pc := 16) (dc dl_X11_spelt 10 rfl) rfl rfl ?_
    refine s_iload_n (pc := 17) (dc dl_X11_spelt 11 rfl) rfl rfl ?_
    refine s_iconst (pc := 18) (v := 0) (dc dl_X11_spelt 12 rfl) ic_0 ?_
    refine s_aload_n (pc := 19) (dc dl_X11_spelt 13 rfl) rfl rfl ?_
    refine s_getI (pc := 20) fl_X11_479 lk_Mo_0 kk_Mo_0_61 (dc dl_X11_spelt 14 rfl) (fun v1 => ?_)
    refine s_iconst (pc := 23) (v := 1) (dc dl_X11_spelt 15 rfl) ic_1 ?_
    refine s_isub (pc := 24) (dc dl_X11_spelt 16 rfl) ?_
    refine s_call (pc := 25) (rest := []) hG (calls_V (mi := mX11_spelt) (o := 0) (As := [.int x1, .int 0, .int (v1 - 1)]) (rest := []) hG (dc dl_X11_spelt 17 rfl) mo_X11_isIn mv_X11_isIn ml_X11_150 ⟨Nat.le_of_ble_eq_true rfl, Nat.le_of_ble_eq_true rfl⟩ rfl rfl (Nat.le_of_ble_eq_true rfl) lk_Mo_0 rfl) (cn_X11_isIn l G hG ad x1 0 (v1 - 1)) rfl (fun r2 => ?_)
    refine s_jn (pj := 57) (fun a4 : Unit => [none, none, none]) (fun a4 : Unit => []) (fun a4 => ?_) (fun j3 hj3 => ?_)
    · refine s_iconst (pc := 57) (v := (-1)) (dc dl_X11_spelt 35 rfl) ic_m1 ?_
      exact s_ireturn (pc := 58) rfl (dc dl_X11_spelt 36 rfl)
    · refine s_if_eq (pc := 28) (tgt := 57) (dc dl_X11_spelt 18 rfl) rfl ?_ ?_
      · exact s_wk (hj3 ()) rfl
      · refine s_aload_n (pc := 31) (dc dl_X11_spelt 19 rfl) rfl rfl ?_
        refine s_iload_n (pc := 32) (dc dl_X11_spelt 20 rfl) rfl rfl ?_
        refine s_iconst (pc := 33) (v := 0) (dc dl_X11_spelt 21 rfl) ic_0 ?_
        refine s_aload_n (pc := 34) (dc dl_X11_spelt 22 rfl) rfl rfl ?_
        refine s_iconst (pc := 35) (v := 0) (dc dl_X11_spelt 23 rfl) ic_0 ?_
        refine s_call (pc := 36) (rest := [.int 0, .int x2, .ref (ad 0)]) hG (calls_V (mi := mX11_spelt) (o := 0) (As := [.int 0]) (rest := [.int 0, .int x2, .ref (ad 0)]) hG (dc dl_X11_spelt 24 rfl) mo_X11_waysFrom mv_X11_waysFrom ml_X11_485 ⟨Nat.le_of_ble_eq_true rfl, Nat.le_of_ble_eq_true rfl⟩ rfl rfl (Nat.le_of_ble_eq_true rfl) lk_Mo_0 rfl) (cn_X11_waysFrom l G hG ad 0) rfl (fun r5 => ?_)
        refine s_iconst (pc := 39) (v := 1) (dc dl_X11_spelt 25 rfl) ic_1 ?_
        refine s_isub (pc := 40) (dc dl_X11_spelt 26 rfl) ?_
        refine s_call (pc := 41) (rest := []) hG (calls_V (mi := mX11_spelt) (o := 0) (As := [.int x2, .int 0, .int (r5 - 1)]) (rest := []) hG (dc dl_X11_spelt 27 rfl) mo_X11_isIn mv_X11_isIn ml_X11_150 ⟨Nat.le_of_ble_eq_true rfl, Nat.le_of_ble_eq_true rfl⟩ rfl rfl (Nat.le_of_ble_eq_true rfl) lk_Mo_0 rfl) (cn_X11_isIn l G hG ad x2 0 (r5 - 1)) rfl (fun r6 => ?_)
        refine s_if_eq (pc := 44) (tgt := 57) (dc dl_X11_spelt 28 rfl) rfl ?_ ?_
        · exact s_wk (hj3 ()) rfl
        · refine s_aload_n (pc := 47) (dc dl_X11_spelt 29 rfl) rfl rfl ?_
          refine s_getR (pc := 48) fl_X11_116 lk_Mo_0 kk_Mo_0_62 (dc dl_X11_spelt 30 rfl) ?_
          refine s_iload_n (pc := 51) (dc dl_X11_spelt 31 rfl) rfl rfl ?_
          refine s_iald (pc := 52) lk_Mo_35 (dc dl_X11_spelt 32 rfl) (fun v7 => ?_)
          refine s_iconst (pc := 53) (v := 2) (dc dl_X11_spelt 33 rfl) ic_2 ?_
          refine s_icmp_ge (pc := 54) (tgt := 59) (dc dl_X11_spelt 34 rfl) rfl ?_ ?_
          · refine s_iload_n (pc := 59) (dc dl_X11_spelt 37 rfl) rfl rfl ?_
            refine s_aload_n (pc := 60) (dc dl_X11_spelt 38 rfl) rfl rfl ?_
            refine s_iload_n (pc := 61) (dc dl_X11_spelt 39 rfl) rfl rfl ?_
            refine s_iconst (pc := 62) (v := 1) (dc dl_X11_spelt 40 rfl) ic_1 ?_
            refine s_iadd (pc := 63) (dc dl_X11_spelt 41 rfl) ?_
            refine s_call (pc := 64) (rest := [.int x2]) hG (calls_V (mi := mX11_spelt) (o := 0) (As := [.int (x1 + 1)]) (rest := [.int x2]) hG (dc dl_X11_spelt 42 rfl) mo_X11_waysFrom mv_X11_waysFrom ml_X11_485 ⟨Nat.le_of_ble_eq_true rfl, Nat.le_of_ble_eq_true rfl⟩ rfl rfl (Nat.le_of_ble_eq_true rfl) lk_Mo_0 rfl) (cn_X11_waysFrom l G hG ad (x1 + 1)) rfl (fun r8 => ?_)
            refine s_idiv (pc := 67) (dc dl_X11_spelt 43 rfl) ?_
            refine s_aload_n (pc := 68) (dc dl_X11_spelt 44 rfl) rfl rfl ?_
            refine s_aload_n (pc := 69) (dc dl_X11_spelt 45 rfl) rfl rfl ?_
            refine s_getR (pc := 70) fl_X11_116 lk_Mo_0 kk_Mo_0_62 (dc dl_X11_spelt 46 rfl) ?_
            refine s_iload_n (pc := 73) (dc dl_X11_spelt 47 rfl) rfl rfl ?_
            refine s_iald (pc := 74) lk_Mo_35 (dc dl_X11_spelt 48 rfl) (fun v9 => ?_)
            refine s_call (pc := 75) (rest := [.int (x2 / r8)]) hG (calls_V (mi := mX11_spelt) (o := 0) (As := [.int v9]) (rest := [.int (x2 / r8)]) hG (dc dl_X11_spelt 49 rfl) mo_X11_choicesOf mv_X11_choicesOf ml_X11_482 ⟨Nat.le_of_ble_eq_true rfl, Nat.le_of_ble_eq_true rfl⟩ rfl rfl (Nat.le_of_ble_eq_true rfl) lk_Mo_0 rfl) (cn_X11_choicesOf l G hG ad v9) rfl (fun r10 => ?_)
            refine s_irem (pc := 78) (dc dl_X11_spelt 50 rfl) ?_
            exact s_ireturn (pc := 79) rfl (dc dl_X11_spelt 51 rfl)
          · exact s_wk (hj3 ()) rfl
def gX11_areThree (x1 : Int32) : MM Int32 :=
  jn (fun (a2 : Int32) =>
  rz a2) (fun j1 =>
  (if ((x1 &&& (x1 >>> (1 &&& 31))) &&& (x1 >>> (2 &&& 31))) = 0 then
  j1 0
  else
  j1 1))
set_option maxHeartbeats 4000000 in
theorem cn_X11_areThree (l : Launch) (G : Gl) (hG : gOk G) (ad : Nat → Nat) (x1 : Int32) : Cn l G mX11_areThree 0 lay_Mo ad [.ref (ad 0), .int x1] (gX11_areThree x1) := by
  refine cn_of (lv := [some (.ref (ad 0)), some (.int x1)]) (by decide +kernel) rfl (Nat.le_of_ble_eq_true rfl) rfl ?_
  unfold gX11_areThree
  refine s_iload_n (pc := 0) (dc dl_X11_areThree 0 rfl) rfl rfl ?_
  refine s_iload_n (pc := 1) (dc dl_X11_areThree 1 rfl) rfl rfl ?_
  refine s_iconst (pc := 2) (v := 1) (dc dl_X11_areThree 2 rfl) ic_1 ?_
  refine s_ishr (pc := 3) (dc dl_X11_areThree 3 rfl) ?_
  refine s_iand (pc := 4) (dc dl_X11_areThree 4 rfl) ?_
  refine s_iload_n (pc := 5) (dc dl_X11_areThree 5 rfl) rfl rfl ?_
  refine s_iconst (pc := 6) (v := 2) (dc dl_X11_areThree 6 rfl) ic_2 ?_
  refine s_ishr (pc := 7) (dc dl_X11_areThree 7 rfl) ?_
  refine s_iand (pc := 8) (dc dl_X11_areThree 8 rfl) ?_
  refine s_jn (pj := 17) (fun a2 : Int32 => [none, none]) (fun a2 : Int32 => [.int a2]) (fun a2 => ?_) (fun j1 hj1 => ?_)
  · exact s_zreturn (pc := 17) rfl (dc dl_X11_areThree 13 rfl)
  · refine s_if_eq (pc := 9) (tgt := 16) (dc dl_X11_areThree 9 rfl) rfl ?_ ?_
    · refine s_iconst (pc := 16) (v := 0) (dc dl_X11_areThree 12 rfl) ic_0 ?_
      exact s_wk (hj1 0) rfl
    · refine s_iconst (pc := 12) (v := 1) (dc dl_X11_areThree 10 rfl) ic_1 ?_
      refine s_goto (pc := 13) (tgt := 17) (dc dl_X11_areThree 11 rfl) rfl ?_
      exact s_wk (hj1 1) rfl
def gX11_goodFilling (x1 x2 : Int32) : MM Int32 :=
  loopC 100000 (fun (self1 : Int32 → MM Int32) (s2 : Int32) =>
  (if x1 ≤ s2 then
  pr ((-1))
  else
  lt (x2 ||| (1 <<< (s2 &&& 31))) fun y3 =>
  jn (fun (a5 : Unit) =>
  lt (s2 + 1) fun y6 =>
  self1 y6) (fun j4 =>
  (if y3 = x2 then
  j4 ()
  else
  bd (gX11_areThree y3) fun r7 =>
  jn (fun (a9 : Unit) =>
  pr s2) (fun j8 =>
  (if r7 = 0 then
  bd (la 36 (y3 >>> (5 &&& 31))) fun v10 =>
  bd (gX11_has v10 (y3 &&& 31)) fun r11 =>
  (if r11 = 0 then
  j8 ()
  else
  j4 ())
  else
  j8 ())))))) 0
set_option maxHeartbeats 4000000 in
theorem cn_X11_goodFilling (l : Launch) (G : Gl) (hG : gOk G) (ad : Nat → Nat) (x1 x2 : Int32) : Cn l G mX11_goodFilling 1 lay_Mo ad [.ref (ad 0), .int x1, .int x2] (gX11_goodFilling x1 x2) := by
  refine cn_of (lv := [some (.ref (ad 0)), some (.int x1), some (.int x2), none, none]) (by decide +kernel) rfl (Nat.le_of_ble_eq_true rfl) rfl ?_
  unfold gX11_goodFilling
  refine s_iconst (pc := 0) (v := 0) (dc dl_X11_goodFilling 0 rfl) ic_0 ?_
  refine s_istore_n (pc := 1) (lv' := [some (.ref (ad 0)), some (.int x1), some (.int x2), some (.int 0), none]) (dc dl_X11_goodFilling 1 rfl) rfl (Nat.le_of_ble_eq_true rfl) rfl ?_
  refine s_weak (lv' := [some (.ref (ad 0)), some (.int x1), some (.int x2), some (.int 0), none]) rfl ?_
  refine s_loop (pc := 2) (fun s2 : Int32 => [some (.ref (ad 0)), some (.int x1), some (.int x2), some (.int s2), none]) [] (fun self1 hself1 s2 => ?_) _ 0
  refine s_iload_n (pc := 2) (dc dl_X11_goodFilling 2 rfl) rfl rfl ?_
  refine s_iload_n (pc := 3) (dc dl_X11_goodFilling 3 rfl) rfl rfl ?_
  refine s_icmp_ge (pc := 4) (tgt := 58) (dc dl_X11_goodFilling 4 rfl) rfl ?_ ?_
  · refine s_iconst (pc := 58) (v := (-1)) (dc dl_X11_goodFilling 34 rfl) ic_m1 ?_
    exact s_ireturn (pc := 59) rfl (dc dl_X11_goodFilling 35 rfl)
  · refine s_iload_n (pc := 7) (dc dl_X11_goodFilling 5 rfl) rfl rfl ?_
    refine s_iconst (pc := 8) (v := 1) (dc dl_X11_goodFilling 6 rfl) ic_1 ?_
    refine s_iload_n (pc := 9) (dc dl_X11_goodFilling 7 rfl) rfl rfl ?_
    refine s_ishl (pc := 10) (dc dl_X11_goodFilling 8 rfl) ?_
    refine s_ior (pc := 11) (dc dl_X11_goodFilling 9 rfl) ?_
    refine s_istoreL (pc := 12) (lf' := fun y3 => [some (.ref (ad 0)), some (.int x1), some (.int x2), some (.int s2), some (.int y3)]) (dc dl_X11_goodFilling 10 rfl) (Nat.le_of_ble_eq_true rfl) (fun _ => rfl) (fun y3 => ?_)
    refine s_iload (pc := 14) (dc dl_X11_goodFilling 11 rfl) rfl ?_
    refine s_iload_n (pc := 16) (dc dl_X11_goodFilling 12 rfl) rfl rfl ?_
    refine s_jn (pj := 52) (fun a5 : Unit => [some (.ref (ad 0)), some (.int x1), some (.int x2), some (.int s2), none]) (fun a5 : Unit => []) (fun a5 => ?_) (fun j4 hj4 => ?_)
    · refine s_iincL (pc := 52) (lf' := fun y6 => [some (.ref (ad 0)), some (.int x1), some (.int x2), some (.int y6), none]) (dc dl_X11_goodFilling 32 rfl) rfl rfl (Nat.le_of_ble_eq_true rfl) (fun _ => rfl) (fun y6 => ?_)
      refine s_goto (pc := 55) (tgt := 2) (dc dl_X11_goodFilling 33 rfl) rfl ?_
      exact s_wk (hself1 y6) rfl
    · refine s_icmp_eq (pc := 17) (tgt := 52) (dc dl_X11_goodFilling 13 rfl) rfl ?_ ?_
      · exact s_wk (hj4 ()) rfl
      · refine s_aload_n (pc := 20) (dc dl_X11_goodFilling 14 rfl) rfl rfl ?_
        refine s_iload (pc := 21) (dc dl_X11_goodFilling 15 rfl) rfl ?_
        refine s_call (pc := 23) (rest := []) hG (calls_V (mi := mX11_goodFilling) (o := 0) (As := [.int y3]) (rest := []) hG (dc dl_X11_goodFilling 16 rfl) mo_X11_areThree mv_X11_areThree ml_X11_488 ⟨Nat.le_of_ble_eq_true rfl, Nat.le_of_ble_eq_true rfl⟩ rfl rfl (Nat.le_of_ble_eq_true rfl) lk_Mo_0 rfl) (cn_X11_areThree l G hG ad y3) rfl (fun r7 => ?_)
        refine s_jn (pj := 50) (fun a9 : Unit => [none, none, none, some (.int s2), none]) (fun a9 : Unit => []) (fun a9 => ?_) (fun j8 hj8 => ?_)
        · refine s_iload_n (pc := 50) (dc dl_X11_goodFilling 30 rfl) rfl rfl ?_
          exact s_ireturn (pc := 51) rfl (dc dl_X11_goodFilling 31 rfl)
        · refine s_if_ne (pc := 26) (tgt := 50) (dc dl_X11_goodFilling 17 rfl) rfl ?_ ?_
          · refine s_aload_n (pc := 29) (dc dl_X11_goodFilling 18 rfl) rfl rfl ?_
            refine s_aload_n (pc := 30) (dc dl_X11_goodFilling 19 rfl) rfl rfl ?_
            refine s_getR (pc := 31) fl_X11_119 lk_Mo_0 kk_Mo_0_63 (dc dl_X11_goodFilling 20 rfl) ?_
            refine s_iload (pc := 34) (dc dl_X11_goodFilling 21 rfl) rfl ?_
            refine s_iconst (pc := 36) (v := 5) (dc dl_X11_goodFilling 22 rfl) ic_5 ?_
            refine s_ishr (pc := 37) (dc dl_X11_goodFilling 23 rfl) ?_
            refine s_iald (pc := 38) lk_Mo_36 (dc dl_X11_goodFilling 24 rfl) (fun v10 => ?_)
            refine s_iload (pc := 39) (dc dl_X11_goodFilling 25 rfl) rfl ?_
            refine s_bipush (pc := 41) (v := 31) (dc dl_X11_goodFilling 26 rfl) bi_31 ?_
            refine s_iand (pc := 43) (dc dl_X11_goodFilling 27 rfl) ?_
            refine s_call (pc := 44) (rest := []) hG (calls_V (mi := mX11_goodFilling) (o := 0) (As := [.int v10, .int (y3 &&& 31)]) (rest := []) hG (dc dl_X11_goodFilling 28 rfl) mo_X11_has mv_X11_has ml_X11_332 ⟨Nat.le_of_ble_eq_true rfl, Nat.le_of_ble_eq_true rfl⟩ rfl rfl (Nat.le_of_ble_eq_true rfl) lk_Mo_0 rfl) (cn_X11_has l G hG ad v10 (y3 &&& 31)) rfl (fun r11 => ?_)
            refine s_if_ne (pc := 47) (tgt := 52) (dc dl_X11_goodFilling 29 rfl) rfl ?_ ?_
            · exact s_wk (hj8 ()) rfl
            · exact s_wk (hj4 ()) rfl
          · exact s_wk (hj8 ()) rfl
def gX11_game (x1 x2 : Int32) : MM Int32 :=
  bd (sv 0 0 0) fun _ =>
  bd (gX11_isIn x1 3 16) fun r1 =>
  jn (fun (a3 : Unit) =>
  pr ((-1))) (fun j2 =>
  (if r1 = 0 then
  j2 ()
  else
  bd (gX11_isIn x2 0 ((1 <<< (x1 &&& 31)) - 1)) fun r4 =>
  (if r4 = 0 then
  j2 ()
  else
  bd (gX11_areThree x2) fun r5 =>
  (if r5 = 0 then
  lt ((1 <<< (x1 &&& 31)) - 1) fun y6 =>
  loopC 100000 (fun (self7 : Int32 → MM Int32) (s8 : Int32) =>
  (if s8 ≤ x2 then
  bd (gX11_goodFilling x1 x2) fun r9 =>
  pr r9
  else
  lt (1 <<< ((s8 &&& 31) &&& 31)) fun y10 =>
  bd (gX11_goodFilling x1 s8) fun r11 =>
  jn (fun (a13 : Unit) =>
  lt (s8 + (-1)) fun y14 =>
  self7 y14) (fun j12 =>
  (if r11 = ((-1)) then
  bd (la 36 (s8 >>> (5 &&& 31))) fun v16 =>
  bd (sa 36 (s8 >>> (5 &&& 31)) (v16 &&& (y10 ^^^ ((-1))))) fun _ =>
  j12 ()
  else
  bd (la 36 (s8 >>> (5 &&& 31))) fun v15 =>
  bd (sa 36 (s8 >>> (5 &&& 31)) (v15 ||| y10)) fun _ =>
  j12 ())))) y6
  else
  j2 ()))))
set_option maxHeartbeats 4000000 in
theorem cn_X11_game (l : Launch) (G : Gl) (hG : gOk G) (ad : Nat → Nat) (x1 x2 : Int32) : Cn l G mX11_game 2 lay_Mo ad [.ref (ad 0), .int x1, .int x2] (gX11_game x1 x2) := by
  refine cn_of (lv := [some (.ref (ad 0)), some (.int x1), some (.int x2), none, none]) (by decide +kernel) rfl (Nat.le_of_ble_eq_true rfl) rfl ?_
  unfold gX11_game
  refine s_aload_n (pc := 0) (dc dl_X11_game 0 rfl) rfl rfl ?_
  refine s_iconst (pc := 1) (v := 0) (dc dl_X11_game 1 rfl) ic_0 ?_
  refine s_putI (pc := 2) fw_X11_125 lk_Mo_0 kk_Mo_0_0 (dc dl_X11_game 2 rfl) ?_
  refine s_aload_n (pc := 5) (dc dl_X11_game 3 rfl) rfl rfl ?_
  refine s_iload_n (pc := 6) (dc dl_X11_game 4 rfl) rfl rfl ?_
  refine s_iconst (pc := 7) (v := 3) (dc dl_X11_game 5 rfl) ic_3 ?_
  refine s_bipush (pc := 8) (v := 16) (dc dl_X11_game 6 rfl) bi_16 ?_
  refine s_call (pc := 10) (rest := []) hG (calls_V (mi := mX11_game) (o := 0) (As := [.int x1, .int 3, .int 16]) (rest := []) hG (dc dl_X11_game 7 rfl) mo_X11_isIn mv_X11_isIn ml_X11_150 ⟨Nat.le_of_ble_eq_true rfl, Nat.le_of_ble_eq_true rfl⟩ rfl rfl (Nat.le_of_ble_eq_true rfl) lk_Mo_0 rfl) (cn_X11_isIn l G hG ad x1 3 16) rfl (fun r1 => ?_)
  refine s_jn (pj := 38) (fun a3 : Unit => [none, none, none, none, none]) (fun a3 : Unit => []) (fun a3 => ?_) (fun j2 hj2 => ?_)
  · refine s_iconst (pc := 38) (v := (-1)) (dc dl_X11_game 23 rfl) ic_m1 ?_
    exact s_ireturn (pc := 39) rfl (dc dl_X11_game 24 rfl)
  · refine s_if_eq (pc := 13) (tgt := 38) (dc dl_X11_game 8 rfl) rfl ?_ ?_
    · exact s_wk (hj2 ()) rfl
    · refine s_aload_n (pc := 16) (dc dl_X11_game 9 rfl) rfl rfl ?_
      refine s_iload_n (pc := 17) (dc dl_X11_game 10 rfl) rfl rfl ?_
      refine s_iconst (pc := 18) (v := 0) (dc dl_X11_game 11 rfl) ic_0 ?_
      refine s_iconst (pc := 19) (v := 1) (dc dl_X11_game 12 rfl) ic_1 ?_
      refine s_iload_n (pc := 20) (dc dl_X11_game 13 rfl) rfl rfl ?_
      refine s_ishl (pc := 21) (dc dl_X11_game 14 rfl) ?_
      refine s_iconst (pc := 22) (v := 1) (dc dl_X11_game 15 rfl) ic_1 ?_
      refine s_isub (pc := 23) (dc dl_X11_game 16 rfl) ?_
      refine s_call (pc := 24) (rest := []) hG (calls_V (mi := mX11_game) (o := 0) (As := [.int x2, .int 0, .int ((1 <<< (x1 &&& 31)) - 1)]) (rest := []) hG (dc dl_X11_game 17 rfl) mo_X11_isIn mv_X11_isIn ml_X11_150 ⟨Nat.le_of_ble_eq_true rfl, Nat.le_of_ble_eq_true rfl⟩ rfl rfl (Nat.le_of_ble_eq_true rfl) lk_Mo_0 rfl) (cn_X11_isIn l G hG ad x2 0 ((1 <<< (x1 &&& 31)) - 1)) rfl (fun r4 => ?_)
      refine s_if_eq (pc := 27) (tgt := 38) (dc dl_X11_game 18 rfl) rfl ?_ ?_
      · exact s_wk (hj2 ()) rfl
      · refine s_aload_n (pc := 30) (dc dl_X11_game 19 rfl) rfl rfl ?_
        refine s_iload_n (pc := 31) (dc dl_X11_game 20 rfl) rfl rfl ?_
        refine s_call (pc := 32) (rest := []) hG (calls_V (mi := mX11_game) (o := 0) (As := [.int x2]) (rest := []) hG (dc dl_X11_game 21 rfl) mo_X11_areThree mv_X11_areThree ml_X11_488 ⟨Nat.le_of_ble_eq_true rfl, Nat.le_of_ble_eq_true rfl⟩ rfl rfl (Nat.le_of_ble_eq_true rfl) lk_Mo_0 rfl) (cn_X11_areThree l G hG ad x2) rfl (fun r5 => ?_)
        refine s_if_eq (pc := 35) (tgt := 40) (dc dl_X11_game 22 rfl) rfl ?_ ?_
        · refine s_iconst (pc := 40) (v := 1) (dc dl_X11_game 25 rfl) ic_1 ?_
          refine s_iload_n (pc := 41) (dc dl_X11_game 26 rfl) rfl rfl ?_
          refine s_ishl (pc := 42) (dc dl_X11_game 27 rfl) ?_
          refine s_iconst (pc := 43) (v := 1) (dc dl_X11_game 28 rfl) ic_1 ?_
          refine s_isub (pc := 44) (dc dl_X11_game 29 rfl) ?_
          refine s_istore_nL (pc := 45) (lf' := fun y6 => [some (.ref (ad 0)), some (.int x1), some (.int x2), some (.int y6), none]) (dc dl_X11_game 30 rfl) rfl (Nat.le_of_ble_eq_true rfl) (fun _ => rfl) (fun y6 => ?_)
          refine s_weak (lv' := [some (.ref (ad 0)), some (.int x1), some (.int x2), some (.int y6), none]) rfl ?_
          refine s_loop (pc := 46) (fun s8 : Int32 => [some (.ref (ad 0)), some (.int x1), some (.int x2), some (.int s8), none]) [] (fun self7 hself7 s8 => ?_) _ y6
          refine s_iload_n (pc := 46) (dc dl_X11_game 31 rfl) rfl rfl ?_
          refine s_iload_n (pc := 47) (dc dl_X11_game 32 rfl) rfl rfl ?_
          refine s_icmp_le (pc := 48) (tgt := 118) (dc dl_X11_game 33 rfl) rfl ?_ ?_
          · refine s_aload_n (pc := 118) (dc dl_X11_game 79 rfl) rfl rfl ?_
            refine s_iload_n (pc := 119) (dc dl_X11_game 80 rfl) rfl rfl ?_
            refine s_iload_n (pc := 120) (dc dl_X11_game 81 rfl) rfl rfl ?_
            refine s_call (pc := 121) (rest := []) hG (calls_V (mi := mX11_game) (o := 0) (As := [.int x1, .int x2]) (rest := []) hG (dc dl_X11_game 82 rfl) mo_X11_goodFilling mv_X11_goodFilling ml_X11_491 ⟨Nat.le_of_ble_eq_true rfl, Nat.le_of_ble_eq_true rfl⟩ rfl rfl (Nat.le_of_ble_eq_true rfl) lk_Mo_0 rfl) (cn_X11_goodFilling l G hG ad x1 x2) rfl (fun r9 => ?_)
            exact s_ireturn (pc := 124) rfl (dc dl_X11_game 83 rfl)
          · refine s_iconst (pc := 51) (v := 1) (dc dl_X11_game 34 rfl) ic_1 ?_
            refine s_iload_n (pc := 52) (dc dl_X11_game 35 rfl) rfl rfl ?_
            refine s_bipush (pc := 53) (v := 31) (dc dl_X11_game 36 rfl) bi_31 ?_
            refine s_iand (pc := 55) (dc dl_X11_game 37 rfl) ?_
            refine s_ishl (pc := 56) (dc dl_X11_game 38 rfl) ?_
            refine s_istoreL (pc := 57) (lf' := fun y10 => [some (.ref (ad 0)), some (.int x1), some (.int x2), some (.int s8), some (.int y10)]) (dc dl_X11_game 39 rfl) (Nat.le_of_ble_eq_true rfl) (fun _ => rfl) (fun y10 => ?_)
            refine s_aload_n (pc := 59) (dc dl_X11_game 40 rfl) rfl rfl ?_
            refine s_iload_n (pc := 60) (dc dl_X11_game 41 rfl) rfl rfl ?_
            refine s_iload_n (pc := 61) (dc dl_X11_game 42 rfl) rfl rfl ?_
            refine s_call (pc := 62) (rest := []) hG (calls_V (mi := mX11_game) (o := 0) (As := [.int x1, .int s8]) (rest := []) hG (dc dl_X11_game 43 rfl) mo_X11_goodFilling mv_X11_goodFilling ml_X11_491 ⟨Nat.le_of_ble_eq_true rfl, Nat.le_of_ble_eq_true rfl⟩ rfl rfl (Nat.le_of_ble_eq_true rfl) lk_Mo_0 rfl) (cn_X11_goodFilling l G hG ad x1 s8) rfl (fun r11 => ?_)
            refine s_iconst (pc := 65) (v := (-1)) (dc dl_X11_game 44 rfl) ic_m1 ?_
            refine s_jn (pj := 112) (fun a13 : Unit => [some (.ref (ad 0)), some (.int x1), some (.int x2), some (.int s8), none]) (fun a13 : Unit => []) (fun a13 => ?_) (fun j12 hj12 => ?_)
            · refine s_iincL (pc := 112) (lf' := fun y14 => [some (.ref (ad 0)), some (.int x1), some (.int x2), some (.int y14), none]) (dc dl_X11_game 77 rfl) rfl rfl (Nat.le_of_ble_eq_true rfl) (fun _ => rfl) (fun y14 => ?_)
              refine s_goto (pc := 115) (tgt := 46) (dc dl_X11_game 78 rfl) rfl ?_
              exact s_wk (hself7 y14) rfl
            · refine s_icmp_ne (pc := 66) (tgt := 93) (dc dl_X11_game 45 rfl) rfl ?_ ?_
              · refine s_aload_n (pc := 69) (dc dl_X11_game 46 rfl) rfl rfl ?_
                refine s_getR (pc := 70) fl_X11_119 lk_Mo_0 kk_Mo_0_63 (dc dl_X11_game 47 rfl) ?_
                refine s_iload_n (pc := 73) (dc dl_X11_game 48 rfl) rfl rfl ?_
                refine s_iconst (pc := 74) (v := 5) (dc dl_X11_game 49 rfl) ic_5 ?_
                refine s_ishr (pc := 75) (dc dl_X11_game 50 rfl) ?_
                refine s_aload_n (pc := 76) (dc dl_X11_game 51 rfl) rfl rfl ?_
                refine s_getR (pc := 77) fl_X11_119 lk_Mo_0 kk_Mo_0_63 (dc dl_X11_game 52 rfl) ?_
                refine s_iload_n (pc := 80) (dc dl_X11_game 53 rfl) rfl rfl ?_
                refine s_iconst (pc := 81) (v := 5) (dc dl_X11_game 54 rfl) ic_5 ?_
                refine s_ishr (pc := 82) (dc dl_X11_game 55 rfl) ?_
                refine s_iald (pc := 83) lk_Mo_36 (dc dl_X11_game 56 rfl) (fun v16 => ?_)
                refine s_iload (pc := 84) (dc dl_X11_game 57 rfl) rfl ?_
                refine s_iconst (pc := 86) (v := (-1)) (dc dl_X11_game 58 rfl) ic_m1 ?_
                refine s_ixor (pc := 87) (dc dl_X11_game 59 rfl) ?_
                refine s_iand (pc := 88) (dc dl_X11_game 60 rfl) ?_
                refine s_iast (pc := 89) lk_Mo_36 (dc dl_X11_game 61 rfl) ?_
                refine s_goto (pc := 90) (tgt := 112) (dc dl_X11_game 62 rfl) rfl ?_
                exact s_wk (hj12 ()) rfl
              · refine s_aload_n (pc := 93) (dc dl_X11_game 63 rfl) rfl rfl ?_
                refine s_getR (pc := 94) fl_X11_119 lk_Mo_0 kk_Mo_0_63 (dc dl_X11_game 64 rfl) ?_
                refine s_iload_n (pc := 97) (dc dl_X11_game 65 rfl) rfl rfl ?_
                refine s_iconst (pc := 98) (v := 5) (dc dl_X11_game 66 rfl) ic_5 ?_
                refine s_ishr (pc := 99) (dc dl_X11_game 67 rfl) ?_
                refine s_aload_n (pc := 100) (dc dl_X11_game 68 rfl) rfl rfl ?_
                refine s_getR (pc := 101) fl_X11_119 lk_Mo_0 kk_Mo_0_63 (dc dl_X11_game 69 rfl) ?_
                refine s_iload_n (pc := 104) (dc dl_X11_game 70 rfl) rfl rfl ?_
                refine s_iconst (pc := 105) (v := 5) (dc dl_X11_game 71 rfl) ic_5 ?_
                refine s_ishr (pc := 106) (dc dl_X11_game 72 rfl) ?_
                refine s_iald (pc := 107) lk_Mo_36 (dc dl_X11_game 73 rfl) (fun v15 => ?_)
                refine s_iload (pc := 108) (dc dl_X11_game 74 rfl) rfl ?_
                refine s_ior (pc := 110) (dc dl_X11_game 75 rfl) ?_
                refine s_iast (pc := 111) lk_Mo_36 (dc dl_X11_game 76 rfl) ?_
                exact s_wk (hj12 ()) rfl
        · exact s_wk (hj2 ()) rfl
def gX11_keeps (x1 : Int32) : MM Int32 :=
  bd (ld 0 66) fun v1 =>
  bd (sv 0 66 (v1 + 1)) fun _ =>
  bd (ld 0 64) fun v2 =>
  (if v2 = 0 then
  bd (ld 0 66) fun v4 =>
  bd (la 37 (v4 - 1)) fun v5 =>
  pr v5
  else
  bd (ld 0 66) fun v3 =>
  bd (sa 37 (v3 - 1) x1) fun _ =>
  pr x1)
set_option maxHeartbeats 4000000 in
theorem cn_X11_keeps (l : Launch) (G : Gl) (hG : gOk G) (ad : Nat → Nat) (x1 : Int32) : Cn l G mX11_keeps 0 lay_Mo ad [.ref (ad 0), .int x1] (gX11_keeps x1) := by
  refine cn_of (lv := [some (.ref (ad 0)), some (.int x1)]) (by decide +kernel) rfl (Nat.le_of_ble_eq_true rfl) rfl ?_
  unfold gX11_keeps
  refine s_aload_n (pc := 0) (dc dl_X11_keeps 0 rfl) rfl rfl ?_
  refine s_aload_n (pc := 1) (dc dl_X11_keeps 1 rfl) rfl rfl ?_
  refine s_getI (pc := 2) fl_X11_494 lk_Mo_0 kk_Mo_0_66 (dc dl_X11_keeps 2 rfl) (fun v1 => ?_)
  refine s_iconst (pc := 5) (v := 1) (dc dl_X11_keeps 3 rfl) ic_1 ?_
  refine s_iadd (pc := 6) (dc dl_X11_keeps 4 rfl) ?_
  refine s_putI (pc := 7) fw_X11_494 lk_Mo_0 kk_Mo_0_66 (dc dl_X11_keeps 5 rfl) ?_
  refine s_aload_n (pc := 10) (dc dl_X11_keeps 6 rfl) rfl rfl ?_
  refine s_getI (pc := 11) fl_X11_497 lk_Mo_0 kk_Mo_0_64 (dc dl_X11_keeps 7 rfl) (fun v2 => ?_)
  refine s_if_ne (pc := 14) (tgt := 29) (dc dl_X11_keeps 8 rfl) rfl ?_ ?_
  · refine s_aload_n (pc := 17) (dc dl_X11_keeps 9 rfl) rfl rfl ?_
    refine s_getR (pc := 18) fl_X11_122 lk_Mo_0 kk_Mo_0_67 (dc dl_X11_keeps 10 rfl) ?_
    refine s_aload_n (pc := 21) (dc dl_X11_keeps 11 rfl) rfl rfl ?_
    refine s_getI (pc := 22) fl_X11_494 lk_Mo_0 kk_Mo_0_66 (dc dl_X11_keeps 12 rfl) (fun v4 => ?_)
    refine s_iconst (pc := 25) (v := 1) (dc dl_X11_keeps 13 rfl) ic_1 ?_
    refine s_isub (pc := 26) (dc dl_X11_keeps 14 rfl) ?_
    refine s_iald (pc := 27) lk_Mo_37 (dc dl_X11_keeps 15 rfl) (fun v5 => ?_)
    exact s_ireturn (pc := 28) rfl (dc dl_X11_keeps 16 rfl)
  · refine s_aload_n (pc := 29) (dc dl_X11_keeps 17 rfl) rfl rfl ?_
    refine s_getR (pc := 30) fl_X11_122 lk_Mo_0 kk_Mo_0_67 (dc dl_X11_keeps 18 rfl) ?_
    refine s_aload_n (pc := 33) (dc dl_X11_keeps 19 rfl) rfl rfl ?_
    refine s_getI (pc := 34) fl_X11_494 lk_Mo_0 kk_Mo_0_66 (dc dl_X11_keeps 20 rfl) (fun v3 => ?_)
    refine s_iconst (pc := 37) (v := 1) (dc dl_X11_keeps 21 rfl) ic_1 ?_
    refine s_isub (pc := 38) (dc dl_X11_keeps 22 rfl) ?_
    refine s_iload_n (pc := 39) (dc dl_X11_keeps 23 rfl) rfl rfl ?_
    refine s_iast (pc := 40) lk_Mo_37 (dc dl_X11_keeps 24 rfl) ?_
    refine s_iload_n (pc := 41) (dc dl_X11_keeps 25 rfl) rfl rfl ?_
    exact s_ireturn (pc := 42) rfl (dc dl_X11_keeps 26 rfl)
def gX11_keepsLaw : MM Int32 :=
  bd (la 9 0) fun v1 =>
  bd (gX11_keeps v1) fun r2 =>
  bd (sa 9 0 r2) fun _ =>
  loopC 100000 (fun (self3 : Int32 → MM Int32) (s4 : Int32) =>
  (if 16 ≤ s4 then
  loopC 100000 (fun (self5 : Int32 → MM Int32) (s6 : Int32) =>
  (if 400 ≤ s6 then
  pr 0
  else
  bd (la 14 s6) fun v7 =>
  bd (gX11_keeps v7) fun r8 =>
  bd (sa 14 s6 r8) fun _ =>
  bd (la 15 s6) fun v9 =>
  bd (gX11_keeps v9) fun r10 =>
  bd (sa 15 s6 r10) fun _ =>
  lt (s6 + 1) fun y11 =>
  self5 y11)) 0
  else
  bd (la 10 s4) fun v12 =>
  bd (gX11_keeps v12) fun r13 =>
  bd (sa 10 s4 r13) fun _ =>
  bd (la 11 s4) fun v14 =>
  bd (gX11_keeps v14) fun r15 =>
  bd (sa 11 s4 r15) fun _ =>
  bd (la 12 s4) fun v16 =>
  bd (gX11_keeps v16) fun r17 =>
  bd (sa 12 s4 r17) fun _ =>
  bd (la 13 s4) fun v18 =>
  bd (gX11_keeps v18) fun r19 =>
  bd (sa 13 s4 r19) fun _ =>
  lt (s4 + 1) fun y20 =>
  self3 y20)) 0
set_option maxHeartbeats 4000000 in
theorem cn_X11_keepsLaw (l : Launch) (G : Gl) (hG : gOk G) (ad : Nat → Nat) : Cn l G mX11_keepsLaw 1 lay_Mo ad [.ref (ad 0)] (gX11_keepsLaw) := by
  refine cn_of (lv := [some (.ref (ad 0)), none]) (by decide +kernel) rfl (Nat.le_of_ble_eq_true rfl) rfl ?_
  unfold gX11_keepsLaw
  refine s_aload_n (pc := 0) (dc dl_X11_keepsLaw 0 rfl) rfl rfl ?_
  refine s_getR (pc := 1) fl_X11_34 lk_Mo_0 kk_Mo_0_19 (dc dl_X11_keepsLaw 1 rfl) ?_
  refine s_iconst (pc := 4) (v := 0) (dc dl_X11_keepsLaw 2 rfl) ic_0 ?_
  refine s_aload_n (pc := 5) (dc dl_X11_keepsLaw 3 rfl) rfl rfl ?_
  refine s_aload_n (pc := 6) (dc dl_X11_keepsLaw 4 rfl) rfl rfl ?_
  refine s_getR (pc := 7) fl_X11_34 lk_Mo_0 kk_Mo_0_19 (dc dl_X11_keepsLaw 5 rfl) ?_
  refine s_iconst (pc := 10) (v := 0) (dc dl_X11_keepsLaw 6 rfl) ic_0 ?_
  refine s_iald (pc := 11) lk_Mo_9 (dc dl_X11_keepsLaw 7 rfl) (fun v1 => ?_)
  refine s_call (pc := 12) (rest := [.int 0, .ref (ad 9)]) hG (calls_V (mi := mX11_keepsLaw) (o := 0) (As := [.int v1]) (rest := [.int 0, .ref (ad 9)]) hG (dc dl_X11_keepsLaw 8 rfl) mo_X11_keeps mv_X11_keeps ml_X11_500 ⟨Nat.le_of_ble_eq_true rfl, Nat.le_of_ble_eq_true rfl⟩ rfl rfl (Nat.le_of_ble_eq_true rfl) lk_Mo_0 rfl) (cn_X11_keeps l G hG ad v1) rfl (fun r2 => ?_)
  refine s_iast (pc := 15) lk_Mo_9 (dc dl_X11_keepsLaw 9 rfl) ?_
  refine s_iconst (pc := 16) (v := 0) (dc dl_X11_keepsLaw 10 rfl) ic_0 ?_
  refine s_istore_n (pc := 17) (lv' := [some (.ref (ad 0)), some (.int 0)]) (dc dl_X11_keepsLaw 11 rfl) rfl (Nat.le_of_ble_eq_true rfl) rfl ?_
  refine s_weak (lv' := [some (.ref (ad 0)), some (.int 0)]) rfl ?_
  refine s_loop (pc := 18) (fun s4 : Int32 => [some (.ref (ad 0)), some (.int s4)]) [] (fun self3 hself3 s4 => ?_) _ 0
  refine s_iload_n (pc := 18) (dc dl_X11_keepsLaw 12 rfl) rfl rfl ?_
  refine s_bipush (pc := 19) (v := 16) (dc dl_X11_keepsLaw 13 rfl) bi_16 ?_
  refine s_icmp_ge (pc := 21) (tgt := 94) (dc dl_X11_keepsLaw 14 rfl) rfl ?_ ?_
  · refine s_iconst (pc := 94) (v := 0) (dc dl_X11_keepsLaw 57 rfl) ic_0 ?_
    refine s_istore_n (pc := 95) (lv' := [some (.ref (ad 0)), some (.int 0)]) (dc dl_X11_keepsLaw 58 rfl) rfl (Nat.le_of_ble_eq_true rfl) rfl ?_
    refine s_weak (lv' := [some (.ref (ad 0)), some (.int 0)]) rfl ?_
    refine s_loop (pc := 96) (fun s6 : Int32 => [some (.ref (ad 0)), some (.int s6)]) [] (fun self5 hself5 s6 => ?_) _ 0
    refine s_iload_n (pc := 96) (dc dl_X11_keepsLaw 59 rfl) rfl rfl ?_
    refine s_sipush (pc := 97) (v := 400) (dc dl_X11_keepsLaw 60 rfl) si_400 ?_
    refine s_icmp_ge (pc := 100) (tgt := 141) (dc dl_X11_keepsLaw 61 rfl) rfl ?_ ?_
    · exact s_return (pc := 141) rfl (dc dl_X11_keepsLaw 84 rfl)
    · refine s_aload_n (pc := 103) (dc dl_X11_keepsLaw 62 rfl) rfl rfl ?_
      refine s_getR (pc := 104) fl_X11_49 lk_Mo_0 kk_Mo_0_24 (dc dl_X11_keepsLaw 63 rfl) ?_
      refine s_iload_n (pc := 107) (dc dl_X11_keepsLaw 64 rfl) rfl rfl ?_
      refine s_aload_n (pc := 108) (dc dl_X11_keepsLaw 65 rfl) rfl rfl ?_
      refine s_aload_n (pc := 109) (dc dl_X11_keepsLaw 66 rfl) rfl rfl ?_
      refine s_getR (pc := 110) fl_X11_49 lk_Mo_0 kk_Mo_0_24 (dc dl_X11_keepsLaw 67 rfl) ?_
      refine s_iload_n (pc := 113) (dc dl_X11_keepsLaw 68 rfl) rfl rfl ?_
      refine s_iald (pc := 114) lk_Mo_14 (dc dl_X11_keepsLaw 69 rfl) (fun v7 => ?_)
      refine s_call (pc := 115) (rest := [.int s6, .ref (ad 14)]) hG (calls_V (mi := mX11_keepsLaw) (o := 0) (As := [.int v7]) (rest := [.int s6, .ref (ad 14)]) hG (dc dl_X11_keepsLaw 70 rfl) mo_X11_keeps mv_X11_keeps ml_X11_500 ⟨Nat.le_of_ble_eq_true rfl, Nat.le_of_ble_eq_true rfl⟩ rfl rfl (Nat.le_of_ble_eq_true rfl) lk_Mo_0 rfl) (cn_X11_keeps l G hG ad v7) rfl (fun r8 => ?_)
      refine s_iast (pc := 118) lk_Mo_14 (dc dl_X11_keepsLaw 71 rfl) ?_
      refine s_aload_n (pc := 119) (dc dl_X11_keepsLaw 72 rfl) rfl rfl ?_
      refine s_getR (pc := 120) fl_X11_52 lk_Mo_0 kk_Mo_0_25 (dc dl_X11_keepsLaw 73 rfl) ?_
      refine s_iload_n (pc := 123) (dc dl_X11_keepsLaw 74 rfl) rfl rfl ?_
      refine s_aload_n (pc := 124) (dc dl_X11_keepsLaw 75 rfl) rfl rfl ?_
      refine s_aload_n (pc := 125) (dc dl_X11_keepsLaw 76 rfl) rfl rfl ?_
      refine s_getR (pc := 126) fl_X11_52 lk_Mo_0 kk_Mo_0_25 (dc dl_X11_keepsLaw 77 rfl) ?_
      refine s_iload_n (pc := 129) (dc dl_X11_keepsLaw 78 rfl) rfl rfl ?_
      refine s_iald (pc := 130) lk_Mo_15 (dc dl_X11_keepsLaw 79 rfl) (fun v9 => ?_)
      refine s_call (pc := 131) (rest := [.int s6, .ref (ad 15)]) hG (calls_V (mi := mX11_keepsLaw) (o := 0) (As := [.int v9]) (rest := [.int s6, .ref (ad 15)]) hG (dc dl_X11_keepsLaw 80 rfl) mo_X11_keeps mv_X11_keeps ml_X11_500 ⟨Nat.le_of_ble_eq_true rfl, Nat.le_of_ble_eq_true rfl⟩ rfl rfl (Nat.le_of_ble_eq_true rfl) lk_Mo_0 rfl) (cn_X11_keeps l G hG ad v9) rfl (fun r10 => ?_)
      refine s_iast (pc := 134) lk_Mo_15 (dc dl_X11_keepsLaw 81 rfl) ?_
      refine s_iincL (pc := 135) (lf' := fun y11 => [some (.ref (ad 0)), some (.int y11)]) (dc dl_X11_keepsLaw 82 rfl) rfl rfl (Nat.le_of_ble_eq_true rfl) (fun _ => rfl) (fun y11 => ?_)
      refine s_goto (pc := 138) (tgt := 96) (dc dl_X11_keepsLaw 83 rfl) rfl ?_
      exact s_wk (hself5 y11) rfl
  · refine s_aload_n (pc := 24) (dc dl_X11_keepsLaw 15 rfl) rfl rfl ?_
    refine s_getR (pc := 25) fl_X11_37 lk_Mo_0 kk_Mo_0_20 (dc dl_X11_keepsLaw 16 rfl) ?_
    refine s_iload_n (pc := 28) (dc dl_X11_keepsLaw 17 rfl) rfl rfl ?_
    refine s_aload_n (pc := 29) (dc dl_X11_keepsLaw 18 rfl) rfl rfl ?_
    refine s_aload_n (pc := 30) (dc dl_X11_keepsLaw 19 rfl) rfl rfl ?_
    refine s_getR (pc := 31) fl_X11_37 lk_Mo_0 kk_Mo_0_20 (dc dl_X11_keepsLaw 20 rfl) ?_
    refine s_iload_n (pc := 34) (dc dl_X11_keepsLaw 21 rfl) rfl rfl ?_
    refine s_iald (pc := 35) lk_Mo_10 (dc dl_X11_keepsLaw 22 rfl) (fun v12 => ?_)
    refine s_call (pc := 36) (rest := [.int s4, .ref (ad 10)]) hG (calls_V (mi := mX11_keepsLaw) (o := 0) (As := [.int v12]) (rest := [.int s4, .ref (ad 10)]) hG (dc dl_X11_keepsLaw 23 rfl) mo_X11_keeps mv_X11_keeps ml_X11_500 ⟨Nat.le_of_ble_eq_true rfl, Nat.le_of_ble_eq_true rfl⟩ rfl rfl (Nat.le_of_ble_eq_true rfl) lk_Mo_0 rfl) (cn_X11_keeps l G hG ad v12) rfl (fun r13 => ?_)
    refine s_iast (pc := 39) lk_Mo_10 (dc dl_X11_keepsLaw 24 rfl) ?_
    refine s_aload_n (pc := 40) (dc dl_X11_keepsLaw 25 rfl) rfl rfl ?_
    refine s_getR (pc := 41) fl_X11_40 lk_Mo_0 kk_Mo_0_21 (dc dl_X11_keepsLaw 26 rfl) ?_
    refine s_iload_n (pc := 44) (dc dl_X11_keepsLaw 27 rfl) rfl rfl ?_
    refine s_aload_n (pc := 45) (dc dl_X11_keepsLaw 28 rfl) rfl rfl ?_
    refine s_aload_n (pc := 46) (dc dl_X11_keepsLaw 29 rfl) rfl rfl ?_
    refine s_getR (pc := 47) fl_X11_40 lk_Mo_0 kk_Mo_0_21 (dc dl_X11_keepsLaw 30 rfl) ?_
    refine s_iload_n (pc := 50) (dc dl_X11_keepsLaw 31 rfl) rfl rfl ?_
    refine s_iald (pc := 51) lk_Mo_11 (dc dl_X11_keepsLaw 32 rfl) (fun v14 => ?_)
    refine s_call (pc := 52) (rest := [.int s4, .ref (ad 11)]) hG (calls_V (mi := mX11_keepsLaw) (o := 0) (As := [.int v14]) (rest := [.int s4, .ref (ad 11)]) hG (dc dl_X11_keepsLaw 33 rfl) mo_X11_keeps mv_X11_keeps ml_X11_500 ⟨Nat.le_of_ble_eq_true rfl, Nat.le_of_ble_eq_true rfl⟩ rfl rfl (Nat.le_of_ble_eq_true rfl) lk_Mo_0 rfl) (cn_X11_keeps l G hG ad v14) rfl (fun r15 => ?_)
    refine s_iast (pc := 55) lk_Mo_11 (dc dl_X11_keepsLaw 34 rfl) ?_
    refine s_aload_n (pc := 56) (dc dl_X11_keepsLaw 35 rfl) rfl rfl ?_
    refine s_getR (pc := 57) fl_X11_43 lk_Mo_0 kk_Mo_0_22 (dc dl_X11_keepsLaw 36 rfl) ?_
    refine s_iload_n (pc := 60) (dc dl_X11_keepsLaw 37 rfl) rfl rfl ?_
    refine s_aload_n (pc := 61) (dc dl_X11_keepsLaw 38 rfl) rfl rfl ?_
    refine s_aload_n (pc := 62) (dc dl_X11_keepsLaw 39 rfl) rfl rfl ?_
    refine s_getR (pc := 63) fl_X11_43 lk_Mo_0 kk_Mo_0_22 (dc dl_X11_keepsLaw 40 rfl) ?_
    refine s_iload_n (pc := 66) (dc dl_X11_keepsLaw 41 rfl) rfl rfl ?_
    refine s_iald (pc := 67) lk_Mo_12 (dc dl_X11_keepsLaw 42 rfl) (fun v16 => ?_)
    refine s_call (pc := 68) (rest := [.int s4, .ref (ad 12)]) hG (calls_V (mi := mX11_keepsLaw) (o := 0) (As := [.int v16]) (rest := [.int s4, .ref (ad 12)]) hG (dc dl_X11_keepsLaw 43 rfl) mo_X11_keeps mv_X11_keeps ml_X11_500 ⟨Nat.le_of_ble_eq_true rfl, Nat.le_of_ble_eq_true rfl⟩ rfl rfl (Nat.le_of_ble_eq_true rfl) lk_Mo_0 rfl) (cn_X11_keeps l G hG ad v16) rfl (fun r17 => ?_)
    refine s_iast (pc := 71) lk_Mo_12 (dc dl_X11_keepsLaw 44 rfl) ?_
    refine s_aload_n (pc := 72) (dc dl_X11_keepsLaw 45 rfl) rfl rfl ?_
    refine s_getR (pc := 73) fl_X11_46 lk_Mo_0 kk_Mo_0_23 (dc dl_X11_keepsLaw 46 rfl) ?_
    refine s_iload_n (pc := 76) (dc dl_X11_keepsLaw 47 rfl) rfl rfl ?_
    refine s_aload_n (pc := 77) (dc dl_X11_keepsLaw 48 rfl) rfl rfl ?_
    refine s_aload_n (pc := 78) (dc dl_X11_keepsLaw 49 rfl) rfl rfl ?_
    refine s_getR (pc := 79) fl_X11_46 lk_Mo_0 kk_Mo_0_23 (dc dl_X11_keepsLaw 50 rfl) ?_
    refine s_iload_n (pc := 82) (dc dl_X11_keepsLaw 51 rfl) rfl rfl ?_
    refine s_iald (pc := 83) lk_Mo_13 (dc dl_X11_keepsLaw 52 rfl) (fun v18 => ?_)
    refine s_call (pc := 84) (rest := [.int s4, .ref (ad 13)]) hG (calls_V (mi := mX11_keepsLaw) (o := 0) (As := [.int v18]) (rest := [.int s4, .ref (ad 13)]) hG (dc dl_X11_keepsLaw 53 rfl) mo_X11_keeps mv_X11_keeps ml_X11_500 ⟨Nat.le_of_ble_eq_true rfl, Nat.le_of_ble_eq_true rfl⟩ rfl rfl (Nat.le_of_ble_eq_true rfl) lk_Mo_0 rfl) (cn_X11_keeps l G hG ad v18) rfl (fun r19 => ?_)
    refine s_iast (pc := 87) lk_Mo_13 (dc dl_X11_keepsLaw 54 rfl) ?_
    refine s_iincL (pc := 88) (lf' := fun y20 => [some (.ref (ad 0)), some (.int y20)]) (dc dl_X11_keepsLaw 55 rfl) rfl rfl (Nat.le_of_ble_eq_true rfl) (fun _ => rfl) (fun y20 => ?_)
    refine s_goto (pc := 91) (tgt := 18) (dc dl_X11_keepsLaw 56 rfl) rfl ?_
    exact s_wk (hself3 y20) rfl
def gX11_keepsTold : MM Int32 :=
  bd (ld 0 6) fun v1 =>
  bd (gX11_keeps v1) fun r2 =>
  bd (sv 0 6 r2) fun _ =>
  bd (ld 0 7) fun v3 =>
  bd (gX11_keeps v3) fun r4 =>
  bd (sv 0 7 r4) fun _ =>
  bd (ld 0 8) fun v5 =>
  bd (gX11_keeps v5) fun r6 =>
  bd (sv 0 8 r6) fun _ =>
  bd (ld 0 35) fun v7 =>
  bd (gX11_keeps v7) fun r8 =>
  bd (sv 0 35 r8) fun _ =>
  bd (ld 0 37) fun v9 =>
  bd (gX11_keeps v9) fun r10 =>
  bd (sv 0 37 r10) fun _ =>
  bd (ld 0 39) fun v11 =>
  bd (gX11_keeps v11) fun r12 =>
  bd (sv 0 39 r12) fun _ =>
  bd (ld 0 43) fun v13 =>
  bd (gX11_keeps v13) fun r14 =>
  bd (sv 0 43 r14) fun _ =>
  bd (ld 0 52) fun v15 =>
  bd (gX11_keeps v15) fun r16 =>
  bd (sv 0 52 r16) fun _ =>
  bd (ld 0 54) fun v17 =>
  bd (gX11_keeps v17) fun r18 =>
  bd (sv 0 54 r18) fun _ =>
  bd (ld 0 57) fun v19 =>
  bd (gX11_keeps v19) fun r20 =>
  bd (sv 0 57 r20) fun _ =>
  bd (ld 0 61) fun v21 =>
  bd (gX11_keeps v21) fun r22 =>
  bd (sv 0 61 r22) fun _ =>
  loopC 100000 (fun (self23 : Int32 → MM Int32) (s24 : Int32) =>
  (if 20 ≤ s24 then
  loopC 100000 (fun (self25 : Int32 → MM Int32) (s26 : Int32) =>
  (if 64 ≤ s26 then
  loopC 100000 (fun (self27 : Int32 → MM Int32) (s28 : Int32) =>
  (if 48 ≤ s28 then
  loopC 100000 (fun (self29 : Int32 → MM Int32) (s30 : Int32) =>
  (if 12 ≤ s30 then
  loopC 100000 (fun (self31 : Int32 → MM Int32) (s32 : Int32) =>
  (if 16 ≤ s32 then
  loopC 100000 (fun (self33 : Int32 → MM Int32) (s34 : Int32) =>
  (if 10 ≤ s34 then
  pr 0
  else
  bd (la 35 s34) fun v35 =>
  bd (gX11_keeps v35) fun r36 =>
  bd (sa 35 s34 r36) fun _ =>
  lt (s34 + 1) fun y37 =>
  self33 y37)) 0
  else
  bd (la 29 s32) fun v38 =>
  bd (gX11_keeps v38) fun r39 =>
  bd (sa 29 s32 r39) fun _ =>
  bd (la 32 s32) fun v40 =>
  bd (gX11_keeps v40) fun r41 =>
  bd (sa 32 s32 r41) fun _ =>
  lt (s32 + 1) fun y42 =>
  self31 y42)) 0
  else
  bd (la 19 s30) fun v43 =>
  bd (gX11_keeps v43) fun r44 =>
  bd (sa 19 s30 r44) fun _ =>
  bd (la 22 s30) fun v45 =>
  bd (gX11_keeps v45) fun r46 =>
  bd (sa 22 s30 r46) fun _ =>
  bd (la 30 s30) fun v47 =>
  bd (gX11_keeps v47) fun r48 =>
  bd (sa 30 s30 r48) fun _ =>
  lt (s30 + 1) fun y49 =>
  self29 y49)) 0
  else
  bd (la 18 s28) fun v50 =>
  bd (gX11_keeps v50) fun r51 =>
  bd (sa 18 s28 r51) fun _ =>
  lt (s28 + 1) fun y52 =>
  self27 y52)) 0
  else
  bd (la 17 s26) fun v53 =>
  bd (gX11_keeps v53) fun r54 =>
  bd (sa 17 s26 r54) fun _ =>
  lt (s26 + 1) fun y55 =>
  self25 y55)) 0
  else
  bd (la 4 s24) fun v56 =>
  bd (gX11_keeps v56) fun r57 =>
  bd (sa 4 s24 r57) fun _ =>
  bd (la 5 s24) fun v58 =>
  bd (gX11_keeps v58) fun r59 =>
  bd (sa 5 s24 r59) fun _ =>
  lt (s24 + 1) fun y60 =>
  self23 y60)) 0
set_option maxHeartbeats 4000000 in
theorem cn_X11_keepsTold (l : Launch) (G : Gl) (hG : gOk G) (ad : Nat → Nat) : Cn l G mX11_keepsTold 1 lay_Mo ad [.ref (ad 0)] (gX11_keepsTold) := by
  refine cn_of (lv := [some (.ref (ad 0)), none]) (by decide +kernel) rfl (Nat.le_of_ble_eq_true rfl) rfl ?_
  unfold gX11_keepsTold
  refine s_aload_n (pc := 0) (dc dl_X11_keepsTold 0 rfl) rfl rfl ?_
  refine s_aload_n (pc := 1) (dc dl_X11_keepsTold 1 rfl) rfl rfl ?_
  refine s_aload_n (pc := 2) (dc dl_X11_keepsTold 2 rfl) rfl rfl ?_
  refine s_getI (pc := 3) fl_X11_137 lk_Mo_0 kk_Mo_0_6 (dc dl_X11_keepsTold 3 rfl) (fun v1 => ?_)
  refine s_call (pc := 6) (rest := [.ref (ad 0)]) hG (calls_V (mi := mX11_keepsTold) (o := 0) (As := [.int v1]) (rest := [.ref (ad 0)]) hG (dc dl_X11_keepsTold 4 rfl) mo_X11_keeps mv_X11_keeps ml_X11_500 ⟨Nat.le_of_ble_eq_true rfl, Nat.le_of_ble_eq_true rfl⟩ rfl rfl (Nat.le_of_ble_eq_true rfl) lk_Mo_0 rfl) (cn_X11_keeps l G hG ad v1) rfl (fun r2 => ?_)
  refine s_putI (pc := 9) fw_X11_137 lk_Mo_0 kk_Mo_0_6 (dc dl_X11_keepsTold 5 rfl) ?_
  refine s_aload_n (pc := 12) (dc dl_X11_keepsTold 6 rfl) rfl rfl ?_
  refine s_aload_n (pc := 13) (dc dl_X11_keepsTold 7 rfl) rfl rfl ?_
  refine s_aload_n (pc := 14) (dc dl_X11_keepsTold 8 rfl) rfl rfl ?_
  refine s_getI (pc := 15) fl_X11_140 lk_Mo_0 kk_Mo_0_7 (dc dl_X11_keepsTold 9 rfl) (fun v3 => ?_)
  refine s_call (pc := 18) (rest := [.ref (ad 0)]) hG (calls_V (mi := mX11_keepsTold) (o := 0) (As := [.int v3]) (rest := [.ref (ad 0)]) hG (dc dl_X11_keepsTold 10 rfl) mo_X11_keeps mv_X11_keeps ml_X11_500 ⟨Nat.le_of_ble_eq_true rfl, Nat.le_of_ble_eq_true rfl⟩ rfl rfl (Nat.le_of_ble_eq_true rfl) lk_Mo_0 rfl) (cn_X11_keeps l G hG ad v3) rfl (fun r4 => ?_)
  refine s_putI (pc := 21) fw_X11_140 lk_Mo_0 kk_Mo_0_7 (dc dl_X11_keepsTold 11 rfl) ?_
  refine s_aload_n (pc := 24) (dc dl_X11_keepsTold 12 rfl) rfl rfl ?_
  refine s_aload_n (pc := 25) (dc dl_X11_keepsTold 13 rfl) rfl rfl ?_
  refine s_aload_n (pc := 26) (dc dl_X11_keepsTold 14 rfl) rfl rfl ?_
  refine s_getI (pc := 27) fl_X11_143 lk_Mo_0 kk_Mo_0_8 (dc dl_X11_keepsTold 15 rfl) (fun v5 => ?_)
  refine s_call (pc := 30) (rest := [.ref (ad 0)]) hG (calls_V (mi := mX11_keepsTold) (o := 0) (As := [.int v5]) (rest := [.ref (ad 0)]) hG (dc dl_X11_keepsTold 16 rfl) mo_X11_keeps mv_X11_keeps ml_X11_500 ⟨Nat.le_of_ble_eq_true rfl, Nat.le_of_ble_eq_true rfl⟩ rfl rfl (Nat.le_of_ble_eq_true rfl) lk_Mo_0 rfl) (cn_X11_keeps l G hG ad v5) rfl (fun r6 => ?_)
  refine s_putI (pc := 33) fw_X11_143 lk_Mo_0 kk_Mo_0_8 (dc dl_X11_keepsTold 17 rfl) ?_
  refine s_aload_n (pc := 36) (dc dl_X11_keepsTold 18 rfl) rfl rfl ?_
  refine s_aload_n (pc := 37) (dc dl_X11_keepsTold 19 rfl) rfl rfl ?_
  refine s_aload_n (pc := 38) (dc dl_X11_keepsTold 20 rfl) rfl rfl ?_
  refine s_getI (pc := 39) fl_X11_305 lk_Mo_0 kk_Mo_0_35 (dc dl_X11_keepsTold 21 rfl) (fun v7 => ?_)
  refine s_call (pc := 42) (rest := [.ref (ad 0)]) hG (calls_V (mi := mX11_keepsTold) (o := 0) (As := [.int v7]) (rest := [.ref (ad 0)]) hG (dc dl_X11_keepsTold 22 rfl) mo_X11_keeps mv_X11_keeps ml_X11_500 ⟨Nat.le_of_ble_eq_true rfl, Nat.le_of_ble_eq_true rfl⟩ rfl rfl (Nat.le_of_ble_eq_true rfl) lk_Mo_0 rfl) (cn_X11_keeps l G hG ad v7) rfl (fun r8 => ?_)
  refine s_putI (pc := 45) fw_X11_305 lk_Mo_0 kk_Mo_0_35 (dc dl_X11_keepsTold 23 rfl) ?_
  refine s_aload_n (pc := 48) (dc dl_X11_keepsTold 24 rfl) rfl rfl ?_
  refine s_aload_n (pc := 49) (dc dl_X11_keepsTold 25 rfl) rfl rfl ?_
  refine s_aload_n (pc := 50) (dc dl_X11_keepsTold 26 rfl) rfl rfl ?_
  refine s_getI (pc := 51) fl_X11_308 lk_Mo_0 kk_Mo_0_37 (dc dl_X11_keepsTold 27 rfl) (fun v9 => ?_)
  refine s_call (pc := 54) (rest := [.ref (ad 0)]) hG (calls_V (mi := mX11_keepsTold) (o := 0) (As := [.int v9]) (rest := [.ref (ad 0)]) hG (dc dl_X11_keepsTold 28 rfl) mo_X11_keeps mv_X11_keeps ml_X11_500 ⟨Nat.le_of_ble_eq_true rfl, Nat.le_of_ble_eq_true rfl⟩ rfl rfl (Nat.le_of_ble_eq_true rfl) lk_Mo_0 rfl) (cn_X11_keeps l G hG ad v9) rfl (fun r10 => ?_)
  refine s_putI (pc := 57) fw_X11_308 lk_Mo_0 kk_Mo_0_37 (dc dl_X11_keepsTold 29 rfl) ?_
  refine s_aload_n (pc := 60) (dc dl_X11_keepsTold 30 rfl) rfl rfl ?_
  refine s_aload_n (pc := 61) (dc dl_X11_keepsTold 31 rfl) rfl rfl ?_
  refine s_aload_n (pc := 62) (dc dl_X11_keepsTold 32 rfl) rfl rfl ?_
  refine s_getI (pc := 63) fl_X11_302 lk_Mo_0 kk_Mo_0_39 (dc dl_X11_keepsTold 33 rfl) (fun v11 => ?_)
  refine s_call (pc := 66) (rest := [.ref (ad 0)]) hG (calls_V (mi := mX11_keepsTold) (o := 0) (As := [.int v11]) (rest := [.ref (ad 0)]) hG (dc dl_X11_keepsTold 34 rfl) mo_X11_keeps mv_X11_keeps ml_X11_500 ⟨Nat.le_of_ble_eq_true rfl, Nat.le_of_ble_eq_true rfl⟩ rfl rfl (Nat.le_of_ble_eq_true rfl) lk_Mo_0 rfl) (cn_X11_keeps l G hG ad v11) rfl (fun r12 => ?_)
  refine s_putI (pc := 69) fw_X11_302 lk_Mo_0 kk_Mo_0_39 (dc dl_X11_keepsTold 35 rfl) ?_
  refine s_aload_n (pc := 72) (dc dl_X11_keepsTold 36 rfl) rfl rfl ?_
  refine s_aload_n (pc := 73) (dc dl_X11_keepsTold 37 rfl) rfl rfl ?_
  refine s_aload_n (pc := 74) (dc dl_X11_keepsTold 38 rfl) rfl rfl ?_
  refine s_getI (pc := 75) fl_X11_423 lk_Mo_0 kk_Mo_0_43 (dc dl_X11_keepsTold 39 rfl) (fun v13 => ?_)
  refine s_call (pc := 78) (rest := [.ref (ad 0)]) hG (calls_V (mi := mX11_keepsTold) (o := 0) (As := [.int v13]) (rest := [.ref (ad 0)]) hG (dc dl_X11_keepsTold 40 rfl) mo_X11_keeps mv_X11_keeps ml_X11_500 ⟨Nat.le_of_ble_eq_true rfl, Nat.le_of_ble_eq_true rfl⟩ rfl rfl (Nat.le_of_ble_eq_true rfl) lk_Mo_0 rfl) (cn_X11_keeps l G hG ad v13) rfl (fun r14 => ?_)
  refine s_putI (pc := 81) fw_X11_423 lk_Mo_0 kk_Mo_0_43 (dc dl_X11_keepsTold 41 rfl) ?_
  refine s_aload_n (pc := 84) (dc dl_X11_keepsTold 42 rfl) rfl rfl ?_
  refine s_aload_n (pc := 85) (dc dl_X11_keepsTold 43 rfl) rfl rfl ?_
  refine s_aload_n (pc := 86) (dc dl_X11_keepsTold 44 rfl) rfl rfl ?_
  refine s_getI (pc := 87) fl_X11_447 lk_Mo_0 kk_Mo_0_52 (dc dl_X11_keepsTold 45 rfl) (fun v15 => ?_)
  refine s_call (pc := 90) (rest := [.ref (ad 0)]) hG (calls_V (mi := mX11_keepsTold) (o := 0) (As := [.int v15]) (rest := [.ref (ad 0)]) hG (dc dl_X11_keepsTold 46 rfl) mo_X11_keeps mv_X11_keeps ml_X11_500 ⟨Nat.le_of_ble_eq_true rfl, Nat.le_of_ble_eq_true rfl⟩ rfl rfl (Nat.le_of_ble_eq_true rfl) lk_Mo_0 rfl) (cn_X11_keeps l G hG ad v15) rfl (fun r16 => ?_)
  refine s_putI (pc := 93) fw_X11_447 lk_Mo_0 kk_Mo_0_52 (dc dl_X11_keepsTold 47 rfl) ?_
  refine s_aload_n (pc := 96) (dc dl_X11_keepsTold 48 rfl) rfl rfl ?_
  refine s_aload_n (pc := 97) (dc dl_X11_keepsTold 49 rfl) rfl rfl ?_
  refine s_aload_n (pc := 98) (dc dl_X11_keepsTold 50 rfl) rfl rfl ?_
  refine s_getI (pc := 99) fl_X11_450 lk_Mo_0 kk_Mo_0_54 (dc dl_X11_keepsTold 51 rfl) (fun v17 => ?_)
  refine s_call (pc := 102) (rest := [.ref (ad 0)]) hG (calls_V (mi := mX11_keepsTold) (o := 0) (As := [.int v17]) (rest := [.ref (ad 0)]) hG (dc dl_X11_keepsTold 52 rfl) mo_X11_keeps mv_X11_keeps ml_X11_500 ⟨Nat.le_of_ble_eq_true rfl, Nat.le_of_ble_eq_true rfl⟩ rfl rfl (Nat.le_of_ble_eq_true rfl) lk_Mo_0 rfl) (cn_X11_keeps l G hG ad v17) rfl (fun r18 => ?_)
  refine s_putI (pc := 105) fw_X11_450 lk_Mo_0 kk_Mo_0_54 (dc dl_X11_keepsTold 53 rfl) ?_
  refine s_aload_n (pc := 108) (dc dl_X11_keepsTold 54 rfl) rfl rfl ?_
  refine s_aload_n (pc := 109) (dc dl_X11_keepsTold 55 rfl) rfl rfl ?_
  refine s_aload_n (pc := 110) (dc dl_X11_keepsTold 56 rfl) rfl rfl ?_
  refine s_getI (pc := 111) fl_X11_456 lk_Mo_0 kk_Mo_0_57 (dc dl_X11_keepsTold 57 rfl) (fun v19 => ?_)
  refine s_call (pc := 114) (rest := [.ref (ad 0)]) hG (calls_V (mi := mX11_keepsTold) (o := 0) (As := [.int v19]) (rest := [.ref (ad 0)]) hG (dc dl_X11_keepsTold 58 rfl) mo_X11_keeps mv_X11_keeps ml_X11_500 ⟨Nat.le_of_ble_eq_true rfl, Nat.le_of_ble_eq_true rfl⟩ rfl rfl (Nat.le_of_ble_eq_true rfl) lk_Mo_0 rfl) (cn_X11_keeps l G hG ad v19) rfl (fun r20 => ?_)
  refine s_putI (pc := 117) fw_X11_456 lk_Mo_0 kk_Mo_0_57 (dc dl_X11_keepsTold 59 rfl) ?_
  refine s_aload_n (pc := 120) (dc dl_X11_keepsTold 60 rfl) rfl rfl ?_
  refine s_aload_n (pc := 121) (dc dl_X11_keepsTold 61 rfl) rfl rfl ?_
  refine s_aload_n (pc := 122) (dc dl_X11_keepsTold 62 rfl) rfl rfl ?_
  refine s_getI (pc := 123) fl_X11_479 lk_Mo_0 kk_Mo_0_61 (dc dl_X11_keepsTold 63 rfl) (fun v21 => ?_)
  refine s_call (pc := 126) (rest := [.ref (ad 0)]) hG (calls_V (mi := mX11_keepsTold) (o := 0) (As := [.int v21]) (rest := [.ref (ad 0)]) hG (dc dl_X11_keepsTold 64 rfl) mo_X11_keeps mv_X11_keeps ml_X11_500 ⟨Nat.le_of_ble_eq_true rfl, Nat.le_of_ble_eq_true rfl⟩ rfl rfl (Nat.le_of_ble_eq_true rfl) lk_Mo_0 rfl) (cn_X11_keeps l G hG ad v21) rfl (fun r22 => ?_)
  refine s_putI (pc := 129) fw_X11_479 lk_Mo_0 kk_Mo_0_61 (dc dl_X11_keepsTold 65 rfl) ?_
  refine s_iconst (pc := 132) (v := 0) (dc dl_X11_keepsTold 66 rfl) ic_0 ?_
  refine s_istore_n (pc := 133) (lv' := [some (.ref (ad 0)), some (.int 0)]) (dc dl_X11_keepsTold 67 rfl) rfl (Nat.le_of_ble_eq_true rfl) rfl ?_
  refine s_weak (lv' := [some (.ref (ad 0)), some (.int 0)]) rfl ?_
  refine s_loop (pc := 134) (fun s24 : Int32 => [some (.ref (ad 0)), some (.int s24)]) [] (fun self23 hself23 s24 => ?_) _ 0
  refine s_iload_n (pc := 134) (dc dl_X11_keepsTold 68 rfl) rfl rfl ?_
  refine s_bipush (pc := 135) (v := 20) (dc dl_X11_keepsTold 69 rfl) bi_20 ?_
  refine s_icmp_ge (pc := 137) (tgt := 178) (dc dl_X11_keepsTold 70 rfl) rfl ?_ ?_
  · refine s_iconst (pc := 178) (v := 0) (dc dl_X11_keepsTold 93 rfl) ic_0 ?_
    refine s_istore_n (pc := 179) (lv' := [some (.ref (ad 0)), some (.int 0)]) (dc dl_X11_keepsTold 94 rfl) rfl (Nat.le_of_ble_eq_true rfl) rfl ?_
    refine s_weak (lv' := [some (.ref (ad 0)), some (.int 0)]) rfl ?_
    refine s_loop (pc := 180) (fun s26 : Int32 => [some (.ref (ad 0)), some (.int s26)]) [] (fun self25 hself25 s26 => ?_) _ 0
    refine s_iload_n (pc := 180) (dc dl_X11_keepsTold 95 rfl) rfl rfl ?_
    refine s_bipush (pc := 181) (v := 64) (dc dl_X11_keepsTold 96 rfl) bi_64 ?_
    refine s_icmp_ge (pc := 183) (tgt := 208) (dc dl_X11_keepsTold 97 rfl) rfl ?_ ?_
    · refine s_iconst (pc := 208) (v := 0) (dc dl_X11_keepsTold 110 rfl) ic_0 ?_
      refine s_istore_n (pc := 209) (lv' := [some (.ref (ad 0)), some (.int 0)]) (dc dl_X11_keepsTold 111 rfl) rfl (Nat.le_of_ble_eq_true rfl) rfl ?_
      refine s_weak (lv' := [some (.ref (ad 0)), some (.int 0)]) rfl ?_
      refine s_loop (pc := 210) (fun s28 : Int32 => [some (.ref (ad 0)), some (.int s28)]) [] (fun self27 hself27 s28 => ?_) _ 0
      refine s_iload_n (pc := 210) (dc dl_X11_keepsTold 112 rfl) rfl rfl ?_
      refine s_bipush (pc := 211) (v := 48) (dc dl_X11_keepsTold 113 rfl) bi_48 ?_
      refine s_icmp_ge (pc := 213) (tgt := 238) (dc dl_X11_keepsTold 114 rfl) rfl ?_ ?_
      · refine s_iconst (pc := 238) (v := 0) (dc dl_X11_keepsTold 127 rfl) ic_0 ?_
        refine s_istore_n (pc := 239) (lv' := [some (.ref (ad 0)), some (.int 0)]) (dc dl_X11_keepsTold 128 rfl) rfl (Nat.le_of_ble_eq_true rfl) rfl ?_
        refine s_weak (lv' := [some (.ref (ad 0)), some (.int 0)]) rfl ?_
        refine s_loop (pc := 240) (fun s30 : Int32 => [some (.ref (ad 0)), some (.int s30)]) [] (fun self29 hself29 s30 => ?_) _ 0
        refine s_iload_n (pc := 240) (dc dl_X11_keepsTold 129 rfl) rfl rfl ?_
        refine s_bipush (pc := 241) (v := 12) (dc dl_X11_keepsTold 130 rfl) bi_12 ?_
        refine s_icmp_ge (pc := 243) (tgt := 300) (dc dl_X11_keepsTold 131 rfl) rfl ?_ ?_
        · refine s_iconst (pc := 300) (v := 0) (dc dl_X11_keepsTold 164 rfl) ic_0 ?_
          refine s_istore_n (pc := 301) (lv' := [some (.ref (ad 0)), some (.int 0)]) (dc dl_X11_keepsTold 165 rfl) rfl (Nat.le_of_ble_eq_true rfl) rfl ?_
          refine s_weak (lv' := [some (.ref (ad 0)), some (.int 0)]) rfl ?_
          refine s_loop (pc := 302) (fun s32 : Int32 => [some (.ref (ad 0)), some (.int s32)]) [] (fun self31 hself31 s32 => ?_) _ 0
          refine s_iload_n (pc := 302) (dc dl_X11_keepsTold 166 rfl) rfl rfl ?_
          refine s_bipush (pc := 303) (v := 16) (dc dl_X11_keepsTold 167 rfl) bi_16 ?_
          refine s_icmp_ge (pc := 305) (tgt := 346) (dc dl_X11_keepsTold 168 rfl) rfl ?_ ?_
          · refine s_iconst (pc := 346) (v := 0) (dc dl_X11_keepsTold 191 rfl) ic_0 ?_
            refine s_istore_n (pc := 347) (lv' := [some (.ref (ad 0)), some (.int 0)]) (dc dl_X11_keepsTold 192 rfl) rfl (Nat.le_of_ble_eq_true rfl) rfl ?_
            refine s_weak (lv' := [some (.ref (ad 0)), some (.int 0)]) rfl ?_
            refine s_loop (pc := 348) (fun s34 : Int32 => [some (.ref (ad 0)), some (.int s34)]) [] (fun self33 hself33 s34 => ?_) _ 0
            refine s_iload_n (pc := 348) (dc dl_X11_keepsTold 193 rfl) rfl rfl ?_
            refine s_bipush (pc := 349) (v := 10) (dc dl_X11_keepsTold 194 rfl) bi_10 ?_
            refine s_icmp_ge (pc := 351) (tgt := 376) (dc dl_X11_keepsTold 195 rfl) rfl ?_ ?_
            · exact s_return (pc := 376) rfl (dc dl_X11_keepsTold 208 rfl)
            · refine s_aload_n (pc := 354) (dc dl_X11_keepsTold 196 rfl) rfl rfl ?_
              refine s_getR (pc := 355) fl_X11_116 lk_Mo_0 kk_Mo_0_62 (dc dl_X11_keepsTold 197 rfl) ?_
              refine s_iload_n (pc := 358) (dc dl_X11_keepsTold 198 rfl) rfl rfl ?_
              refine s_aload_n (pc := 359) (dc dl_X11_keepsTold 199 rfl) rfl rfl ?_
              refine s_aload_n (pc := 360) (dc dl_X11_keepsTold 200 rfl) rfl rfl ?_
              refine s_getR (pc := 361) fl_X11_116 lk_Mo_0 kk_Mo_0_62 (dc dl_X11_keepsTold 201 rfl) ?_
              refine s_iload_n (pc := 364) (dc dl_X11_keepsTold 202 rfl) rfl rfl ?_
              refine s_iald (pc := 365) lk_Mo_35 (dc dl_X11_keepsTold 203 rfl) (fun v35 => ?_)
              refine s_call (pc := 366) (rest := [.int s34, .ref (ad 35)]) hG (calls_V (mi := mX11_keepsTold) (o := 0) (As := [.int v35]) (rest := [.int s34, .ref (ad 35)]) hG (dc dl_X11_keepsTold 204 rfl) mo_X11_keeps mv_X11_keeps ml_X11_500 ⟨Nat.le_of_ble_eq_true rfl, Nat.le_of_ble_eq_true rfl⟩ rfl rfl (Nat.le_of_ble_eq_true rfl) lk_Mo_0 rfl) (cn_X11_keeps l G hG ad v35) rfl (fun r36 => ?_)
              refine s_iast (pc := 369) lk_Mo_35 (dc dl_X11_keepsTold 205 rfl) ?_
              refine s_iincL (pc := 370) (lf' := fun y37 => [some (.ref (ad 0)), some (.int y37)]) (dc dl_X11_keepsTold 206 rfl) rfl rfl (Nat.le_of_ble_eq_true rfl) (fun _ => rfl) (fun y37 => ?_)
              refine s_goto (pc := 373) (tgt := 348) (dc dl_X11_keepsTold 207 rfl) rfl ?_
              exact s_wk (hself33 y37) rfl
          · refine s_aload_n (pc := 308) (dc dl_X11_keepsTold 169 rfl) rfl rfl ?_
            refine s_getR (pc := 309) fl_X11_98 lk_Mo_0 kk_Mo_0_53 (dc dl_X11_keepsTold 170 rfl) ?_
            refine s_iload_n (pc := 312) (dc dl_X11_keepsTold 171 rfl) rfl rfl ?_
            refine s_aload_n (pc := 313) (dc dl_X11_keepsTold 172 rfl) rfl rfl ?_
            refine s_aload_n (pc := 314) (dc dl_X11_keepsTold 173 rfl) rfl rfl ?_
            refine s_getR (pc := 315) fl_X11_98 lk_Mo_0 kk_Mo_0_53 (dc dl_X11_keepsTold 174 rfl) ?_
            refine s_iload_n (pc := 318) (dc dl_X11_keepsTold 175 rfl) rfl rfl ?_
            refine s_iald (pc := 319) lk_Mo_29 (dc dl_X11_keepsTold 176 rfl) (fun v38 => ?_)
            refine s_call (pc := 320) (rest := [.int s32, .ref (ad 29)]) hG (calls_V (mi := mX11_keepsTold) (o := 0) (As := [.int v38]) (rest := [.int s32, .ref (ad 29)]) hG (dc dl_X11_keepsTold 177 rfl) mo_X11_keeps mv_X11_keeps ml_X11_500 ⟨Nat.le_of_ble_eq_true rfl, Nat.le_of_ble_eq_true rfl⟩ rfl rfl (Nat.le_of_ble_eq_true rfl) lk_Mo_0 rfl) (cn_X11_keeps l G hG ad v38) rfl (fun r39 => ?_)
            refine s_iast (pc := 323) lk_Mo_29 (dc dl_X11_keepsTold 178 rfl) ?_
            refine s_aload_n (pc := 324) (dc dl_X11_keepsTold 179 rfl) rfl rfl ?_
            refine s_getR (pc := 325) fl_X11_107 lk_Mo_0 kk_Mo_0_58 (dc dl_X11_keepsTold 180 rfl) ?_
            refine s_iload_n (pc := 328) (dc dl_X11_keepsTold 181 rfl) rfl rfl ?_
            refine s_aload_n (pc := 329) (dc dl_X11_keepsTold 182 rfl) rfl rfl ?_
            refine s_aload_n (pc := 330) (dc dl_X11_keepsTold 183 rfl) rfl rfl ?_
            refine s_getR (pc := 331) fl_X11_107 lk_Mo_0 kk_Mo_0_58 (dc dl_X11_keepsTold 184 rfl) ?_
            refine s_iload_n (pc := 334) (dc dl_X11_keepsTold 185 rfl) rfl rfl ?_
            refine s_iald (pc := 335) lk_Mo_32 (dc dl_X11_keepsTold 186 rfl) (fun v40 => ?_)
            refine s_call (pc := 336) (rest := [.int s32, .ref (ad 32)]) hG (calls_V (mi := mX11_keepsTold) (o := 0) (As := [.int v40]) (rest := [.int s32, .ref (ad 32)]) hG (dc dl_X11_keepsTold 187 rfl) mo_X11_keeps mv_X11_keeps ml_X11_500 ⟨Nat.le_of_ble_eq_true rfl, Nat.le_of_ble_eq_true rfl⟩ rfl rfl (Nat.le_of_ble_eq_true rfl) lk_Mo_0 rfl) (cn_X11_keeps l G hG ad v40) rfl (fun r41 => ?_)
            refine s_iast (pc := 339) lk_Mo_32 (dc dl_X11_keepsTold 188 rfl) ?_
            refine s_iincL (pc := 340) (lf' := fun y42 => [some (.ref (ad 0)), some (.int y42)]) (dc dl_X11_keepsTold 189 rfl) rfl rfl (Nat.le_of_ble_eq_true rfl) (fun _ => rfl) (fun y42 => ?_)
            refine s_goto (pc := 343) (tgt := 302) (dc dl_X11_keepsTold 190 rfl) rfl ?_
            exact s_wk (hself31 y42) rfl
        · refine s_aload_n (pc := 246) (dc dl_X11_keepsTold 132 rfl) rfl rfl ?_
          refine s_getR (pc := 247) fl_X11_68 lk_Mo_0 kk_Mo_0_40 (dc dl_X11_keepsTold 133 rfl) ?_
          refine s_iload_n (pc := 250) (dc dl_X11_keepsTold 134 rfl) rfl rfl ?_
          refine s_aload_n (pc := 251) (dc dl_X11_keepsTold 135 rfl) rfl rfl ?_
          refine s_aload_n (pc := 252) (dc dl_X11_keepsTold 136 rfl) rfl rfl ?_
          refine s_getR (pc := 253) fl_X11_68 lk_Mo_0 kk_Mo_0_40 (dc dl_X11_keepsTold 137 rfl) ?_
          refine s_iload_n (pc := 256) (dc dl_X11_keepsTold 138 rfl) rfl rfl ?_
          refine s_iald (pc := 257) lk_Mo_19 (dc dl_X11_keepsTold 139 rfl) (fun v43 => ?_)
          refine s_call (pc := 258) (rest := [.int s30, .ref (ad 19)]) hG (calls_V (mi := mX11_keepsTold) (o := 0) (As := [.int v43]) (rest := [.int s30, .ref (ad 19)]) hG (dc dl_X11_keepsTold 140 rfl) mo_X11_keeps mv_X11_keeps ml_X11_500 ⟨Nat.le_of_ble_eq_true rfl, Nat.le_of_ble_eq_true rfl⟩ rfl rfl (Nat.le_of_ble_eq_true rfl) lk_Mo_0 rfl) (cn_X11_keeps l G hG ad v43) rfl (fun r44 => ?_)
          refine s_iast (pc := 261) lk_Mo_19 (dc dl_X11_keepsTold 141 rfl) ?_
          refine s_aload_n (pc := 262) (dc dl_X11_keepsTold 142 rfl) rfl rfl ?_
          refine s_getR (pc := 263) fl_X11_77 lk_Mo_0 kk_Mo_0_44 (dc dl_X11_keepsTold 143 rfl) ?_
          refine s_iload_n (pc := 266) (dc dl_X11_keepsTold 144 rfl) rfl rfl ?_
          refine s_aload_n (pc := 267) (dc dl_X11_keepsTold 145 rfl) rfl rfl ?_
          refine s_aload_n (pc := 268) (dc dl_X11_keepsTold 146 rfl) rfl rfl ?_
          refine s_getR (pc := 269) fl_X11_77 lk_Mo_0 kk_Mo_0_44 (dc dl_X11_keepsTold 147 rfl) ?_
          refine s_iload_n (pc := 272) (dc dl_X11_keepsTold 148 rfl) rfl rfl ?_
          refine s_iald (pc := 273) lk_Mo_22 (dc dl_X11_keepsTold 149 rfl) (fun v45 => ?_)
          refine s_call (pc := 274) (rest := [.int s30, .ref (ad 22)]) hG (calls_V (mi := mX11_keepsTold) (o := 0) (As := [.int v45]) (rest := [.int s30, .ref (ad 22)]) hG (dc dl_X11_keepsTold 150 rfl) mo_X11_keeps mv_X11_keeps ml_X11_500 ⟨Nat.le_of_ble_eq_true rfl, Nat.le_of_ble_eq_true rfl⟩ rfl rfl (Nat.le_of_ble_eq_true rfl) lk_Mo_0 rfl) (cn_X11_keeps l G hG ad v45) rfl (fun r46 => ?_)
          refine s_iast (pc := 277) lk_Mo_22 (dc dl_X11_keepsTold 151 rfl) ?_
          refine s_aload_n (pc := 278) (dc dl_X11_keepsTold 152 rfl) rfl rfl ?_
          refine s_getR (pc := 279) fl_X11_101 lk_Mo_0 kk_Mo_0_55 (dc dl_X11_keepsTold 153 rfl) ?_
          refine s_iload_n (pc := 282) (dc dl_X11_keepsTold 154 rfl) rfl rfl ?_
          refine s_aload_n (pc := 283) (dc dl_X11_keepsTold 155 rfl) rfl rfl ?_
          refine s_aload_n (pc := 284) (dc dl_X11_keepsTold 156 rfl) rfl rfl ?_
          refine s_getR (pc := 285) fl_X11_101 lk_Mo_0 kk_Mo_0_55 (dc dl_X11_keepsTold 157 rfl) ?_
          refine s_iload_n (pc := 288) (dc dl_X11_keepsTold 158 rfl) rfl rfl ?_
          refine s_iald (pc := 289) lk_Mo_30 (dc dl_X11_keepsTold 159 rfl) (fun v47 => ?_)
          refine s_call (pc := 290) (rest := [.int s30, .ref (ad 30)]) hG (calls_V (mi := mX11_keepsTold) (o := 0) (As := [.int v47]) (rest := [.int s30, .ref (ad 30)]) hG (dc dl_X11_keepsTold 160 rfl) mo_X11_keeps mv_X11_keeps ml_X11_500 ⟨Nat.le_of_ble_eq_true rfl, Nat.le_of_ble_eq_true rfl⟩ rfl rfl (Nat.le_of_ble_eq_true rfl) lk_Mo_0 rfl) (cn_X11_keeps l G hG ad v47) rfl (fun r48 => ?_)
          refine s_iast (pc := 293) lk_Mo_30 (dc dl_X11_keepsTold 161 rfl) ?_
          refine s_iincL (pc := 294) (lf' := fun y49 => [some (.ref (ad 0)), some (.int y49)]) (dc dl_X11_keepsTold 162 rfl) rfl rfl (Nat.le_of_ble_eq_true rfl) (fun _ => rfl) (fun y49 => ?_)
          refine s_goto (pc := 297) (tgt := 240) (dc dl_X11_keepsTold 163 rfl) rfl ?_
          exact s_wk (hself29 y49) rfl
      · refine s_aload_n (pc := 216) (dc dl_X11_keepsTold 115 rfl) rfl rfl ?_
        refine s_getR (pc := 217) fl_X11_65 lk_Mo_0 kk_Mo_0_38 (dc dl_X11_keepsTold 116 rfl) ?_
        refine s_iload_n (pc := 220) (dc dl_X11_keepsTold 117 rfl) rfl rfl ?_
        refine s_aload_n (pc := 221) (dc dl_X11_keepsTold 118 rfl) rfl rfl ?_
        refine s_aload_n (pc := 222) (dc dl_X11_keepsTold 119 rfl) rfl rfl ?_
        refine s_getR (pc := 223) fl_X11_65 lk_Mo_0 kk_Mo_0_38 (dc dl_X11_keepsTold 120 rfl) ?_
        refine s_iload_n (pc := 226) (dc dl_X11_keepsTold 121 rfl) rfl rfl ?_
        refine s_iald (pc := 227) lk_Mo_18 (dc dl_X11_keepsTold 122 rfl) (fun v50 => ?_)
        refine s_call (pc := 228) (rest := [.int s28, .ref (ad 18)]) hG (calls_V (mi := mX11_keepsTold) (o := 0) (As := [.int v50]) (rest := [.int s28, .ref (ad 18)]) hG (dc dl_X11_keepsTold 123 rfl) mo_X11_keeps mv_X11_keeps ml_X11_500 ⟨Nat.le_of_ble_eq_true rfl, Nat.le_of_ble_eq_true rfl⟩ rfl rfl (Nat.le_of_ble_eq_true rfl) lk_Mo_0 rfl) (cn_X11_keeps l G hG ad v50) rfl (fun r51 => ?_)
        refine s_iast (pc := 231) lk_Mo_18 (dc dl_X11_keepsTold 124 rfl) ?_
        refine s_iincL (pc := 232) (lf' := fun y52 => [some (.ref (ad 0)), some (.int y52)]) (dc dl_X11_keepsTold 125 rfl) rfl rfl (Nat.le_of_ble_eq_true rfl) (fun _ => rfl) (fun y52 => ?_)
        refine s_goto (pc := 235) (tgt := 210) (dc dl_X11_keepsTold 126 rfl) rfl ?_
        exact s_wk (hself27 y52) rfl
    · refine s_aload_n (pc := 186) (dc dl_X11_keepsTold 98 rfl) rfl rfl ?_
      refine s_getR (pc := 187) fl_X11_62 lk_Mo_0 kk_Mo_0_36 (dc dl_X11_keepsTold 99 rfl) ?_
      refine s_iload_n (pc := 190) (dc dl_X11_keepsTold 100 rfl) rfl rfl ?_
      refine s_aload_n (pc := 191) (dc dl_X11_keepsTold 101 rfl) rfl rfl ?_
      refine s_aload_n (pc := 192) (dc dl_X11_keepsTold 102 rfl) rfl rfl ?_
      refine s_getR (pc := 193) fl_X11_62 lk_Mo_0 kk_Mo_0_36 (dc dl_X11_keepsTold 103 rfl) ?_
      refine s_iload_n (pc := 196) (dc dl_X11_keepsTold 104 rfl) rfl rfl ?_
      refine s_iald (pc := 197) lk_Mo_17 (dc dl_X11_keepsTold 105 rfl) (fun v53 => ?_)
      refine s_call (pc := 198) (rest := [.int s26, .ref (ad 17)]) hG (calls_V (mi := mX11_keepsTold) (o := 0) (As := [.int v53]) (rest := [.int s26, .ref (ad 17)]) hG (dc dl_X11_keepsTold 106 rfl) mo_X11_keeps mv_X11_keeps ml_X11_500 ⟨Nat.le_of_ble_eq_true rfl, Nat.le_of_ble_eq_true rfl⟩ rfl rfl (Nat.le_of_ble_eq_true rfl) lk_Mo_0 rfl) (cn_X11_keeps l G hG ad v53) rfl (fun r54 => ?_)
      refine s_iast (pc := 201) lk_Mo_17 (dc dl_X11_keepsTold 107 rfl) ?_
      refine s_iincL (pc := 202) (lf' := fun y55 => [some (.ref (ad 0)), some (.int y55)]) (dc dl_X11_keepsTold 108 rfl) rfl rfl (Nat.le_of_ble_eq_true rfl) (fun _ => rfl) (fun y55 => ?_)
      refine s_goto (pc := 205) (tgt := 180) (dc dl_X11_keepsTold 109 rfl) rfl ?_
      exact s_wk (hself25 y55) rfl
  · refine s_aload_n (pc := 140) (dc dl_X11_keepsTold 71 rfl) rfl rfl ?_
    refine s_getR (pc := 141) fl_X11_19 lk_Mo_0 kk_Mo_0_9 (dc dl_X11_keepsTold 72 rfl) ?_
    refine s_iload_n (pc := 144) (dc dl_X11_keepsTold 73 rfl) rfl rfl ?_
    refine s_aload_n (pc := 145) (dc dl_X11_keepsTold 74 rfl) rfl rfl ?_
    refine s_aload_n (pc := 146) (dc dl_X11_keepsTold 75 rfl) rfl rfl ?_
    refine s_getR (pc := 147) fl_X11_19 lk_Mo_0 kk_Mo_0_9 (dc dl_X11_keepsTold 76 rfl) ?_
    refine s_iload_n (pc := 150) (dc dl_X11_keepsTold 77 rfl) rfl rfl ?_
    refine s_iald (pc := 151) lk_Mo_4 (dc dl_X11_keepsTold 78 rfl) (fun v56 => ?_)
    refine s_call (pc := 152) (rest := [.int s24, .ref (ad 4)]) hG (calls_V (mi := mX11_keepsTold) (o := 0) (As := [.int v56]) (rest := [.int s24, .ref (ad 4)]) hG (dc dl_X11_keepsTold 79 rfl) mo_X11_keeps mv_X11_keeps ml_X11_500 ⟨Nat.le_of_ble_eq_true rfl, Nat.le_of_ble_eq_true rfl⟩ rfl rfl (Nat.le_of_ble_eq_true rfl) lk_Mo_0 rfl) (cn_X11_keeps l G hG ad v56) rfl (fun r57 => ?_)
    refine s_iast (pc := 155) lk_Mo_4 (dc dl_X11_keepsTold 80 rfl) ?_
    refine s_aload_n (pc := 156) (dc dl_X11_keepsTold 81 rfl) rfl rfl ?_
    refine s_getR (pc := 157) fl_X11_22 lk_Mo_0 kk_Mo_0_10 (dc dl_X11_keepsTold 82 rfl) ?_
    refine s_iload_n (pc := 160) (dc dl_X11_keepsTold 83 rfl) rfl rfl ?_
    refine s_aload_n (pc := 161) (dc dl_X11_keepsTold 84 rfl) rfl rfl ?_
    refine s_aload_n (pc := 162) (dc dl_X11_keepsTold 85 rfl) rfl rfl ?_
    refine s_getR (pc := 163) fl_X11_22 lk_Mo_0 kk_Mo_0_10 (dc dl_X11_keepsTold 86 rfl) ?_
    refine s_iload_n (pc := 166) (dc dl_X11_keepsTold 87 rfl) rfl rfl ?_
    refine s_iald (pc := 167) lk_Mo_5 (dc dl_X11_keepsTold 88 rfl) (fun v58 => ?_)
    refine s_call (pc := 168) (rest := [.int s24, .ref (ad 5)]) hG (calls_V (mi := mX11_keepsTold) (o := 0) (As := [.int v58]) (rest := [.int s24, .ref (ad 5)]) hG (dc dl_X11_keepsTold 89 rfl) mo_X11_keeps mv_X11_keeps ml_X11_500 ⟨Nat.le_of_ble_eq_true rfl, Nat.le_of_ble_eq_true rfl⟩ rfl rfl (Nat.le_of_ble_eq_true rfl) lk_Mo_0 rfl) (cn_X11_keeps l G hG ad v58) rfl (fun r59 => ?_)
    refine s_iast (pc := 171) lk_Mo_5 (dc dl_X11_keepsTold 90 rfl) ?_
    refine s_iincL (pc := 172) (lf' := fun y60 => [some (.ref (ad 0)), some (.int y60)]) (dc dl_X11_keepsTold 91 rfl) rfl rfl (Nat.le_of_ble_eq_true rfl) (fun _ => rfl) (fun y60 => ?_)
    refine s_goto (pc := 175) (tgt := 134) (dc dl_X11_keepsTold 92 rfl) rfl ?_
    exact s_wk (hself23 y60) rfl
def gX11_image (x1 : Int32) : MM Int32 :=
  bd (sv 0 0 0) fun _ =>
  jn (fun (a2 : Unit) =>
  bd (svz 0 64 x1) fun _ =>
  bd (svz 0 65 1) fun _ =>
  bd (sv 0 66 0) fun _ =>
  loopC 100000 (fun (self3 : Int32 → MM Int32) (s4 : Int32) =>
  (if 183 ≤ s4 then
  bd gX11_keepsTold fun r5 =>
  loopC 100000 (fun (self6 : Int32 → MM Int32) (s7 : Int32) =>
  (if 600 ≤ s7 then
  bd gX11_keepsLaw fun r8 =>
  jn (fun (a10 : Unit) =>
  rz 1) (fun j9 =>
  (if x1 = 0 then
  bd (sv 0 3 0) fun _ =>
  j9 ()
  else
  j9 ()))
  else
  bd (la 6 s7) fun v11 =>
  bd (gX11_keeps v11) fun r12 =>
  bd (sa 6 s7 r12) fun _ =>
  lt (s7 + 1) fun y13 =>
  self6 y13)) 0
  else
  bd (la 1 s4) fun v14 =>
  bd (gX11_keeps v14) fun r15 =>
  bd (sa 1 s4 r15) fun _ =>
  lt (s4 + 1) fun y16 =>
  self3 y16)) 0) (fun j1 =>
  (if x1 = 0 then
  bd (ld 0 65) fun v17 =>
  (if v17 = 0 then
  rz 0
  else
  j1 ())
  else
  j1 ()))
set_option maxHeartbeats 4000000 in
theorem cn_X11_image (l : Launch) (G : Gl) (hG : gOk G) (ad : Nat → Nat) (x1 : Int32) : Cn l G mX11_image 2 lay_Mo ad [.ref (ad 0), .int x1] (gX11_image x1) := by
  refine cn_of (lv := [some (.ref (ad 0)), some (.int x1), none]) (by decide +kernel) rfl (Nat.le_of_ble_eq_true rfl) rfl ?_
  unfold gX11_image
  refine s_aload_n (pc := 0) (dc dl_X11_image 0 rfl) rfl rfl ?_
  refine s_iconst (pc := 1) (v := 0) (dc dl_X11_image 1 rfl) ic_0 ?_
  refine s_putI (pc := 2) fw_X11_125 lk_Mo_0 kk_Mo_0_0 (dc dl_X11_image 2 rfl) ?_
  refine s_iload_n (pc := 5) (dc dl_X11_image 3 rfl) rfl rfl ?_
  refine s_jn (pj := 18) (fun a2 : Unit => [some (.ref (ad 0)), some (.int x1), none]) (fun a2 : Unit => []) (fun a2 => ?_) (fun j1 hj1 => ?_)
  · refine s_aload_n (pc := 18) (dc dl_X11_image 10 rfl) rfl rfl ?_
    refine s_iload_n (pc := 19) (dc dl_X11_image 11 rfl) rfl rfl ?_
    refine s_putZ (pc := 20) fw_X11_497 lk_Mo_0 kk_Mo_0_64 (dc dl_X11_image 12 rfl) ?_
    refine s_aload_n (pc := 23) (dc dl_X11_image 13 rfl) rfl rfl ?_
    refine s_iconst (pc := 24) (v := 1) (dc dl_X11_image 14 rfl) ic_1 ?_
    refine s_putZ (pc := 25) fw_X11_503 lk_Mo_0 kk_Mo_0_65 (dc dl_X11_image 15 rfl) ?_
    refine s_aload_n (pc := 28) (dc dl_X11_image 16 rfl) rfl rfl ?_
    refine s_iconst (pc := 29) (v := 0) (dc dl_X11_image 17 rfl) ic_0 ?_
    refine s_putI (pc := 30) fw_X11_494 lk_Mo_0 kk_Mo_0_66 (dc dl_X11_image 18 rfl) ?_
    refine s_iconst (pc := 33) (v := 0) (dc dl_X11_image 19 rfl) ic_0 ?_
    refine s_istore_n (pc := 34) (lv' := [some (.ref (ad 0)), some (.int x1), some (.int 0)]) (dc dl_X11_image 20 rfl) rfl (Nat.le_of_ble_eq_true rfl) rfl ?_
    refine s_weak (lv' := [some (.ref (ad 0)), some (.int x1), some (.int 0)]) rfl ?_
    refine s_loop (pc := 35) (fun s4 : Int32 => [some (.ref (ad 0)), some (.int x1), some (.int s4)]) [] (fun self3 hself3 s4 => ?_) _ 0
    refine s_iload_n (pc := 35) (dc dl_X11_image 21 rfl) rfl rfl ?_
    refine s_sipush (pc := 36) (v := 183) (dc dl_X11_image 22 rfl) si_183 ?_
    refine s_icmp_ge (pc := 39) (tgt := 64) (dc dl_X11_image 23 rfl) rfl ?_ ?_
    · refine s_aload_n (pc := 64) (dc dl_X11_image 36 rfl) rfl rfl ?_
      refine s_callv (pc := 65) (rest := []) hG (calls_V (mi := mX11_image) (o := 0) (As := []) (rest := []) hG (dc dl_X11_image 37 rfl) mo_X11_keepsTold mv_X11_keepsTold ml_X11_506 ⟨Nat.le_of_ble_eq_true rfl, Nat.le_of_ble_eq_true rfl⟩ rfl rfl (Nat.le_of_ble_eq_true rfl) lk_Mo_0 rfl) (cn_X11_keepsTold l G hG ad) rfl (fun r5 => ?_)
      refine s_iconst (pc := 68) (v := 0) (dc dl_X11_image 38 rfl) ic_0 ?_
      refine s_istore_n (pc := 69) (lv' := [some (.ref (ad 0)), some (.int x1), some (.int 0)]) (dc dl_X11_image 39 rfl) rfl (Nat.le_of_ble_eq_true rfl) rfl ?_
      refine s_weak (lv' := [some (.ref (ad 0)), some (.int x1), some (.int 0)]) rfl ?_
      refine s_loop (pc := 70) (fun s7 : Int32 => [some (.ref (ad 0)), some (.int x1), some (.int s7)]) [] (fun self6 hself6 s7 => ?_) _ 0
      refine s_iload_n (pc := 70) (dc dl_X11_image 40 rfl) rfl rfl ?_
      refine s_sipush (pc := 71) (v := 600) (dc dl_X11_image 41 rfl) si_600 ?_
      refine s_icmp_ge (pc := 74) (tgt := 99) (dc dl_X11_image 42 rfl) rfl ?_ ?_
      · refine s_aload_n (pc := 99) (dc dl_X11_image 55 rfl) rfl rfl ?_
        refine s_callv (pc := 100) (rest := []) hG (calls_V (mi := mX11_image) (o := 0) (As := []) (rest := []) hG (dc dl_X11_image 56 rfl) mo_X11_keepsLaw mv_X11_keepsLaw ml_X11_509 ⟨Nat.le_of_ble_eq_true rfl, Nat.le_of_ble_eq_true rfl⟩ rfl rfl (Nat.le_of_ble_eq_true rfl) lk_Mo_0 rfl) (cn_X11_keepsLaw l G hG ad) rfl (fun r8 => ?_)
        refine s_iload_n (pc := 103) (dc dl_X11_image 57 rfl) rfl rfl ?_
        refine s_jn (pj := 112) (fun a10 : Unit => [none, none, none]) (fun a10 : Unit => []) (fun a10 => ?_) (fun j9 hj9 => ?_)
        · refine s_iconst (pc := 112) (v := 1) (dc dl_X11_image 62 rfl) ic_1 ?_
          exact s_zreturn (pc := 113) rfl (dc dl_X11_image 63 rfl)
        · refine s_if_ne (pc := 104) (tgt := 112) (dc dl_X11_image 58 rfl) rfl ?_ ?_
          · refine s_aload_n (pc := 107) (dc dl_X11_image 59 rfl) rfl rfl ?_
            refine s_iconst (pc := 108) (v := 0) (dc dl_X11_image 60 rfl) ic_0 ?_
            refine s_putI (pc := 109) fw_X11_128 lk_Mo_0 kk_Mo_0_3 (dc dl_X11_image 61 rfl) ?_
            exact s_wk (hj9 ()) rfl
          · exact s_wk (hj9 ()) rfl
      · refine s_aload_n (pc := 77) (dc dl_X11_image 43 rfl) rfl rfl ?_
        refine s_getR (pc := 78) fl_X11_25 lk_Mo_0 kk_Mo_0_11 (dc dl_X11_image 44 rfl) ?_
        refine s_iload_n (pc := 81) (dc dl_X11_image 45 rfl) rfl rfl ?_
        refine s_aload_n (pc := 82) (dc dl_X11_image 46 rfl) rfl rfl ?_
        refine s_aload_n (pc := 83) (dc dl_X11_image 47 rfl) rfl rfl ?_
        refine s_getR (pc := 84) fl_X11_25 lk_Mo_0 kk_Mo_0_11 (dc dl_X11_image 48 rfl) ?_
        refine s_iload_n (pc := 87) (dc dl_X11_image 49 rfl) rfl rfl ?_
        refine s_iald (pc := 88) lk_Mo_6 (dc dl_X11_image 50 rfl) (fun v11 => ?_)
        refine s_call (pc := 89) (rest := [.int s7, .ref (ad 6)]) hG (calls_V (mi := mX11_image) (o := 0) (As := [.int v11]) (rest := [.int s7, .ref (ad 6)]) hG (dc dl_X11_image 51 rfl) mo_X11_keeps mv_X11_keeps ml_X11_500 ⟨Nat.le_of_ble_eq_true rfl, Nat.le_of_ble_eq_true rfl⟩ rfl rfl (Nat.le_of_ble_eq_true rfl) lk_Mo_0 rfl) (cn_X11_keeps l G hG ad v11) rfl (fun r12 => ?_)
        refine s_iast (pc := 92) lk_Mo_6 (dc dl_X11_image 52 rfl) ?_
        refine s_iincL (pc := 93) (lf' := fun y13 => [some (.ref (ad 0)), some (.int x1), some (.int y13)]) (dc dl_X11_image 53 rfl) rfl rfl (Nat.le_of_ble_eq_true rfl) (fun _ => rfl) (fun y13 => ?_)
        refine s_goto (pc := 96) (tgt := 70) (dc dl_X11_image 54 rfl) rfl ?_
        exact s_wk (hself6 y13) rfl
    · refine s_aload_n (pc := 42) (dc dl_X11_image 24 rfl) rfl rfl ?_
      refine s_getR (pc := 43) fl_X11_7 lk_Mo_0 kk_Mo_0_1 (dc dl_X11_image 25 rfl) ?_
      refine s_iload_n (pc := 46) (dc dl_X11_image 26 rfl) rfl rfl ?_
      refine s_aload_n (pc := 47) (dc dl_X11_image 27 rfl) rfl rfl ?_
      refine s_aload_n (pc := 48) (dc dl_X11_image 28 rfl) rfl rfl ?_
      refine s_getR (pc := 49) fl_X11_7 lk_Mo_0 kk_Mo_0_1 (dc dl_X11_image 29 rfl) ?_
      refine s_iload_n (pc := 52) (dc dl_X11_image 30 rfl) rfl rfl ?_
      refine s_iald (pc := 53) lk_Mo_1 (dc dl_X11_image 31 rfl) (fun v14 => ?_)
      refine s_call (pc := 54) (rest := [.int s4, .ref (ad 1)]) hG (calls_V (mi := mX11_image) (o := 0) (As := [.int v14]) (rest := [.int s4, .ref (ad 1)]) hG (dc dl_X11_image 32 rfl) mo_X11_keeps mv_X11_keeps ml_X11_500 ⟨Nat.le_of_ble_eq_true rfl, Nat.le_of_ble_eq_true rfl⟩ rfl rfl (Nat.le_of_ble_eq_true rfl) lk_Mo_0 rfl) (cn_X11_keeps l G hG ad v14) rfl (fun r15 => ?_)
      refine s_iast (pc := 57) lk_Mo_1 (dc dl_X11_image 33 rfl) ?_
      refine s_iincL (pc := 58) (lf' := fun y16 => [some (.ref (ad 0)), some (.int x1), some (.int y16)]) (dc dl_X11_image 34 rfl) rfl rfl (Nat.le_of_ble_eq_true rfl) (fun _ => rfl) (fun y16 => ?_)
      refine s_goto (pc := 61) (tgt := 35) (dc dl_X11_image 35 rfl) rfl ?_
      exact s_wk (hself3 y16) rfl
  · refine s_if_ne (pc := 6) (tgt := 18) (dc dl_X11_image 4 rfl) rfl ?_ ?_
    · refine s_aload_n (pc := 9) (dc dl_X11_image 5 rfl) rfl rfl ?_
      refine s_getI (pc := 10) fl_X11_503 lk_Mo_0 kk_Mo_0_65 (dc dl_X11_image 6 rfl) (fun v17 => ?_)
      refine s_if_ne (pc := 13) (tgt := 18) (dc dl_X11_image 7 rfl) rfl ?_ ?_
      · refine s_iconst (pc := 16) (v := 0) (dc dl_X11_image 8 rfl) ic_0 ?_
        exact s_zreturn (pc := 17) rfl (dc dl_X11_image 9 rfl)
      · exact s_wk (hj1 ()) rfl
    · exact s_wk (hj1 ()) rfl
def gX11_setThatIs (x1 : Int32) : MM Int32 :=
  loopC 100000 (fun (self1 : (Int32 × Int32) → MM Int32) (s2 : Int32 × Int32) =>
  bd (ld 0 8) fun v3 =>
  (if v3 ≤ s2.2 then
  pr s2.1
  else
  bd (la 1 (163 + s2.2)) fun v4 =>
  jn (fun (a6 : Int32) =>
  lt (s2.2 + 1) fun y7 =>
  self1 (a6, y7)) (fun j5 =>
  (if v4 = x1 then
  lt (s2.1 ||| (1 <<< (s2.2 &&& 31))) fun y8 =>
  j5 y8
  else
  j5 s2.1)))) (0, 0)
set_option maxHeartbeats 4000000 in
theorem cn_X11_setThatIs (l : Launch) (G : Gl) (hG : gOk G) (ad : Nat → Nat) (x1 : Int32) : Cn l G mX11_setThatIs 0 lay_Mo ad [.ref (ad 0), .int x1] (gX11_setThatIs x1) := by
  refine cn_of (lv := [some (.ref (ad 0)), some (.int x1), none, none]) (by decide +kernel) rfl (Nat.le_of_ble_eq_true rfl) rfl ?_
  unfold gX11_setThatIs
  refine s_iconst (pc := 0) (v := 0) (dc dl_X11_setThatIs 0 rfl) ic_0 ?_
  refine s_istore_n (pc := 1) (lv' := [some (.ref (ad 0)), some (.int x1), some (.int 0), none]) (dc dl_X11_setThatIs 1 rfl) rfl (Nat.le_of_ble_eq_true rfl) rfl ?_
  refine s_iconst (pc := 2) (v := 0) (dc dl_X11_setThatIs 2 rfl) ic_0 ?_
  refine s_istore_n (pc := 3) (lv' := [some (.ref (ad 0)), some (.int x1), some (.int 0), some (.int 0)]) (dc dl_X11_setThatIs 3 rfl) rfl (Nat.le_of_ble_eq_true rfl) rfl ?_
  refine s_weak (lv' := [some (.ref (ad 0)), some (.int x1), some (.int 0), some (.int 0)]) rfl ?_
  refine s_loop (pc := 4) (fun s2 : Int32 × Int32 => [some (.ref (ad 0)), some (.int x1), some (.int s2.1), some (.int s2.2)]) [] (fun self1 hself1 s2 => ?_) _ (0, 0)
  refine s_iload_n (pc := 4) (dc dl_X11_setThatIs 4 rfl) rfl rfl ?_
  refine s_aload_n (pc := 5) (dc dl_X11_setThatIs 5 rfl) rfl rfl ?_
  refine s_getI (pc := 6) fl_X11_143 lk_Mo_0 kk_Mo_0_8 (dc dl_X11_setThatIs 6 rfl) (fun v3 => ?_)
  refine s_icmp_ge (pc := 9) (tgt := 38) (dc dl_X11_setThatIs 7 rfl) rfl ?_ ?_
  · refine s_iload_n (pc := 38) (dc dl_X11_setThatIs 24 rfl) rfl rfl ?_
    exact s_ireturn (pc := 39) rfl (dc dl_X11_setThatIs 25 rfl)
  · refine s_aload_n (pc := 12) (dc dl_X11_setThatIs 8 rfl) rfl rfl ?_
    refine s_getR (pc := 13) fl_X11_7 lk_Mo_0 kk_Mo_0_1 (dc dl_X11_setThatIs 9 rfl) ?_
    refine s_sipush (pc := 16) (v := 163) (dc dl_X11_setThatIs 10 rfl) si_163 ?_
    refine s_iload_n (pc := 19) (dc dl_X11_setThatIs 11 rfl) rfl rfl ?_
    refine s_iadd (pc := 20) (dc dl_X11_setThatIs 12 rfl) ?_
    refine s_iald (pc := 21) lk_Mo_1 (dc dl_X11_setThatIs 13 rfl) (fun v4 => ?_)
    refine s_iload_n (pc := 22) (dc dl_X11_setThatIs 14 rfl) rfl rfl ?_
    refine s_jn (pj := 32) (fun a6 : Int32 => [some (.ref (ad 0)), some (.int x1), some (.int a6), some (.int s2.2)]) (fun a6 : Int32 => []) (fun a6 => ?_) (fun j5 hj5 => ?_)
    · refine s_iincL (pc := 32) (lf' := fun y7 => [some (.ref (ad 0)), some (.int x1), some (.int a6), some (.int y7)]) (dc dl_X11_setThatIs 22 rfl) rfl rfl (Nat.le_of_ble_eq_true rfl) (fun _ => rfl) (fun y7 => ?_)
      refine s_goto (pc := 35) (tgt := 4) (dc dl_X11_setThatIs 23 rfl) rfl ?_
      exact s_wk (hself1 (a6, y7)) rfl
    · refine s_icmp_ne (pc := 23) (tgt := 32) (dc dl_X11_setThatIs 15 rfl) rfl ?_ ?_
      · refine s_iload_n (pc := 26) (dc dl_X11_setThatIs 16 rfl) rfl rfl ?_
        refine s_iconst (pc := 27) (v := 1) (dc dl_X11_setThatIs 17 rfl) ic_1 ?_
        refine s_iload_n (pc := 28) (dc dl_X11_setThatIs 18 rfl) rfl rfl ?_
        refine s_ishl (pc := 29) (dc dl_X11_setThatIs 19 rfl) ?_
        refine s_ior (pc := 30) (dc dl_X11_setThatIs 20 rfl) ?_
        refine s_istore_nL (pc := 31) (lf' := fun y8 => [some (.ref (ad 0)), some (.int x1), some (.int y8), some (.int s2.2)]) (dc dl_X11_setThatIs 21 rfl) rfl (Nat.le_of_ble_eq_true rfl) (fun _ => rfl) (fun y8 => ?_)
        exact s_wk (hj5 y8) rfl
      · exact s_wk (hj5 s2.1) rfl
def gX11_look (x1 : Int32) : MM Int32 :=
  bd (sv 0 0 0) fun _ =>
  (if x1 = 0 then
  bd (ld 0 6) fun v17 =>
  pr v17
  else
  (if x1 = 1 then
  bd (ld 0 7) fun v16 =>
  pr v16
  else
  (if x1 = 2 then
  bd (ld 0 8) fun v15 =>
  pr v15
  else
  jn (fun (a2 : Unit) =>
  bd (gX11_setThatIs (x1 - 3)) fun r3 =>
  pr r3) (fun j1 =>
  (if x1 = 3 then
  j1 ()
  else
  (if x1 = 4 then
  j1 ()
  else
  (if x1 = 5 then
  bd gX11_allKnots fun r14 =>
  pr r14
  else
  (if x1 = 6 then
  bd (la 1 0) fun v13 =>
  pr v13
  else
  (if x1 = 7 then
  bd (la 1 2) fun v12 =>
  pr v12
  else
  (if x1 = 8 then
  bd (la 1 1) fun v11 =>
  pr v11
  else
  (if x1 = 9 then
  bd (la 9 0) fun v10 =>
  pr v10
  else
  (if x1 = 10 then
  bd (ld 0 35) fun v9 =>
  pr v9
  else
  (if x1 = 11 then
  bd (ld 0 37) fun v8 =>
  pr v8
  else
  (if x1 = 12 then
  bd (ld 0 39) fun v7 =>
  pr v7
  else
  jn (fun (a5 : Int32) =>
  pr a5) (fun j4 =>
  (if x1 = 13 then
  bd (ld 0 3) fun v6 =>
  j4 v6
  else
  j4 ((-100000))))))))))))))))))
set_option maxHeartbeats 4000000 in
theorem cn_X11_look (l : Launch) (G : Gl) (hG : gOk G) (ad : Nat → Nat) (x1 : Int32) : Cn l G mX11_look 3 lay_Mo ad [.ref (ad 0), .int x1] (gX11_look x1) := by
  refine cn_of (lv := [some (.ref (ad 0)), some (.int x1)]) (by decide +kernel) rfl (Nat.le_of_ble_eq_true rfl) rfl ?_
  unfold gX11_look
  refine s_aload_n (pc := 0) (dc dl_X11_look 0 rfl) rfl rfl ?_
  refine s_iconst (pc := 1) (v := 0) (dc dl_X11_look 1 rfl) ic_0 ?_
  refine s_putI (pc := 2) fw_X11_125 lk_Mo_0 kk_Mo_0_0 (dc dl_X11_look 2 rfl) ?_
  refine s_iload_n (pc := 5) (dc dl_X11_look 3 rfl) rfl rfl ?_
  refine s_if_ne (pc := 6) (tgt := 14) (dc dl_X11_look 4 rfl) rfl ?_ ?_
  · refine s_aload_n (pc := 9) (dc dl_X11_look 5 rfl) rfl rfl ?_
    refine s_getI (pc := 10) fl_X11_137 lk_Mo_0 kk_Mo_0_6 (dc dl_X11_look 6 rfl) (fun v17 => ?_)
    exact s_ireturn (pc := 13) rfl (dc dl_X11_look 7 rfl)
  · refine s_iload_n (pc := 14) (dc dl_X11_look 8 rfl) rfl rfl ?_
    refine s_iconst (pc := 15) (v := 1) (dc dl_X11_look 9 rfl) ic_1 ?_
    refine s_icmp_ne (pc := 16) (tgt := 24) (dc dl_X11_look 10 rfl) rfl ?_ ?_
    · refine s_aload_n (pc := 19) (dc dl_X11_look 11 rfl) rfl rfl ?_
      refine s_getI (pc := 20) fl_X11_140 lk_Mo_0 kk_Mo_0_7 (dc dl_X11_look 12 rfl) (fun v16 => ?_)
      exact s_ireturn (pc := 23) rfl (dc dl_X11_look 13 rfl)
    · refine s_iload_n (pc := 24) (dc dl_X11_look 14 rfl) rfl rfl ?_
      refine s_iconst (pc := 25) (v := 2) (dc dl_X11_look 15 rfl) ic_2 ?_
      refine s_icmp_ne (pc := 26) (tgt := 34) (dc dl_X11_look 16 rfl) rfl ?_ ?_
      · refine s_aload_n (pc := 29) (dc dl_X11_look 17 rfl) rfl rfl ?_
        refine s_getI (pc := 30) fl_X11_143 lk_Mo_0 kk_Mo_0_8 (dc dl_X11_look 18 rfl) (fun v15 => ?_)
        exact s_ireturn (pc := 33) rfl (dc dl_X11_look 19 rfl)
      · refine s_iload_n (pc := 34) (dc dl_X11_look 20 rfl) rfl rfl ?_
        refine s_iconst (pc := 35) (v := 3) (dc dl_X11_look 21 rfl) ic_3 ?_
        refine s_jn (pj := 44) (fun a2 : Unit => [some (.ref (ad 0)), some (.int x1)]) (fun a2 : Unit => []) (fun a2 => ?_) (fun j1 hj1 => ?_)
        · refine s_aload_n (pc := 44) (dc dl_X11_look 26 rfl) rfl rfl ?_
          refine s_iload_n (pc := 45) (dc dl_X11_look 27 rfl) rfl rfl ?_
          refine s_iconst (pc := 46) (v := 3) (dc dl_X11_look 28 rfl) ic_3 ?_
          refine s_isub (pc := 47) (dc dl_X11_look 29 rfl) ?_
          refine s_call (pc := 48) (rest := []) hG (calls_V (mi := mX11_look) (o := 0) (As := [.int (x1 - 3)]) (rest := []) hG (dc dl_X11_look 30 rfl) mo_X11_setThatIs mv_X11_setThatIs ml_X11_512 ⟨Nat.le_of_ble_eq_true rfl, Nat.le_of_ble_eq_true rfl⟩ rfl rfl (Nat.le_of_ble_eq_true rfl) lk_Mo_0 rfl) (cn_X11_setThatIs l G hG ad (x1 - 3)) rfl (fun r3 => ?_)
          exact s_ireturn (pc := 51) rfl (dc dl_X11_look 31 rfl)
        · refine s_icmp_eq (pc := 36) (tgt := 44) (dc dl_X11_look 22 rfl) rfl ?_ ?_
          · exact s_wk (hj1 ()) rfl
          · refine s_iload_n (pc := 39) (dc dl_X11_look 23 rfl) rfl rfl ?_
            refine s_iconst (pc := 40) (v := 4) (dc dl_X11_look 24 rfl) ic_4 ?_
            refine s_icmp_ne (pc := 41) (tgt := 52) (dc dl_X11_look 25 rfl) rfl ?_ ?_
            · exact s_wk (hj1 ()) rfl
            · refine s_iload_n (pc := 52) (dc dl_X11_look 32 rfl) rfl rfl ?_
              refine s_iconst (pc := 53) (v := 5) (dc dl_X11_look 33 rfl) ic_5 ?_
              refine s_icmp_ne (pc := 54) (tgt := 62) (dc dl_X11_look 34 rfl) rfl ?_ ?_
              · refine s_aload_n (pc := 57) (dc dl_X11_look 35 rfl) rfl rfl ?_
                refine s_call (pc := 58) (rest := []) hG (calls_V (mi := mX11_look) (o := 0) (As := []) (rest := []) hG (dc dl_X11_look 36 rfl) mo_X11_allKnots mv_X11_allKnots ml_X11_417 ⟨Nat.le_of_ble_eq_true rfl, Nat.le_of_ble_eq_true rfl⟩ rfl rfl (Nat.le_of_ble_eq_true rfl) lk_Mo_0 rfl) (cn_X11_allKnots l G hG ad) rfl (fun r14 => ?_)
                exact s_ireturn (pc := 61) rfl (dc dl_X11_look 37 rfl)
              · refine s_iload_n (pc := 62) (dc dl_X11_look 38 rfl) rfl rfl ?_
                refine s_bipush (pc := 63) (v := 6) (dc dl_X11_look 39 rfl) bi_6 ?_
                refine s_icmp_ne (pc := 65) (tgt := 75) (dc dl_X11_look 40 rfl) rfl ?_ ?_
                · refine s_aload_n (pc := 68) (dc dl_X11_look 41 rfl) rfl rfl ?_
                  refine s_getR (pc := 69) fl_X11_7 lk_Mo_0 kk_Mo_0_1 (dc dl_X11_look 42 rfl) ?_
                  refine s_iconst (pc := 72) (v := 0) (dc dl_X11_look 43 rfl) ic_0 ?_
                  refine s_iald (pc := 73) lk_Mo_1 (dc dl_X11_look 44 rfl) (fun v13 => ?_)
                  exact s_ireturn (pc := 74) rfl (dc dl_X11_look 45 rfl)
                · refine s_iload_n (pc := 75) (dc dl_X11_look 46 rfl) rfl rfl ?_
                  refine s_bipush (pc := 76) (v := 7) (dc dl_X11_look 47 rfl) bi_7 ?_
                  refine s_icmp_ne (pc := 78) (tgt := 88) (dc dl_X11_look 48 rfl) rfl ?_ ?_
                  · refine s_aload_n (pc := 81) (dc dl_X11_look 49 rfl) rfl rfl ?_
                    refine s_getR (pc := 82) fl_X11_7 lk_Mo_0 kk_Mo_0_1 (dc dl_X11_look 50 rfl) ?_
                    refine s_iconst (pc := 85) (v := 2) (dc dl_X11_look 51 rfl) ic_2 ?_
                    refine s_iald (pc := 86) lk_Mo_1 (dc dl_X11_look 52 rfl) (fun v12 => ?_)
                    exact s_ireturn (pc := 87) rfl (dc dl_X11_look 53 rfl)
                  · refine s_iload_n (pc := 88) (dc dl_X11_look 54 rfl) rfl rfl ?_
                    refine s_bipush (pc := 89) (v := 8) (dc dl_X11_look 55 rfl) bi_8 ?_
                    refine s_icmp_ne (pc := 91) (tgt := 101) (dc dl_X11_look 56 rfl) rfl ?_ ?_
                    · refine s_aload_n (pc := 94) (dc dl_X11_look 57 rfl) rfl rfl ?_
                      refine s_getR (pc := 95) fl_X11_7 lk_Mo_0 kk_Mo_0_1 (dc dl_X11_look 58 rfl) ?_
                      refine s_iconst (pc := 98) (v := 1) (dc dl_X11_look 59 rfl) ic_1 ?_
                      refine s_iald (pc := 99) lk_Mo_1 (dc dl_X11_look 60 rfl) (fun v11 => ?_)
                      exact s_ireturn (pc := 100) rfl (dc dl_X11_look 61 rfl)
                    · refine s_iload_n (pc := 101) (dc dl_X11_look 62 rfl) rfl rfl ?_
                      refine s_bipush (pc := 102) (v := 9) (dc dl_X11_look 63 rfl) bi_9 ?_
                      refine s_icmp_ne (pc := 104) (tgt := 114) (dc dl_X11_look 64 rfl) rfl ?_ ?_
                      · refine s_aload_n (pc := 107) (dc dl_X11_look 65 rfl) rfl rfl ?_
                        refine s_getR (pc := 108) fl_X11_34 lk_Mo_0 kk_Mo_0_19 (dc dl_X11_look 66 rfl) ?_
                        refine s_iconst (pc := 111) (v := 0) (dc dl_X11_look 67 rfl) ic_0 ?_
                        refine s_iald (pc := 112) lk_Mo_9 (dc dl_X11_look 68 rfl) (fun v10 => ?_)
                        exact s_ireturn (pc := 113) rfl (dc dl_X11_look 69 rfl)
                      · refine s_iload_n (pc := 114) (dc dl_X11_look 70 rfl) rfl rfl ?_
                        refine s_bipush (pc := 115) (v := 10) (dc dl_X11_look 71 rfl) bi_10 ?_
                        refine s_icmp_ne (pc := 117) (tgt := 125) (dc dl_X11_look 72 rfl) rfl ?_ ?_
                        · refine s_aload_n (pc := 120) (dc dl_X11_look 73 rfl) rfl rfl ?_
                          refine s_getI (pc := 121) fl_X11_305 lk_Mo_0 kk_Mo_0_35 (dc dl_X11_look 74 rfl) (fun v9 => ?_)
                          exact s_ireturn (pc := 124) rfl (dc dl_X11_look 75 rfl)
                        · refine s_iload_n (pc := 125) (dc dl_X11_look 76 rfl) rfl rfl ?_
                          refine s_bipush (pc := 126) (v := 11) (dc dl_X11_look 77 rfl) bi_11 ?_
                          refine s_icmp_ne (pc := 128) (tgt := 136) (dc dl_X11_look 78 rfl) rfl ?_ ?_
                          · refine s_aload_n (pc := 131) (dc dl_X11_look 79 rfl) rfl rfl ?_
                            refine s_getI (pc := 132) fl_X11_308 lk_Mo_0 kk_Mo_0_37 (dc dl_X11_look 80 rfl) (fun v8 => ?_)
                            exact s_ireturn (pc := 135) rfl (dc dl_X11_look 81 rfl)
                          · refine s_iload_n (pc := 136) (dc dl_X11_look 82 rfl) rfl rfl ?_
                            refine s_bipush (pc := 137) (v := 12) (dc dl_X11_look 83 rfl) bi_12 ?_
                            refine s_icmp_ne (pc := 139) (tgt := 147) (dc dl_X11_look 84 rfl) rfl ?_ ?_
                            · refine s_aload_n (pc := 142) (dc dl_X11_look 85 rfl) rfl rfl ?_
                              refine s_getI (pc := 143) fl_X11_302 lk_Mo_0 kk_Mo_0_39 (dc dl_X11_look 86 rfl) (fun v7 => ?_)
                              exact s_ireturn (pc := 146) rfl (dc dl_X11_look 87 rfl)
                            · refine s_iload_n (pc := 147) (dc dl_X11_look 88 rfl) rfl rfl ?_
                              refine s_bipush (pc := 148) (v := 13) (dc dl_X11_look 89 rfl) bi_13 ?_
                              refine s_jn (pj := 163) (fun a5 : Int32 => [none, none]) (fun a5 : Int32 => [.int a5]) (fun a5 => ?_) (fun j4 hj4 => ?_)
                              · exact s_ireturn (pc := 163) rfl (dc dl_X11_look 95 rfl)
                              · refine s_icmp_ne (pc := 150) (tgt := 160) (dc dl_X11_look 90 rfl) rfl ?_ ?_
                                · refine s_aload_n (pc := 153) (dc dl_X11_look 91 rfl) rfl rfl ?_
                                  refine s_getI (pc := 154) fl_X11_128 lk_Mo_0 kk_Mo_0_3 (dc dl_X11_look 92 rfl) (fun v6 => ?_)
                                  refine s_goto (pc := 157) (tgt := 163) (dc dl_X11_look 93 rfl) rfl ?_
                                  exact s_wk (hj4 v6) rfl
                                · refine s_ldcw (pc := 160) (v := (-100000)) ct_X11_515 (dc dl_X11_look 94 rfl) ?_
                                  exact s_wk (hj4 ((-100000))) rfl
