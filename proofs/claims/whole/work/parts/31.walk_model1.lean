def gX11_isSign (x1 : Int32) : MM Int32 :=
  bd (ld 0 16) fun v1 =>
  jn (fun (a3 : Int32) =>
  rz a3) (fun j2 =>
  jn (fun (a5 : Unit) =>
  j2 0) (fun j4 =>
  (if v1 = 4 then
  bd (ld 0 17) fun v6 =>
  (if v6 = x1 then
  j2 1
  else
  j4 ())
  else
  j4 ())))
set_option maxHeartbeats 4000000 in
theorem cn_X11_isSign (l : Launch) (G : Gl) (hG : gOk G) (ad : Nat → Nat) (x1 : Int32) : Cn l G mX11_isSign 0 lay_Mo ad [.ref (ad 0), .int x1] (gX11_isSign x1) := by
  refine cn_of (lv := [some (.ref (ad 0)), some (.int x1)]) (by decide +kernel) rfl (Nat.le_of_ble_eq_true rfl) rfl ?_
  unfold gX11_isSign
  refine s_aload_n (pc := 0) (dc dl_X11_isSign 0 rfl) rfl rfl ?_
  refine s_getI (pc := 1) fl_X11_190 lk_Mo_0 kk_Mo_0_16 (dc dl_X11_isSign 1 rfl) (fun v1 => ?_)
  refine s_iconst (pc := 4) (v := 4) (dc dl_X11_isSign 2 rfl) ic_4 ?_
  refine s_jn (pj := 21) (fun a3 : Int32 => [none, none]) (fun a3 : Int32 => [.int a3]) (fun a3 => ?_) (fun j2 hj2 => ?_)
  · exact s_zreturn (pc := 21) rfl (dc dl_X11_isSign 11 rfl)
  · refine s_jn (pj := 20) (fun a5 : Unit => [none, none]) (fun a5 : Unit => []) (fun a5 => ?_) (fun j4 hj4 => ?_)
    · refine s_iconst (pc := 20) (v := 0) (dc dl_X11_isSign 10 rfl) ic_0 ?_
      exact s_wk (hj2 0) rfl
    · refine s_icmp_ne (pc := 5) (tgt := 20) (dc dl_X11_isSign 3 rfl) rfl ?_ ?_
      · refine s_aload_n (pc := 8) (dc dl_X11_isSign 4 rfl) rfl rfl ?_
        refine s_getI (pc := 9) fl_X11_193 lk_Mo_0 kk_Mo_0_17 (dc dl_X11_isSign 5 rfl) (fun v6 => ?_)
        refine s_iload_n (pc := 12) (dc dl_X11_isSign 6 rfl) rfl rfl ?_
        refine s_icmp_ne (pc := 13) (tgt := 20) (dc dl_X11_isSign 7 rfl) rfl ?_ ?_
        · refine s_iconst (pc := 16) (v := 1) (dc dl_X11_isSign 8 rfl) ic_1 ?_
          refine s_goto (pc := 17) (tgt := 21) (dc dl_X11_isSign 9 rfl) rfl ?_
          exact s_wk (hj2 1) rfl
        · exact s_wk (hj4 ()) rfl
      · exact s_wk (hj4 ()) rfl
def gX11_emits (x1 x2 : Int32) : MM Int32 :=
  bd (ld 0 27) fun v1 =>
  bd (sa 14 (800 + v1) x1) fun _ =>
  bd (ld 0 27) fun v2 =>
  bd (sa 15 (800 + v2) x2) fun _ =>
  bd (ld 0 27) fun v3 =>
  bd (sv 0 27 (v3 + 1)) fun _ =>
  pr 0
set_option maxHeartbeats 4000000 in
theorem cn_X11_emits (l : Launch) (G : Gl) (hG : gOk G) (ad : Nat → Nat) (x1 x2 : Int32) : Cn l G mX11_emits 0 lay_Mo ad [.ref (ad 0), .int x1, .int x2] (gX11_emits x1 x2) := by
  refine cn_of (lv := [some (.ref (ad 0)), some (.int x1), some (.int x2)]) (by decide +kernel) rfl (Nat.le_of_ble_eq_true rfl) rfl ?_
  unfold gX11_emits
  refine s_aload_n (pc := 0) (dc dl_X11_emits 0 rfl) rfl rfl ?_
  refine s_getR (pc := 1) fl_X11_49 lk_Mo_0 kk_Mo_0_24 (dc dl_X11_emits 1 rfl) ?_
  refine s_sipush (pc := 4) (v := 800) (dc dl_X11_emits 2 rfl) si_800 ?_
  refine s_aload_n (pc := 7) (dc dl_X11_emits 3 rfl) rfl rfl ?_
  refine s_getI (pc := 8) fl_X11_214 lk_Mo_0 kk_Mo_0_27 (dc dl_X11_emits 4 rfl) (fun v1 => ?_)
  refine s_iadd (pc := 11) (dc dl_X11_emits 5 rfl) ?_
  refine s_iload_n (pc := 12) (dc dl_X11_emits 6 rfl) rfl rfl ?_
  refine s_iast (pc := 13) lk_Mo_14 (dc dl_X11_emits 7 rfl) ?_
  refine s_aload_n (pc := 14) (dc dl_X11_emits 8 rfl) rfl rfl ?_
  refine s_getR (pc := 15) fl_X11_52 lk_Mo_0 kk_Mo_0_25 (dc dl_X11_emits 9 rfl) ?_
  refine s_sipush (pc := 18) (v := 800) (dc dl_X11_emits 10 rfl) si_800 ?_
  refine s_aload_n (pc := 21) (dc dl_X11_emits 11 rfl) rfl rfl ?_
  refine s_getI (pc := 22) fl_X11_214 lk_Mo_0 kk_Mo_0_27 (dc dl_X11_emits 12 rfl) (fun v2 => ?_)
  refine s_iadd (pc := 25) (dc dl_X11_emits 13 rfl) ?_
  refine s_iload_n (pc := 26) (dc dl_X11_emits 14 rfl) rfl rfl ?_
  refine s_iast (pc := 27) lk_Mo_15 (dc dl_X11_emits 15 rfl) ?_
  refine s_aload_n (pc := 28) (dc dl_X11_emits 16 rfl) rfl rfl ?_
  refine s_aload_n (pc := 29) (dc dl_X11_emits 17 rfl) rfl rfl ?_
  refine s_getI (pc := 30) fl_X11_214 lk_Mo_0 kk_Mo_0_27 (dc dl_X11_emits 18 rfl) (fun v3 => ?_)
  refine s_iconst (pc := 33) (v := 1) (dc dl_X11_emits 19 rfl) ic_1 ?_
  refine s_iadd (pc := 34) (dc dl_X11_emits 20 rfl) ?_
  refine s_putI (pc := 35) fw_X11_214 lk_Mo_0 kk_Mo_0_27 (dc dl_X11_emits 21 rfl) ?_
  exact s_return (pc := 38) rfl (dc dl_X11_emits 22 rfl)
def gX11_canAsk (x1 : Int32) : MM Int32 :=
  bd (gX11_isIn x1 7 15) fun r1 =>
  rz r1
set_option maxHeartbeats 4000000 in
theorem cn_X11_canAsk (l : Launch) (G : Gl) (hG : gOk G) (ad : Nat → Nat) (x1 : Int32) : Cn l G mX11_canAsk 1 lay_Mo ad [.ref (ad 0), .int x1] (gX11_canAsk x1) := by
  refine cn_of (lv := [some (.ref (ad 0)), some (.int x1)]) (by decide +kernel) rfl (Nat.le_of_ble_eq_true rfl) rfl ?_
  unfold gX11_canAsk
  refine s_aload_n (pc := 0) (dc dl_X11_canAsk 0 rfl) rfl rfl ?_
  refine s_iload_n (pc := 1) (dc dl_X11_canAsk 1 rfl) rfl rfl ?_
  refine s_bipush (pc := 2) (v := 7) (dc dl_X11_canAsk 2 rfl) bi_7 ?_
  refine s_bipush (pc := 4) (v := 15) (dc dl_X11_canAsk 3 rfl) bi_15 ?_
  refine s_call (pc := 6) (rest := []) hG (calls_V (mi := mX11_canAsk) (o := 0) (As := [.int x1, .int 7, .int 15]) (rest := []) hG (dc dl_X11_canAsk 4 rfl) mo_X11_isIn mv_X11_isIn ml_X11_150 ⟨Nat.le_of_ble_eq_true rfl, Nat.le_of_ble_eq_true rfl⟩ rfl rfl (Nat.le_of_ble_eq_true rfl) lk_Mo_0 rfl) (cn_X11_isIn l G hG ad x1 7 15) rfl (fun r1 => ?_)
  exact s_zreturn (pc := 9) rfl (dc dl_X11_canAsk 5 rfl)
def gX11_readUnit : MM Int32 :=
  bd (ld 0 16) fun v1 =>
  jn (fun (a3 : Int32) =>
  jn (fun (a5 : Unit) =>
  jn (fun (a7 : Int32) =>
  jn (fun (a9 : Int32) =>
  bd (gX11_emits a7 a9) fun r10 =>
  bd gX11_reads fun r11 =>
  pr 0) (fun j8 =>
  (if a3 = 0 then
  bd (ld 0 17) fun v12 =>
  j8 v12
  else
  bd (ld 0 17) fun v13 =>
  j8 (v13 - 7)))) (fun j6 =>
  (if a3 = 0 then
  j6 0
  else
  j6 1))) (fun j4 =>
  (if a3 = 0 then
  bd (ld 0 16) fun v14 =>
  (if v14 = 3 then
  j4 ()
  else
  bd (gX11_errs 1) fun r15 =>
  pr r15)
  else
  j4 ()))) (fun j2 =>
  jn (fun (a17 : Unit) =>
  j2 0) (fun j16 =>
  (if v1 = 2 then
  bd (ld 0 17) fun v18 =>
  bd (gX11_canAsk v18) fun r19 =>
  (if r19 = 0 then
  j16 ()
  else
  j2 1)
  else
  j16 ())))
set_option maxHeartbeats 4000000 in
theorem cn_X11_readUnit (l : Launch) (G : Gl) (hG : gOk G) (ad : Nat → Nat) : Cn l G mX11_readUnit 3 lay_Mo ad [.ref (ad 0)] (gX11_readUnit) := by
  refine cn_of (lv := [some (.ref (ad 0)), none]) (by decide +kernel) rfl (Nat.le_of_ble_eq_true rfl) rfl ?_
  unfold gX11_readUnit
  refine s_aload_n (pc := 0) (dc dl_X11_readUnit 0 rfl) rfl rfl ?_
  refine s_getI (pc := 1) fl_X11_190 lk_Mo_0 kk_Mo_0_16 (dc dl_X11_readUnit 1 rfl) (fun v1 => ?_)
  refine s_iconst (pc := 4) (v := 2) (dc dl_X11_readUnit 2 rfl) ic_2 ?_
  refine s_jn (pj := 24) (fun a3 : Int32 => [some (.ref (ad 0)), none]) (fun a3 : Int32 => [.int a3]) (fun a3 => ?_) (fun j2 hj2 => ?_)
  · refine s_istore_n (pc := 24) (lv' := [some (.ref (ad 0)), some (.int a3)]) (dc dl_X11_readUnit 12 rfl) rfl (Nat.le_of_ble_eq_true rfl) rfl ?_
    refine s_iload_n (pc := 25) (dc dl_X11_readUnit 13 rfl) rfl rfl ?_
    refine s_jn (pj := 43) (fun a5 : Unit => [some (.ref (ad 0)), some (.int a3)]) (fun a5 : Unit => []) (fun a5 => ?_) (fun j4 hj4 => ?_)
    · refine s_aload_n (pc := 43) (dc dl_X11_readUnit 23 rfl) rfl rfl ?_
      refine s_iload_n (pc := 44) (dc dl_X11_readUnit 24 rfl) rfl rfl ?_
      refine s_jn (pj := 53) (fun a7 : Int32 => [some (.ref (ad 0)), some (.int a3)]) (fun a7 : Int32 => [.int a7, .ref (ad 0)]) (fun a7 => ?_) (fun j6 hj6 => ?_)
      · refine s_iload_n (pc := 53) (dc dl_X11_readUnit 29 rfl) rfl rfl ?_
        refine s_jn (pj := 71) (fun a9 : Int32 => [some (.ref (ad 0)), none]) (fun a9 : Int32 => [.int a9, .int a7, .ref (ad 0)]) (fun a9 => ?_) (fun j8 hj8 => ?_)
        · refine s_callv (pc := 71) (rest := []) hG (calls_V (mi := mX11_readUnit) (o := 0) (As := [.int a7, .int a9]) (rest := []) hG (dc dl_X11_readUnit 38 rfl) mo_X11_emits mv_X11_emits ml_X11_223 ⟨Nat.le_of_ble_eq_true rfl, Nat.le_of_ble_eq_true rfl⟩ rfl rfl (Nat.le_of_ble_eq_true rfl) lk_Mo_0 rfl) (cn_X11_emits l G hG ad a7 a9) rfl (fun r10 => ?_)
          refine s_aload_n (pc := 74) (dc dl_X11_readUnit 39 rfl) rfl rfl ?_
          refine s_callv (pc := 75) (rest := []) hG (calls_V (mi := mX11_readUnit) (o := 0) (As := []) (rest := []) hG (dc dl_X11_readUnit 40 rfl) mo_X11_reads mv_X11_reads ml_X11_227 ⟨Nat.le_of_ble_eq_true rfl, Nat.le_of_ble_eq_true rfl⟩ rfl rfl (Nat.le_of_ble_eq_true rfl) lk_Mo_0 rfl) (cn_X11_reads l G hG ad) rfl (fun r11 => ?_)
          refine s_iconst (pc := 78) (v := 0) (dc dl_X11_readUnit 41 rfl) ic_0 ?_
          exact s_ireturn (pc := 79) rfl (dc dl_X11_readUnit 42 rfl)
        · refine s_if_eq (pc := 54) (tgt := 67) (dc dl_X11_readUnit 30 rfl) rfl ?_ ?_
          · refine s_aload_n (pc := 67) (dc dl_X11_readUnit 36 rfl) rfl rfl ?_
            refine s_getI (pc := 68) fl_X11_193 lk_Mo_0 kk_Mo_0_17 (dc dl_X11_readUnit 37 rfl) (fun v12 => ?_)
            exact s_wk (hj8 v12) rfl
          · refine s_aload_n (pc := 57) (dc dl_X11_readUnit 31 rfl) rfl rfl ?_
            refine s_getI (pc := 58) fl_X11_193 lk_Mo_0 kk_Mo_0_17 (dc dl_X11_readUnit 32 rfl) (fun v13 => ?_)
            refine s_bipush (pc := 61) (v := 7) (dc dl_X11_readUnit 33 rfl) bi_7 ?_
            refine s_isub (pc := 63) (dc dl_X11_readUnit 34 rfl) ?_
            refine s_goto (pc := 64) (tgt := 71) (dc dl_X11_readUnit 35 rfl) rfl ?_
            exact s_wk (hj8 (v13 - 7)) rfl
      · refine s_if_eq (pc := 45) (tgt := 52) (dc dl_X11_readUnit 25 rfl) rfl ?_ ?_
        · refine s_iconst (pc := 52) (v := 0) (dc dl_X11_readUnit 28 rfl) ic_0 ?_
          exact s_wk (hj6 0) rfl
        · refine s_iconst (pc := 48) (v := 1) (dc dl_X11_readUnit 26 rfl) ic_1 ?_
          refine s_goto (pc := 49) (tgt := 53) (dc dl_X11_readUnit 27 rfl) rfl ?_
          exact s_wk (hj6 1) rfl
    · refine s_if_ne (pc := 26) (tgt := 43) (dc dl_X11_readUnit 14 rfl) rfl ?_ ?_
      · refine s_aload_n (pc := 29) (dc dl_X11_readUnit 15 rfl) rfl rfl ?_
        refine s_getI (pc := 30) fl_X11_190 lk_Mo_0 kk_Mo_0_16 (dc dl_X11_readUnit 16 rfl) (fun v14 => ?_)
        refine s_iconst (pc := 33) (v := 3) (dc dl_X11_readUnit 17 rfl) ic_3 ?_
        refine s_icmp_eq (pc := 34) (tgt := 43) (dc dl_X11_readUnit 18 rfl) rfl ?_ ?_
        · exact s_wk (hj4 ()) rfl
        · refine s_aload_n (pc := 37) (dc dl_X11_readUnit 19 rfl) rfl rfl ?_
          refine s_iconst (pc := 38) (v := 1) (dc dl_X11_readUnit 20 rfl) ic_1 ?_
          refine s_call (pc := 39) (rest := []) hG (calls_V (mi := mX11_readUnit) (o := 0) (As := [.int 1]) (rest := []) hG (dc dl_X11_readUnit 21 rfl) mo_X11_errs mv_X11_errs ml_X11_220 ⟨Nat.le_of_ble_eq_true rfl, Nat.le_of_ble_eq_true rfl⟩ rfl rfl (Nat.le_of_ble_eq_true rfl) lk_Mo_0 rfl) (cn_X11_errs l G hG ad 1) rfl (fun r15 => ?_)
          exact s_ireturn (pc := 42) rfl (dc dl_X11_readUnit 22 rfl)
      · exact s_wk (hj4 ()) rfl
  · refine s_jn (pj := 23) (fun a17 : Unit => [some (.ref (ad 0)), none]) (fun a17 : Unit => []) (fun a17 => ?_) (fun j16 hj16 => ?_)
    · refine s_iconst (pc := 23) (v := 0) (dc dl_X11_readUnit 11 rfl) ic_0 ?_
      exact s_wk (hj2 0) rfl
    · refine s_icmp_ne (pc := 5) (tgt := 23) (dc dl_X11_readUnit 3 rfl) rfl ?_ ?_
      · refine s_aload_n (pc := 8) (dc dl_X11_readUnit 4 rfl) rfl rfl ?_
        refine s_aload_n (pc := 9) (dc dl_X11_readUnit 5 rfl) rfl rfl ?_
        refine s_getI (pc := 10) fl_X11_193 lk_Mo_0 kk_Mo_0_17 (dc dl_X11_readUnit 6 rfl) (fun v18 => ?_)
        refine s_call (pc := 13) (rest := []) hG (calls_V (mi := mX11_readUnit) (o := 0) (As := [.int v18]) (rest := []) hG (dc dl_X11_readUnit 7 rfl) mo_X11_canAsk mv_X11_canAsk ml_X11_217 ⟨Nat.le_of_ble_eq_true rfl, Nat.le_of_ble_eq_true rfl⟩ rfl rfl (Nat.le_of_ble_eq_true rfl) lk_Mo_0 rfl) (cn_X11_canAsk l G hG ad v18) rfl (fun r19 => ?_)
        refine s_if_eq (pc := 16) (tgt := 23) (dc dl_X11_readUnit 8 rfl) rfl ?_ ?_
        · exact s_wk (hj16 ()) rfl
        · refine s_iconst (pc := 19) (v := 1) (dc dl_X11_readUnit 9 rfl) ic_1 ?_
          refine s_goto (pc := 20) (tgt := 24) (dc dl_X11_readUnit 10 rfl) rfl ?_
          exact s_wk (hj2 1) rfl
      · exact s_wk (hj16 ()) rfl
def gX11_readProduct : MM Int32 :=
  bd gX11_readUnit fun r1 =>
  (if r1 = ((-1)) then
  pr ((-1))
  else
  loopC 100000 (fun (self2 : Unit → MM Int32) (s3 : Unit) =>
  bd (gX11_isSign 42) fun r4 =>
  jn (fun (a6 : Unit) =>
  bd (gX11_isSign 42) fun r7 =>
  bd gX11_reads fun r8 =>
  jn (fun (a10 : Unit) =>
  jn (fun (a12 : Unit) =>
  bd gX11_readUnit fun r13 =>
  (if r13 = ((-1)) then
  pr ((-1))
  else
  jn (fun (a15 : Int32) =>
  bd (gX11_emits a15 0) fun r16 =>
  self2 ()) (fun j14 =>
  (if r7 = 0 then
  j14 5
  else
  j14 4)))) (fun j11 =>
  (if r7 = 0 then
  bd (ld 0 17) fun v17 =>
  (if v17 = 0 then
  bd (gX11_errs 2) fun r18 =>
  pr r18
  else
  j11 ())
  else
  j11 ()))) (fun j9 =>
  (if r7 = 0 then
  bd (ld 0 16) fun v19 =>
  (if v19 = 3 then
  j9 ()
  else
  bd (gX11_errs 1) fun r20 =>
  pr r20)
  else
  j9 ()))) (fun j5 =>
  (if r4 = 0 then
  bd (gX11_isSign 47) fun r21 =>
  (if r21 = 0 then
  pr 0
  else
  j5 ())
  else
  j5 ()))) ())
set_option maxHeartbeats 4000000 in
theorem cn_X11_readProduct (l : Launch) (G : Gl) (hG : gOk G) (ad : Nat → Nat) : Cn l G mX11_readProduct 4 lay_Mo ad [.ref (ad 0)] (gX11_readProduct) := by
  refine cn_of (lv := [some (.ref (ad 0)), none]) (by decide +kernel) rfl (Nat.le_of_ble_eq_true rfl) rfl ?_
  unfold gX11_readProduct
  refine s_aload_n (pc := 0) (dc dl_X11_readProduct 0 rfl) rfl rfl ?_
  refine s_call (pc := 1) (rest := []) hG (calls_V (mi := mX11_readProduct) (o := 0) (As := []) (rest := []) hG (dc dl_X11_readProduct 1 rfl) mo_X11_readUnit mv_X11_readUnit ml_X11_230 ⟨Nat.le_of_ble_eq_true rfl, Nat.le_of_ble_eq_true rfl⟩ rfl rfl (Nat.le_of_ble_eq_true rfl) lk_Mo_0 rfl) (cn_X11_readUnit l G hG ad) rfl (fun r1 => ?_)
  refine s_iconst (pc := 4) (v := (-1)) (dc dl_X11_readProduct 2 rfl) ic_m1 ?_
  refine s_icmp_ne (pc := 5) (tgt := 10) (dc dl_X11_readProduct 3 rfl) rfl ?_ ?_
  · refine s_iconst (pc := 8) (v := (-1)) (dc dl_X11_readProduct 4 rfl) ic_m1 ?_
    exact s_ireturn (pc := 9) rfl (dc dl_X11_readProduct 5 rfl)
  · refine s_weak (lv' := [some (.ref (ad 0)), none]) rfl ?_
    refine s_loop (pc := 10) (fun s3 : Unit => [some (.ref (ad 0)), none]) [] (fun self2 hself2 s3 => ?_) _ ()
    refine s_aload_n (pc := 10) (dc dl_X11_readProduct 6 rfl) rfl rfl ?_
    refine s_bipush (pc := 11) (v := 42) (dc dl_X11_readProduct 7 rfl) bi_42 ?_
    refine s_call (pc := 13) (rest := []) hG (calls_V (mi := mX11_readProduct) (o := 0) (As := [.int 42]) (rest := []) hG (dc dl_X11_readProduct 8 rfl) mo_X11_isSign mv_X11_isSign ml_X11_234 ⟨Nat.le_of_ble_eq_true rfl, Nat.le_of_ble_eq_true rfl⟩ rfl rfl (Nat.le_of_ble_eq_true rfl) lk_Mo_0 rfl) (cn_X11_isSign l G hG ad 42) rfl (fun r4 => ?_)
    refine s_jn (pj := 28) (fun a6 : Unit => [some (.ref (ad 0)), none]) (fun a6 : Unit => []) (fun a6 => ?_) (fun j5 hj5 => ?_)
    · refine s_aload_n (pc := 28) (dc dl_X11_readProduct 14 rfl) rfl rfl ?_
      refine s_bipush (pc := 29) (v := 42) (dc dl_X11_readProduct 15 rfl) bi_42 ?_
      refine s_call (pc := 31) (rest := []) hG (calls_V (mi := mX11_readProduct) (o := 0) (As := [.int 42]) (rest := []) hG (dc dl_X11_readProduct 16 rfl) mo_X11_isSign mv_X11_isSign ml_X11_234 ⟨Nat.le_of_ble_eq_true rfl, Nat.le_of_ble_eq_true rfl⟩ rfl rfl (Nat.le_of_ble_eq_true rfl) lk_Mo_0 rfl) (cn_X11_isSign l G hG ad 42) rfl (fun r7 => ?_)
      refine s_istore_n (pc := 34) (lv' := [some (.ref (ad 0)), some (.int r7)]) (dc dl_X11_readProduct 17 rfl) rfl (Nat.le_of_ble_eq_true rfl) rfl ?_
      refine s_aload_n (pc := 35) (dc dl_X11_readProduct 18 rfl) rfl rfl ?_
      refine s_callv (pc := 36) (rest := []) hG (calls_V (mi := mX11_readProduct) (o := 0) (As := []) (rest := []) hG (dc dl_X11_readProduct 19 rfl) mo_X11_reads mv_X11_reads ml_X11_227 ⟨Nat.le_of_ble_eq_true rfl, Nat.le_of_ble_eq_true rfl⟩ rfl rfl (Nat.le_of_ble_eq_true rfl) lk_Mo_0 rfl) (cn_X11_reads l G hG ad) rfl (fun r8 => ?_)
      refine s_iload_n (pc := 39) (dc dl_X11_readProduct 20 rfl) rfl rfl ?_
      refine s_jn (pj := 57) (fun a10 : Unit => [some (.ref (ad 0)), some (.int r7)]) (fun a10 : Unit => []) (fun a10 => ?_) (fun j9 hj9 => ?_)
      · refine s_iload_n (pc := 57) (dc dl_X11_readProduct 30 rfl) rfl rfl ?_
        refine s_jn (pj := 74) (fun a12 : Unit => [some (.ref (ad 0)), some (.int r7)]) (fun a12 : Unit => []) (fun a12 => ?_) (fun j11 hj11 => ?_)
        · refine s_aload_n (pc := 74) (dc dl_X11_readProduct 39 rfl) rfl rfl ?_
          refine s_call (pc := 75) (rest := []) hG (calls_V (mi := mX11_readProduct) (o := 0) (As := []) (rest := []) hG (dc dl_X11_readProduct 40 rfl) mo_X11_readUnit mv_X11_readUnit ml_X11_230 ⟨Nat.le_of_ble_eq_true rfl, Nat.le_of_ble_eq_true rfl⟩ rfl rfl (Nat.le_of_ble_eq_true rfl) lk_Mo_0 rfl) (cn_X11_readUnit l G hG ad) rfl (fun r13 => ?_)
          refine s_iconst (pc := 78) (v := (-1)) (dc dl_X11_readProduct 41 rfl) ic_m1 ?_
          refine s_icmp_ne (pc := 79) (tgt := 84) (dc dl_X11_readProduct 42 rfl) rfl ?_ ?_
          · refine s_iconst (pc := 82) (v := (-1)) (dc dl_X11_readProduct 43 rfl) ic_m1 ?_
            exact s_ireturn (pc := 83) rfl (dc dl_X11_readProduct 44 rfl)
          · refine s_aload_n (pc := 84) (dc dl_X11_readProduct 45 rfl) rfl rfl ?_
            refine s_iload_n (pc := 85) (dc dl_X11_readProduct 46 rfl) rfl rfl ?_
            refine s_jn (pj := 94) (fun a15 : Int32 => [some (.ref (ad 0)), none]) (fun a15 : Int32 => [.int a15, .ref (ad 0)]) (fun a15 => ?_) (fun j14 hj14 => ?_)
            · refine s_iconst (pc := 94) (v := 0) (dc dl_X11_readProduct 51 rfl) ic_0 ?_
              refine s_callv (pc := 95) (rest := []) hG (calls_V (mi := mX11_readProduct) (o := 0) (As := [.int a15, .int 0]) (rest := []) hG (dc dl_X11_readProduct 52 rfl) mo_X11_emits mv_X11_emits ml_X11_223 ⟨Nat.le_of_ble_eq_true rfl, Nat.le_of_ble_eq_true rfl⟩ rfl rfl (Nat.le_of_ble_eq_true rfl) lk_Mo_0 rfl) (cn_X11_emits l G hG ad a15 0) rfl (fun r16 => ?_)
              refine s_goto (pc := 98) (tgt := 10) (dc dl_X11_readProduct 53 rfl) rfl ?_
              exact s_wk (hself2 ()) rfl
            · refine s_if_eq (pc := 86) (tgt := 93) (dc dl_X11_readProduct 47 rfl) rfl ?_ ?_
              · refine s_iconst (pc := 93) (v := 5) (dc dl_X11_readProduct 50 rfl) ic_5 ?_
                exact s_wk (hj14 5) rfl
              · refine s_iconst (pc := 89) (v := 4) (dc dl_X11_readProduct 48 rfl) ic_4 ?_
                refine s_goto (pc := 90) (tgt := 94) (dc dl_X11_readProduct 49 rfl) rfl ?_
                exact s_wk (hj14 4) rfl
        · refine s_if_ne (pc := 58) (tgt := 74) (dc dl_X11_readProduct 31 rfl) rfl ?_ ?_
          · refine s_aload_n (pc := 61) (dc dl_X11_readProduct 32 rfl) rfl rfl ?_
            refine s_getI (pc := 62) fl_X11_193 lk_Mo_0 kk_Mo_0_17 (dc dl_X11_readProduct 33 rfl) (fun v17 => ?_)
            refine s_if_ne (pc := 65) (tgt := 74) (dc dl_X11_readProduct 34 rfl) rfl ?_ ?_
            · refine s_aload_n (pc := 68) (dc dl_X11_readProduct 35 rfl) rfl rfl ?_
              refine s_iconst (pc := 69) (v := 2) (dc dl_X11_readProduct 36 rfl) ic_2 ?_
              refine s_call (pc := 70) (rest := []) hG (calls_V (mi := mX11_readProduct) (o := 0) (As := [.int 2]) (rest := []) hG (dc dl_X11_readProduct 37 rfl) mo_X11_errs mv_X11_errs ml_X11_220 ⟨Nat.le_of_ble_eq_true rfl, Nat.le_of_ble_eq_true rfl⟩ rfl rfl (Nat.le_of_ble_eq_true rfl) lk_Mo_0 rfl) (cn_X11_errs l G hG ad 2) rfl (fun r18 => ?_)
              exact s_ireturn (pc := 73) rfl (dc dl_X11_readProduct 38 rfl)
            · exact s_wk (hj11 ()) rfl
          · exact s_wk (hj11 ()) rfl
      · refine s_if_ne (pc := 40) (tgt := 57) (dc dl_X11_readProduct 21 rfl) rfl ?_ ?_
        · refine s_aload_n (pc := 43) (dc dl_X11_readProduct 22 rfl) rfl rfl ?_
          refine s_getI (pc := 44) fl_X11_190 lk_Mo_0 kk_Mo_0_16 (dc dl_X11_readProduct 23 rfl) (fun v19 => ?_)
          refine s_iconst (pc := 47) (v := 3) (dc dl_X11_readProduct 24 rfl) ic_3 ?_
          refine s_icmp_eq (pc := 48) (tgt := 57) (dc dl_X11_readProduct 25 rfl) rfl ?_ ?_
          · exact s_wk (hj9 ()) rfl
          · refine s_aload_n (pc := 51) (dc dl_X11_readProduct 26 rfl) rfl rfl ?_
            refine s_iconst (pc := 52) (v := 1) (dc dl_X11_readProduct 27 rfl) ic_1 ?_
            refine s_call (pc := 53) (rest := []) hG (calls_V (mi := mX11_readProduct) (o := 0) (As := [.int 1]) (rest := []) hG (dc dl_X11_readProduct 28 rfl) mo_X11_errs mv_X11_errs ml_X11_220 ⟨Nat.le_of_ble_eq_true rfl, Nat.le_of_ble_eq_true rfl⟩ rfl rfl (Nat.le_of_ble_eq_true rfl) lk_Mo_0 rfl) (cn_X11_errs l G hG ad 1) rfl (fun r20 => ?_)
            exact s_ireturn (pc := 56) rfl (dc dl_X11_readProduct 29 rfl)
        · exact s_wk (hj9 ()) rfl
    · refine s_if_ne (pc := 16) (tgt := 28) (dc dl_X11_readProduct 9 rfl) rfl ?_ ?_
      · refine s_aload_n (pc := 19) (dc dl_X11_readProduct 10 rfl) rfl rfl ?_
        refine s_bipush (pc := 20) (v := 47) (dc dl_X11_readProduct 11 rfl) bi_47 ?_
        refine s_call (pc := 22) (rest := []) hG (calls_V (mi := mX11_readProduct) (o := 0) (As := [.int 47]) (rest := []) hG (dc dl_X11_readProduct 12 rfl) mo_X11_isSign mv_X11_isSign ml_X11_234 ⟨Nat.le_of_ble_eq_true rfl, Nat.le_of_ble_eq_true rfl⟩ rfl rfl (Nat.le_of_ble_eq_true rfl) lk_Mo_0 rfl) (cn_X11_isSign l G hG ad 47) rfl (fun r21 => ?_)
        refine s_if_eq (pc := 25) (tgt := 101) (dc dl_X11_readProduct 13 rfl) rfl ?_ ?_
        · refine s_iconst (pc := 101) (v := 0) (dc dl_X11_readProduct 54 rfl) ic_0 ?_
          exact s_ireturn (pc := 102) rfl (dc dl_X11_readProduct 55 rfl)
        · exact s_wk (hj5 ()) rfl
      · exact s_wk (hj5 ()) rfl
def gX11_readSum : MM Int32 :=
  bd gX11_readProduct fun r1 =>
  (if r1 = ((-1)) then
  pr ((-1))
  else
  loopC 100000 (fun (self2 : Unit → MM Int32) (s3 : Unit) =>
  bd (gX11_isSign 43) fun r4 =>
  jn (fun (a6 : Unit) =>
  bd (ld 0 17) fun v7 =>
  jn (fun (a9 : Int32) =>
  bd gX11_reads fun r10 =>
  bd gX11_readProduct fun r11 =>
  (if r11 = ((-1)) then
  pr ((-1))
  else
  bd (gX11_emits a9 0) fun r12 =>
  self2 ())) (fun j8 =>
  (if v7 = 43 then
  j8 2
  else
  j8 3))) (fun j5 =>
  (if r4 = 0 then
  bd (gX11_isSign 45) fun r13 =>
  (if r13 = 0 then
  pr 0
  else
  j5 ())
  else
  j5 ()))) ())
set_option maxHeartbeats 4000000 in
theorem cn_X11_readSum (l : Launch) (G : Gl) (hG : gOk G) (ad : Nat → Nat) : Cn l G mX11_readSum 5 lay_Mo ad [.ref (ad 0)] (gX11_readSum) := by
  refine cn_of (lv := [some (.ref (ad 0)), none]) (by decide +kernel) rfl (Nat.le_of_ble_eq_true rfl) rfl ?_
  unfold gX11_readSum
  refine s_aload_n (pc := 0) (dc dl_X11_readSum 0 rfl) rfl rfl ?_
  refine s_call (pc := 1) (rest := []) hG (calls_V (mi := mX11_readSum) (o := 0) (As := []) (rest := []) hG (dc dl_X11_readSum 1 rfl) mo_X11_readProduct mv_X11_readProduct ml_X11_237 ⟨Nat.le_of_ble_eq_true rfl, Nat.le_of_ble_eq_true rfl⟩ rfl rfl (Nat.le_of_ble_eq_true rfl) lk_Mo_0 rfl) (cn_X11_readProduct l G hG ad) rfl (fun r1 => ?_)
  refine s_iconst (pc := 4) (v := (-1)) (dc dl_X11_readSum 2 rfl) ic_m1 ?_
  refine s_icmp_ne (pc := 5) (tgt := 10) (dc dl_X11_readSum 3 rfl) rfl ?_ ?_
  · refine s_iconst (pc := 8) (v := (-1)) (dc dl_X11_readSum 4 rfl) ic_m1 ?_
    exact s_ireturn (pc := 9) rfl (dc dl_X11_readSum 5 rfl)
  · refine s_weak (lv' := [some (.ref (ad 0)), none]) rfl ?_
    refine s_loop (pc := 10) (fun s3 : Unit => [some (.ref (ad 0)), none]) [] (fun self2 hself2 s3 => ?_) _ ()
    refine s_aload_n (pc := 10) (dc dl_X11_readSum 6 rfl) rfl rfl ?_
    refine s_bipush (pc := 11) (v := 43) (dc dl_X11_readSum 7 rfl) bi_43 ?_
    refine s_call (pc := 13) (rest := []) hG (calls_V (mi := mX11_readSum) (o := 0) (As := [.int 43]) (rest := []) hG (dc dl_X11_readSum 8 rfl) mo_X11_isSign mv_X11_isSign ml_X11_234 ⟨Nat.le_of_ble_eq_true rfl, Nat.le_of_ble_eq_true rfl⟩ rfl rfl (Nat.le_of_ble_eq_true rfl) lk_Mo_0 rfl) (cn_X11_isSign l G hG ad 43) rfl (fun r4 => ?_)
    refine s_jn (pj := 28) (fun a6 : Unit => [some (.ref (ad 0)), none]) (fun a6 : Unit => []) (fun a6 => ?_) (fun j5 hj5 => ?_)
    · refine s_aload_n (pc := 28) (dc dl_X11_readSum 14 rfl) rfl rfl ?_
      refine s_getI (pc := 29) fl_X11_193 lk_Mo_0 kk_Mo_0_17 (dc dl_X11_readSum 15 rfl) (fun v7 => ?_)
      refine s_bipush (pc := 32) (v := 43) (dc dl_X11_readSum 16 rfl) bi_43 ?_
      refine s_jn (pj := 42) (fun a9 : Int32 => [some (.ref (ad 0)), none]) (fun a9 : Int32 => [.int a9]) (fun a9 => ?_) (fun j8 hj8 => ?_)
      · refine s_istore_n (pc := 42) (lv' := [some (.ref (ad 0)), some (.int a9)]) (dc dl_X11_readSum 21 rfl) rfl (Nat.le_of_ble_eq_true rfl) rfl ?_
        refine s_aload_n (pc := 43) (dc dl_X11_readSum 22 rfl) rfl rfl ?_
        refine s_callv (pc := 44) (rest := []) hG (calls_V (mi := mX11_readSum) (o := 0) (As := []) (rest := []) hG (dc dl_X11_readSum 23 rfl) mo_X11_reads mv_X11_reads ml_X11_227 ⟨Nat.le_of_ble_eq_true rfl, Nat.le_of_ble_eq_true rfl⟩ rfl rfl (Nat.le_of_ble_eq_true rfl) lk_Mo_0 rfl) (cn_X11_reads l G hG ad) rfl (fun r10 => ?_)
        refine s_aload_n (pc := 47) (dc dl_X11_readSum 24 rfl) rfl rfl ?_
        refine s_call (pc := 48) (rest := []) hG (calls_V (mi := mX11_readSum) (o := 0) (As := []) (rest := []) hG (dc dl_X11_readSum 25 rfl) mo_X11_readProduct mv_X11_readProduct ml_X11_237 ⟨Nat.le_of_ble_eq_true rfl, Nat.le_of_ble_eq_true rfl⟩ rfl rfl (Nat.le_of_ble_eq_true rfl) lk_Mo_0 rfl) (cn_X11_readProduct l G hG ad) rfl (fun r11 => ?_)
        refine s_iconst (pc := 51) (v := (-1)) (dc dl_X11_readSum 26 rfl) ic_m1 ?_
        refine s_icmp_ne (pc := 52) (tgt := 57) (dc dl_X11_readSum 27 rfl) rfl ?_ ?_
        · refine s_iconst (pc := 55) (v := (-1)) (dc dl_X11_readSum 28 rfl) ic_m1 ?_
          exact s_ireturn (pc := 56) rfl (dc dl_X11_readSum 29 rfl)
        · refine s_aload_n (pc := 57) (dc dl_X11_readSum 30 rfl) rfl rfl ?_
          refine s_iload_n (pc := 58) (dc dl_X11_readSum 31 rfl) rfl rfl ?_
          refine s_iconst (pc := 59) (v := 0) (dc dl_X11_readSum 32 rfl) ic_0 ?_
          refine s_callv (pc := 60) (rest := []) hG (calls_V (mi := mX11_readSum) (o := 0) (As := [.int a9, .int 0]) (rest := []) hG (dc dl_X11_readSum 33 rfl) mo_X11_emits mv_X11_emits ml_X11_223 ⟨Nat.le_of_ble_eq_true rfl, Nat.le_of_ble_eq_true rfl⟩ rfl rfl (Nat.le_of_ble_eq_true rfl) lk_Mo_0 rfl) (cn_X11_emits l G hG ad a9 0) rfl (fun r12 => ?_)
          refine s_goto (pc := 63) (tgt := 10) (dc dl_X11_readSum 34 rfl) rfl ?_
          exact s_wk (hself2 ()) rfl
      · refine s_icmp_ne (pc := 34) (tgt := 41) (dc dl_X11_readSum 17 rfl) rfl ?_ ?_
        · refine s_iconst (pc := 37) (v := 2) (dc dl_X11_readSum 18 rfl) ic_2 ?_
          refine s_goto (pc := 38) (tgt := 42) (dc dl_X11_readSum 19 rfl) rfl ?_
          exact s_wk (hj8 2) rfl
        · refine s_iconst (pc := 41) (v := 3) (dc dl_X11_readSum 20 rfl) ic_3 ?_
          exact s_wk (hj8 3) rfl
    · refine s_if_ne (pc := 16) (tgt := 28) (dc dl_X11_readSum 9 rfl) rfl ?_ ?_
      · refine s_aload_n (pc := 19) (dc dl_X11_readSum 10 rfl) rfl rfl ?_
        refine s_bipush (pc := 20) (v := 45) (dc dl_X11_readSum 11 rfl) bi_45 ?_
        refine s_call (pc := 22) (rest := []) hG (calls_V (mi := mX11_readSum) (o := 0) (As := [.int 45]) (rest := []) hG (dc dl_X11_readSum 12 rfl) mo_X11_isSign mv_X11_isSign ml_X11_234 ⟨Nat.le_of_ble_eq_true rfl, Nat.le_of_ble_eq_true rfl⟩ rfl rfl (Nat.le_of_ble_eq_true rfl) lk_Mo_0 rfl) (cn_X11_isSign l G hG ad 45) rfl (fun r13 => ?_)
        refine s_if_eq (pc := 25) (tgt := 66) (dc dl_X11_readSum 13 rfl) rfl ?_ ?_
        · refine s_iconst (pc := 66) (v := 0) (dc dl_X11_readSum 35 rfl) ic_0 ?_
          exact s_ireturn (pc := 67) rfl (dc dl_X11_readSum 36 rfl)
        · exact s_wk (hj5 ()) rfl
      · exact s_wk (hj5 ()) rfl
def gX11_readCompared : MM Int32 :=
  bd gX11_readSum fun r1 =>
  (if r1 = ((-1)) then
  pr ((-1))
  else
  bd (gX11_isSign 60) fun r2 =>
  jn (fun (a4 : Unit) =>
  bd (ld 0 17) fun v5 =>
  jn (fun (a7 : Int32) =>
  bd gX11_reads fun r8 =>
  bd gX11_readSum fun r9 =>
  (if r9 = ((-1)) then
  pr ((-1))
  else
  bd (gX11_emits a7 0) fun r10 =>
  pr 0)) (fun j6 =>
  (if v5 = 60 then
  j6 6
  else
  bd (ld 0 17) fun v11 =>
  (if v11 = 61 then
  j6 7
  else
  j6 8)))) (fun j3 =>
  (if r2 = 0 then
  bd (gX11_isSign 61) fun r12 =>
  (if r12 = 0 then
  bd (gX11_isSign 62) fun r13 =>
  (if r13 = 0 then
  bd (gX11_errs 1) fun r14 =>
  pr r14
  else
  j3 ())
  else
  j3 ())
  else
  j3 ())))
set_option maxHeartbeats 4000000 in
theorem cn_X11_readCompared (l : Launch) (G : Gl) (hG : gOk G) (ad : Nat → Nat) : Cn l G mX11_readCompared 6 lay_Mo ad [.ref (ad 0)] (gX11_readCompared) := by
  refine cn_of (lv := [some (.ref (ad 0)), none]) (by decide +kernel) rfl (Nat.le_of_ble_eq_true rfl) rfl ?_
  unfold gX11_readCompared
  refine s_aload_n (pc := 0) (dc dl_X11_readCompared 0 rfl) rfl rfl ?_
  refine s_call (pc := 1) (rest := []) hG (calls_V (mi := mX11_readCompared) (o := 0) (As := []) (rest := []) hG (dc dl_X11_readCompared 1 rfl) mo_X11_readSum mv_X11_readSum ml_X11_240 ⟨Nat.le_of_ble_eq_true rfl, Nat.le_of_ble_eq_true rfl⟩ rfl rfl (Nat.le_of_ble_eq_true rfl) lk_Mo_0 rfl) (cn_X11_readSum l G hG ad) rfl (fun r1 => ?_)
  refine s_iconst (pc := 4) (v := (-1)) (dc dl_X11_readCompared 2 rfl) ic_m1 ?_
  refine s_icmp_ne (pc := 5) (tgt := 10) (dc dl_X11_readCompared 3 rfl) rfl ?_ ?_
  · refine s_iconst (pc := 8) (v := (-1)) (dc dl_X11_readCompared 4 rfl) ic_m1 ?_
    exact s_ireturn (pc := 9) rfl (dc dl_X11_readCompared 5 rfl)
  · refine s_aload_n (pc := 10) (dc dl_X11_readCompared 6 rfl) rfl rfl ?_
    refine s_bipush (pc := 11) (v := 60) (dc dl_X11_readCompared 7 rfl) bi_60 ?_
    refine s_call (pc := 13) (rest := []) hG (calls_V (mi := mX11_readCompared) (o := 0) (As := [.int 60]) (rest := []) hG (dc dl_X11_readCompared 8 rfl) mo_X11_isSign mv_X11_isSign ml_X11_234 ⟨Nat.le_of_ble_eq_true rfl, Nat.le_of_ble_eq_true rfl⟩ rfl rfl (Nat.le_of_ble_eq_true rfl) lk_Mo_0 rfl) (cn_X11_isSign l G hG ad 60) rfl (fun r2 => ?_)
    refine s_jn (pj := 43) (fun a4 : Unit => [some (.ref (ad 0)), none]) (fun a4 : Unit => []) (fun a4 => ?_) (fun j3 hj3 => ?_)
    · refine s_aload_n (pc := 43) (dc dl_X11_readCompared 22 rfl) rfl rfl ?_
      refine s_getI (pc := 44) fl_X11_193 lk_Mo_0 kk_Mo_0_17 (dc dl_X11_readCompared 23 rfl) (fun v5 => ?_)
      refine s_bipush (pc := 47) (v := 60) (dc dl_X11_readCompared 24 rfl) bi_60 ?_
      refine s_jn (pj := 73) (fun a7 : Int32 => [some (.ref (ad 0)), none]) (fun a7 : Int32 => [.int a7]) (fun a7 => ?_) (fun j6 hj6 => ?_)
      · refine s_istore_n (pc := 73) (lv' := [some (.ref (ad 0)), some (.int a7)]) (dc dl_X11_readCompared 35 rfl) rfl (Nat.le_of_ble_eq_true rfl) rfl ?_
        refine s_aload_n (pc := 74) (dc dl_X11_readCompared 36 rfl) rfl rfl ?_
        refine s_callv (pc := 75) (rest := []) hG (calls_V (mi := mX11_readCompared) (o := 0) (As := []) (rest := []) hG (dc dl_X11_readCompared 37 rfl) mo_X11_reads mv_X11_reads ml_X11_227 ⟨Nat.le_of_ble_eq_true rfl, Nat.le_of_ble_eq_true rfl⟩ rfl rfl (Nat.le_of_ble_eq_true rfl) lk_Mo_0 rfl) (cn_X11_reads l G hG ad) rfl (fun r8 => ?_)
        refine s_aload_n (pc := 78) (dc dl_X11_readCompared 38 rfl) rfl rfl ?_
        refine s_call (pc := 79) (rest := []) hG (calls_V (mi := mX11_readCompared) (o := 0) (As := []) (rest := []) hG (dc dl_X11_readCompared 39 rfl) mo_X11_readSum mv_X11_readSum ml_X11_240 ⟨Nat.le_of_ble_eq_true rfl, Nat.le_of_ble_eq_true rfl⟩ rfl rfl (Nat.le_of_ble_eq_true rfl) lk_Mo_0 rfl) (cn_X11_readSum l G hG ad) rfl (fun r9 => ?_)
        refine s_iconst (pc := 82) (v := (-1)) (dc dl_X11_readCompared 40 rfl) ic_m1 ?_
        refine s_icmp_ne (pc := 83) (tgt := 88) (dc dl_X11_readCompared 41 rfl) rfl ?_ ?_
        · refine s_iconst (pc := 86) (v := (-1)) (dc dl_X11_readCompared 42 rfl) ic_m1 ?_
          exact s_ireturn (pc := 87) rfl (dc dl_X11_readCompared 43 rfl)
        · refine s_aload_n (pc := 88) (dc dl_X11_readCompared 44 rfl) rfl rfl ?_
          refine s_iload_n (pc := 89) (dc dl_X11_readCompared 45 rfl) rfl rfl ?_
          refine s_iconst (pc := 90) (v := 0) (dc dl_X11_readCompared 46 rfl) ic_0 ?_
          refine s_callv (pc := 91) (rest := []) hG (calls_V (mi := mX11_readCompared) (o := 0) (As := [.int a7, .int 0]) (rest := []) hG (dc dl_X11_readCompared 47 rfl) mo_X11_emits mv_X11_emits ml_X11_223 ⟨Nat.le_of_ble_eq_true rfl, Nat.le_of_ble_eq_true rfl⟩ rfl rfl (Nat.le_of_ble_eq_true rfl) lk_Mo_0 rfl) (cn_X11_emits l G hG ad a7 0) rfl (fun r10 => ?_)
          refine s_iconst (pc := 94) (v := 0) (dc dl_X11_readCompared 48 rfl) ic_0 ?_
          exact s_ireturn (pc := 95) rfl (dc dl_X11_readCompared 49 rfl)
      · refine s_icmp_ne (pc := 49) (tgt := 57) (dc dl_X11_readCompared 25 rfl) rfl ?_ ?_
        · refine s_bipush (pc := 52) (v := 6) (dc dl_X11_readCompared 26 rfl) bi_6 ?_
          refine s_goto (pc := 54) (tgt := 73) (dc dl_X11_readCompared 27 rfl) rfl ?_
          exact s_wk (hj6 6) rfl
        · refine s_aload_n (pc := 57) (dc dl_X11_readCompared 28 rfl) rfl rfl ?_
          refine s_getI (pc := 58) fl_X11_193 lk_Mo_0 kk_Mo_0_17 (dc dl_X11_readCompared 29 rfl) (fun v11 => ?_)
          refine s_bipush (pc := 61) (v := 61) (dc dl_X11_readCompared 30 rfl) bi_61 ?_
          refine s_icmp_ne (pc := 63) (tgt := 71) (dc dl_X11_readCompared 31 rfl) rfl ?_ ?_
          · refine s_bipush (pc := 66) (v := 7) (dc dl_X11_readCompared 32 rfl) bi_7 ?_
            refine s_goto (pc := 68) (tgt := 73) (dc dl_X11_readCompared 33 rfl) rfl ?_
            exact s_wk (hj6 7) rfl
          · refine s_bipush (pc := 71) (v := 8) (dc dl_X11_readCompared 34 rfl) bi_8 ?_
            exact s_wk (hj6 8) rfl
    · refine s_if_ne (pc := 16) (tgt := 43) (dc dl_X11_readCompared 9 rfl) rfl ?_ ?_
      · refine s_aload_n (pc := 19) (dc dl_X11_readCompared 10 rfl) rfl rfl ?_
        refine s_bipush (pc := 20) (v := 61) (dc dl_X11_readCompared 11 rfl) bi_61 ?_
        refine s_call (pc := 22) (rest := []) hG (calls_V (mi := mX11_readCompared) (o := 0) (As := [.int 61]) (rest := []) hG (dc dl_X11_readCompared 12 rfl) mo_X11_isSign mv_X11_isSign ml_X11_234 ⟨Nat.le_of_ble_eq_true rfl, Nat.le_of_ble_eq_true rfl⟩ rfl rfl (Nat.le_of_ble_eq_true rfl) lk_Mo_0 rfl) (cn_X11_isSign l G hG ad 61) rfl (fun r12 => ?_)
        refine s_if_ne (pc := 25) (tgt := 43) (dc dl_X11_readCompared 13 rfl) rfl ?_ ?_
        · refine s_aload_n (pc := 28) (dc dl_X11_readCompared 14 rfl) rfl rfl ?_
          refine s_bipush (pc := 29) (v := 62) (dc dl_X11_readCompared 15 rfl) bi_62 ?_
          refine s_call (pc := 31) (rest := []) hG (calls_V (mi := mX11_readCompared) (o := 0) (As := [.int 62]) (rest := []) hG (dc dl_X11_readCompared 16 rfl) mo_X11_isSign mv_X11_isSign ml_X11_234 ⟨Nat.le_of_ble_eq_true rfl, Nat.le_of_ble_eq_true rfl⟩ rfl rfl (Nat.le_of_ble_eq_true rfl) lk_Mo_0 rfl) (cn_X11_isSign l G hG ad 62) rfl (fun r13 => ?_)
          refine s_if_ne (pc := 34) (tgt := 43) (dc dl_X11_readCompared 17 rfl) rfl ?_ ?_
          · refine s_aload_n (pc := 37) (dc dl_X11_readCompared 18 rfl) rfl rfl ?_
            refine s_iconst (pc := 38) (v := 1) (dc dl_X11_readCompared 19 rfl) ic_1 ?_
            refine s_call (pc := 39) (rest := []) hG (calls_V (mi := mX11_readCompared) (o := 0) (As := [.int 1]) (rest := []) hG (dc dl_X11_readCompared 20 rfl) mo_X11_errs mv_X11_errs ml_X11_220 ⟨Nat.le_of_ble_eq_true rfl, Nat.le_of_ble_eq_true rfl⟩ rfl rfl (Nat.le_of_ble_eq_true rfl) lk_Mo_0 rfl) (cn_X11_errs l G hG ad 1) rfl (fun r14 => ?_)
            exact s_ireturn (pc := 42) rfl (dc dl_X11_readCompared 21 rfl)
          · exact s_wk (hj3 ()) rfl
        · exact s_wk (hj3 ()) rfl
      · exact s_wk (hj3 ()) rfl
def gX11_waits (x1 : Int32) : MM Int32 :=
  bd (ld 0 30) fun v1 =>
  bd (sa 16 v1 x1) fun _ =>
  bd (ld 0 30) fun v2 =>
  bd (sv 0 30 (v2 + 1)) fun _ =>
  pr 0
set_option maxHeartbeats 4000000 in
theorem cn_X11_waits (l : Launch) (G : Gl) (hG : gOk G) (ad : Nat → Nat) (x1 : Int32) : Cn l G mX11_waits 0 lay_Mo ad [.ref (ad 0), .int x1] (gX11_waits x1) := by
  refine cn_of (lv := [some (.ref (ad 0)), some (.int x1)]) (by decide +kernel) rfl (Nat.le_of_ble_eq_true rfl) rfl ?_
  unfold gX11_waits
  refine s_aload_n (pc := 0) (dc dl_X11_waits 0 rfl) rfl rfl ?_
  refine s_getR (pc := 1) fl_X11_55 lk_Mo_0 kk_Mo_0_29 (dc dl_X11_waits 1 rfl) ?_
  refine s_aload_n (pc := 4) (dc dl_X11_waits 2 rfl) rfl rfl ?_
  refine s_getI (pc := 5) fl_X11_243 lk_Mo_0 kk_Mo_0_30 (dc dl_X11_waits 3 rfl) (fun v1 => ?_)
  refine s_iload_n (pc := 8) (dc dl_X11_waits 4 rfl) rfl rfl ?_
  refine s_iast (pc := 9) lk_Mo_16 (dc dl_X11_waits 5 rfl) ?_
  refine s_aload_n (pc := 10) (dc dl_X11_waits 6 rfl) rfl rfl ?_
  refine s_aload_n (pc := 11) (dc dl_X11_waits 7 rfl) rfl rfl ?_
  refine s_getI (pc := 12) fl_X11_243 lk_Mo_0 kk_Mo_0_30 (dc dl_X11_waits 8 rfl) (fun v2 => ?_)
  refine s_iconst (pc := 15) (v := 1) (dc dl_X11_waits 9 rfl) ic_1 ?_
  refine s_iadd (pc := 16) (dc dl_X11_waits 10 rfl) ?_
  refine s_putI (pc := 17) fw_X11_243 lk_Mo_0 kk_Mo_0_30 (dc dl_X11_waits 11 rfl) ?_
  exact s_return (pc := 20) rfl (dc dl_X11_waits 12 rfl)
def gX11_settles (x1 : Int32) : MM Int32 :=
  loopC 100000 (fun (self1 : Unit → MM Int32) (s2 : Unit) =>
  bd (ld 0 30) fun v3 =>
  jn (fun (a5 : Unit) =>
  pr 0) (fun j4 =>
  (if v3 ≤ 0 then
  j4 ()
  else
  bd (ld 0 30) fun v6 =>
  bd (la 16 (v6 - 1)) fun v7 =>
  (if v7 = x1 then
  bd (ld 0 30) fun v8 =>
  bd (sv 0 30 (v8 - 1)) fun _ =>
  bd (gX11_emits x1 0) fun r9 =>
  (if x1 = 9 then
  bd (ld 0 28) fun v10 =>
  bd (sv 0 28 (v10 - 1)) fun _ =>
  self1 ()
  else
  self1 ())
  else
  j4 ())))) ()
set_option maxHeartbeats 4000000 in
theorem cn_X11_settles (l : Launch) (G : Gl) (hG : gOk G) (ad : Nat → Nat) (x1 : Int32) : Cn l G mX11_settles 1 lay_Mo ad [.ref (ad 0), .int x1] (gX11_settles x1) := by
  refine cn_of (lv := [some (.ref (ad 0)), some (.int x1)]) (by decide +kernel) rfl (Nat.le_of_ble_eq_true rfl) rfl ?_
  unfold gX11_settles
  refine s_weak (lv' := [some (.ref (ad 0)), some (.int x1)]) rfl ?_
  refine s_loop (pc := 0) (fun s2 : Unit => [some (.ref (ad 0)), some (.int x1)]) [] (fun self1 hself1 s2 => ?_) _ ()
  refine s_aload_n (pc := 0) (dc dl_X11_settles 0 rfl) rfl rfl ?_
  refine s_getI (pc := 1) fl_X11_243 lk_Mo_0 kk_Mo_0_30 (dc dl_X11_settles 1 rfl) (fun v3 => ?_)
  refine s_jn (pj := 57) (fun a5 : Unit => [none, none]) (fun a5 : Unit => []) (fun a5 => ?_) (fun j4 hj4 => ?_)
  · exact s_return (pc := 57) rfl (dc dl_X11_settles 32 rfl)
  · refine s_if_le (pc := 4) (tgt := 57) (dc dl_X11_settles 2 rfl) rfl ?_ ?_
    · exact s_wk (hj4 ()) rfl
    · refine s_aload_n (pc := 7) (dc dl_X11_settles 3 rfl) rfl rfl ?_
      refine s_getR (pc := 8) fl_X11_55 lk_Mo_0 kk_Mo_0_29 (dc dl_X11_settles 4 rfl) ?_
      refine s_aload_n (pc := 11) (dc dl_X11_settles 5 rfl) rfl rfl ?_
      refine s_getI (pc := 12) fl_X11_243 lk_Mo_0 kk_Mo_0_30 (dc dl_X11_settles 6 rfl) (fun v6 => ?_)
      refine s_iconst (pc := 15) (v := 1) (dc dl_X11_settles 7 rfl) ic_1 ?_
      refine s_isub (pc := 16) (dc dl_X11_settles 8 rfl) ?_
      refine s_iald (pc := 17) lk_Mo_16 (dc dl_X11_settles 9 rfl) (fun v7 => ?_)
      refine s_iload_n (pc := 18) (dc dl_X11_settles 10 rfl) rfl rfl ?_
      refine s_icmp_ne (pc := 19) (tgt := 57) (dc dl_X11_settles 11 rfl) rfl ?_ ?_
      · refine s_aload_n (pc := 22) (dc dl_X11_settles 12 rfl) rfl rfl ?_
        refine s_aload_n (pc := 23) (dc dl_X11_settles 13 rfl) rfl rfl ?_
        refine s_getI (pc := 24) fl_X11_243 lk_Mo_0 kk_Mo_0_30 (dc dl_X11_settles 14 rfl) (fun v8 => ?_)
        refine s_iconst (pc := 27) (v := 1) (dc dl_X11_settles 15 rfl) ic_1 ?_
        refine s_isub (pc := 28) (dc dl_X11_settles 16 rfl) ?_
        refine s_putI (pc := 29) fw_X11_243 lk_Mo_0 kk_Mo_0_30 (dc dl_X11_settles 17 rfl) ?_
        refine s_aload_n (pc := 32) (dc dl_X11_settles 18 rfl) rfl rfl ?_
        refine s_iload_n (pc := 33) (dc dl_X11_settles 19 rfl) rfl rfl ?_
        refine s_iconst (pc := 34) (v := 0) (dc dl_X11_settles 20 rfl) ic_0 ?_
        refine s_callv (pc := 35) (rest := []) hG (calls_V (mi := mX11_settles) (o := 0) (As := [.int x1, .int 0]) (rest := []) hG (dc dl_X11_settles 21 rfl) mo_X11_emits mv_X11_emits ml_X11_223 ⟨Nat.le_of_ble_eq_true rfl, Nat.le_of_ble_eq_true rfl⟩ rfl rfl (Nat.le_of_ble_eq_true rfl) lk_Mo_0 rfl) (cn_X11_emits l G hG ad x1 0) rfl (fun r9 => ?_)
        refine s_iload_n (pc := 38) (dc dl_X11_settles 22 rfl) rfl rfl ?_
        refine s_bipush (pc := 39) (v := 9) (dc dl_X11_settles 23 rfl) bi_9 ?_
        refine s_icmp_ne (pc := 41) (tgt := 0) (dc dl_X11_settles 24 rfl) rfl ?_ ?_
        · refine s_aload_n (pc := 44) (dc dl_X11_settles 25 rfl) rfl rfl ?_
          refine s_aload_n (pc := 45) (dc dl_X11_settles 26 rfl) rfl rfl ?_
          refine s_getI (pc := 46) fl_X11_246 lk_Mo_0 kk_Mo_0_28 (dc dl_X11_settles 27 rfl) (fun v10 => ?_)
          refine s_iconst (pc := 49) (v := 1) (dc dl_X11_settles 28 rfl) ic_1 ?_
          refine s_isub (pc := 50) (dc dl_X11_settles 29 rfl) ?_
          refine s_putI (pc := 51) fw_X11_246 lk_Mo_0 kk_Mo_0_28 (dc dl_X11_settles 30 rfl) ?_
          refine s_goto (pc := 54) (tgt := 0) (dc dl_X11_settles 31 rfl) rfl ?_
          exact s_wk (hself1 ()) rfl
        · exact s_wk (hself1 ()) rfl
      · exact s_wk (hj4 ()) rfl
def gX11_readAny : MM Int32 :=
  bd (sv 0 30 0) fun _ =>
  loopC 100000 (fun (self1 : (Int32 × Int32) → MM Int32) (s2 : Int32 × Int32) =>
  (if s2.2 = 0 then
  bd (gX11_isWord 5) fun r3 =>
  (if r3 = 0 then
  bd (gX11_isWord 4) fun r4 =>
  (if r4 = 0 then
  bd (gX11_settles 10) fun r5 =>
  bd (gX11_settles 11) fun r6 =>
  (if s2.1 = 0 then
  pr 0
  else
  bd (gX11_isSign 41) fun r7 =>
  (if r7 = 0 then
  bd (gX11_errs 1) fun r13 =>
  pr r13
  else
  bd (ld 0 30) fun v8 =>
  bd (sv 0 30 (v8 - 1)) fun _ =>
  lt (s2.1 - 1) fun y9 =>
  bd (ld 0 28) fun v10 =>
  bd (sv 0 28 (v10 - 1)) fun _ =>
  bd (gX11_settles 9) fun r11 =>
  bd gX11_reads fun r12 =>
  self1 (y9, s2.2)))
  else
  bd (gX11_settles 10) fun r14 =>
  bd (gX11_settles 11) fun r15 =>
  bd (gX11_waits 11) fun r16 =>
  bd gX11_reads fun r17 =>
  self1 (s2.1, 1))
  else
  bd (gX11_settles 10) fun r18 =>
  bd (gX11_waits 10) fun r19 =>
  bd gX11_reads fun r20 =>
  self1 (s2.1, 1))
  else
  bd (gX11_isWord 6) fun r21 =>
  jn (fun (a23 : Unit) =>
  bd (ld 0 28) fun v24 =>
  (if v24 = 8 then
  bd (gX11_errs 3) fun r33 =>
  pr r33
  else
  bd (ld 0 28) fun v25 =>
  bd (sv 0 28 (v25 + 1)) fun _ =>
  jn (fun (a27 : Int32) =>
  jn (fun (a29 : Int32) =>
  bd (gX11_waits a29) fun r30 =>
  bd gX11_reads fun r31 =>
  self1 (a27, s2.2)) (fun j28 =>
  (if r21 = 0 then
  j28 12
  else
  j28 9))) (fun j26 =>
  (if r21 = 0 then
  lt (s2.1 + 1) fun y32 =>
  j26 y32
  else
  j26 s2.1)))) (fun j22 =>
  (if r21 = 0 then
  bd (gX11_isSign 40) fun r34 =>
  (if r34 = 0 then
  bd gX11_readCompared fun r35 =>
  (if r35 = ((-1)) then
  pr ((-1))
  else
  bd (gX11_settles 9) fun r36 =>
  self1 (s2.1, 0))
  else
  j22 ())
  else
  j22 ())))) (0, 1)
set_option maxHeartbeats 4000000 in
theorem cn_X11_readAny (l : Launch) (G : Gl) (hG : gOk G) (ad : Nat → Nat) : Cn l G mX11_readAny 7 lay_Mo ad [.ref (ad 0)] (gX11_readAny) := by
  refine cn_of (lv := [some (.ref (ad 0)), none, none, none]) (by decide +kernel) rfl (Nat.le_of_ble_eq_true rfl) rfl ?_
  unfold gX11_readAny
  refine s_iconst (pc := 0) (v := 0) (dc dl_X11_readAny 0 rfl) ic_0 ?_
  refine s_istore_n (pc := 1) (lv' := [some (.ref (ad 0)), some (.int 0), none, none]) (dc dl_X11_readAny 1 rfl) rfl (Nat.le_of_ble_eq_true rfl) rfl ?_
  refine s_aload_n (pc := 2) (dc dl_X11_readAny 2 rfl) rfl rfl ?_
  refine s_iconst (pc := 3) (v := 0) (dc dl_X11_readAny 3 rfl) ic_0 ?_
  refine s_putI (pc := 4) fw_X11_243 lk_Mo_0 kk_Mo_0_30 (dc dl_X11_readAny 4 rfl) ?_
  refine s_iconst (pc := 7) (v := 1) (dc dl_X11_readAny 5 rfl) ic_1 ?_
  refine s_istore_n (pc := 8) (lv' := [some (.ref (ad 0)), some (.int 0), some (.int 1), none]) (dc dl_X11_readAny 6 rfl) rfl (Nat.le_of_ble_eq_true rfl) rfl ?_
  refine s_weak (lv' := [some (.ref (ad 0)), some (.int 0), some (.int 1), none]) rfl ?_
  refine s_loop (pc := 9) (fun s2 : Int32 × Int32 => [some (.ref (ad 0)), some (.int s2.1), some (.int s2.2), none]) [] (fun self1 hself1 s2 => ?_) _ (0, 1)
  refine s_iload_n (pc := 9) (dc dl_X11_readAny 7 rfl) rfl rfl ?_
  refine s_if_eq (pc := 10) (tgt := 109) (dc dl_X11_readAny 8 rfl) rfl ?_ ?_
  · refine s_aload_n (pc := 109) (dc dl_X11_readAny 61 rfl) rfl rfl ?_
    refine s_iconst (pc := 110) (v := 5) (dc dl_X11_readAny 62 rfl) ic_5 ?_
    refine s_call (pc := 111) (rest := []) hG (calls_V (mi := mX11_readAny) (o := 0) (As := [.int 5]) (rest := []) hG (dc dl_X11_readAny 63 rfl) mo_X11_isWord mv_X11_isWord ml_X11_249 ⟨Nat.le_of_ble_eq_true rfl, Nat.le_of_ble_eq_true rfl⟩ rfl rfl (Nat.le_of_ble_eq_true rfl) lk_Mo_0 rfl) (cn_X11_isWord l G hG ad 5) rfl (fun r3 => ?_)
    refine s_if_eq (pc := 114) (tgt := 138) (dc dl_X11_readAny 64 rfl) rfl ?_ ?_
    · refine s_aload_n (pc := 138) (dc dl_X11_readAny 76 rfl) rfl rfl ?_
      refine s_iconst (pc := 139) (v := 4) (dc dl_X11_readAny 77 rfl) ic_4 ?_
      refine s_call (pc := 140) (rest := []) hG (calls_V (mi := mX11_readAny) (o := 0) (As := [.int 4]) (rest := []) hG (dc dl_X11_readAny 78 rfl) mo_X11_isWord mv_X11_isWord ml_X11_249 ⟨Nat.le_of_ble_eq_true rfl, Nat.le_of_ble_eq_true rfl⟩ rfl rfl (Nat.le_of_ble_eq_true rfl) lk_Mo_0 rfl) (cn_X11_isWord l G hG ad 4) rfl (fun r4 => ?_)
      refine s_if_eq (pc := 143) (tgt := 173) (dc dl_X11_readAny 79 rfl) rfl ?_ ?_
      · refine s_aload_n (pc := 173) (dc dl_X11_readAny 94 rfl) rfl rfl ?_
        refine s_bipush (pc := 174) (v := 10) (dc dl_X11_readAny 95 rfl) bi_10 ?_
        refine s_callv (pc := 176) (rest := []) hG (calls_V (mi := mX11_readAny) (o := 0) (As := [.int 10]) (rest := []) hG (dc dl_X11_readAny 96 rfl) mo_X11_settles mv_X11_settles ml_X11_258 ⟨Nat.le_of_ble_eq_true rfl, Nat.le_of_ble_eq_true rfl⟩ rfl rfl (Nat.le_of_ble_eq_true rfl) lk_Mo_0 rfl) (cn_X11_settles l G hG ad 10) rfl (fun r5 => ?_)
        refine s_aload_n (pc := 179) (dc dl_X11_readAny 97 rfl) rfl rfl ?_
        refine s_bipush (pc := 180) (v := 11) (dc dl_X11_readAny 98 rfl) bi_11 ?_
        refine s_callv (pc := 182) (rest := []) hG (calls_V (mi := mX11_readAny) (o := 0) (As := [.int 11]) (rest := []) hG (dc dl_X11_readAny 99 rfl) mo_X11_settles mv_X11_settles ml_X11_258 ⟨Nat.le_of_ble_eq_true rfl, Nat.le_of_ble_eq_true rfl⟩ rfl rfl (Nat.le_of_ble_eq_true rfl) lk_Mo_0 rfl) (cn_X11_settles l G hG ad 11) rfl (fun r6 => ?_)
        refine s_iload_n (pc := 185) (dc dl_X11_readAny 100 rfl) rfl rfl ?_
        refine s_if_ne (pc := 186) (tgt := 191) (dc dl_X11_readAny 101 rfl) rfl ?_ ?_
        · refine s_iconst (pc := 189) (v := 0) (dc dl_X11_readAny 102 rfl) ic_0 ?_
          exact s_ireturn (pc := 190) rfl (dc dl_X11_readAny 103 rfl)
        · refine s_aload_n (pc := 191) (dc dl_X11_readAny 104 rfl) rfl rfl ?_
          refine s_bipush (pc := 192) (v := 41) (dc dl_X11_readAny 105 rfl) bi_41 ?_
          refine s_call (pc := 194) (rest := []) hG (calls_V (mi := mX11_readAny) (o := 0) (As := [.int 41]) (rest := []) hG (dc dl_X11_readAny 106 rfl) mo_X11_isSign mv_X11_isSign ml_X11_234 ⟨Nat.le_of_ble_eq_true rfl, Nat.le_of_ble_eq_true rfl⟩ rfl rfl (Nat.le_of_ble_eq_true rfl) lk_Mo_0 rfl) (cn_X11_isSign l G hG ad 41) rfl (fun r7 => ?_)
          refine s_if_ne (pc := 197) (tgt := 206) (dc dl_X11_readAny 107 rfl) rfl ?_ ?_
          · refine s_aload_n (pc := 200) (dc dl_X11_readAny 108 rfl) rfl rfl ?_
            refine s_iconst (pc := 201) (v := 1) (dc dl_X11_readAny 109 rfl) ic_1 ?_
            refine s_call (pc := 202) (rest := []) hG (calls_V (mi := mX11_readAny) (o := 0) (As := [.int 1]) (rest := []) hG (dc dl_X11_readAny 110 rfl) mo_X11_errs mv_X11_errs ml_X11_220 ⟨Nat.le_of_ble_eq_true rfl, Nat.le_of_ble_eq_true rfl⟩ rfl rfl (Nat.le_of_ble_eq_true rfl) lk_Mo_0 rfl) (cn_X11_errs l G hG ad 1) rfl (fun r13 => ?_)
            exact s_ireturn (pc := 205) rfl (dc dl_X11_readAny 111 rfl)
          · refine s_aload_n (pc := 206) (dc dl_X11_readAny 112 rfl) rfl rfl ?_
            refine s_aload_n (pc := 207) (dc dl_X11_readAny 113 rfl) rfl rfl ?_
            refine s_getI (pc := 208) fl_X11_243 lk_Mo_0 kk_Mo_0_30 (dc dl_X11_readAny 114 rfl) (fun v8 => ?_)
            refine s_iconst (pc := 211) (v := 1) (dc dl_X11_readAny 115 rfl) ic_1 ?_
            refine s_isub (pc := 212) (dc dl_X11_readAny 116 rfl) ?_
            refine s_putI (pc := 213) fw_X11_243 lk_Mo_0 kk_Mo_0_30 (dc dl_X11_readAny 117 rfl) ?_
            refine s_iload_n (pc := 216) (dc dl_X11_readAny 118 rfl) rfl rfl ?_
            refine s_iconst (pc := 217) (v := 1) (dc dl_X11_readAny 119 rfl) ic_1 ?_
            refine s_isub (pc := 218) (dc dl_X11_readAny 120 rfl) ?_
            refine s_istore_nL (pc := 219) (lf' := fun y9 => [some (.ref (ad 0)), some (.int y9), some (.int s2.2), none]) (dc dl_X11_readAny 121 rfl) rfl (Nat.le_of_ble_eq_true rfl) (fun _ => rfl) (fun y9 => ?_)
            refine s_aload_n (pc := 220) (dc dl_X11_readAny 122 rfl) rfl rfl ?_
            refine s_aload_n (pc := 221) (dc dl_X11_readAny 123 rfl) rfl rfl ?_
            refine s_getI (pc := 222) fl_X11_246 lk_Mo_0 kk_Mo_0_28 (dc dl_X11_readAny 124 rfl) (fun v10 => ?_)
            refine s_iconst (pc := 225) (v := 1) (dc dl_X11_readAny 125 rfl) ic_1 ?_
            refine s_isub (pc := 226) (dc dl_X11_readAny 126 rfl) ?_
            refine s_putI (pc := 227) fw_X11_246 lk_Mo_0 kk_Mo_0_28 (dc dl_X11_readAny 127 rfl) ?_
            refine s_aload_n (pc := 230) (dc dl_X11_readAny 128 rfl) rfl rfl ?_
            refine s_bipush (pc := 231) (v := 9) (dc dl_X11_readAny 129 rfl) bi_9 ?_
            refine s_callv (pc := 233) (rest := []) hG (calls_V (mi := mX11_readAny) (o := 0) (As := [.int 9]) (rest := []) hG (dc dl_X11_readAny 130 rfl) mo_X11_settles mv_X11_settles ml_X11_258 ⟨Nat.le_of_ble_eq_true rfl, Nat.le_of_ble_eq_true rfl⟩ rfl rfl (Nat.le_of_ble_eq_true rfl) lk_Mo_0 rfl) (cn_X11_settles l G hG ad 9) rfl (fun r11 => ?_)
            refine s_aload_n (pc := 236) (dc dl_X11_readAny 131 rfl) rfl rfl ?_
            refine s_callv (pc := 237) (rest := []) hG (calls_V (mi := mX11_readAny) (o := 0) (As := []) (rest := []) hG (dc dl_X11_readAny 132 rfl) mo_X11_reads mv_X11_reads ml_X11_227 ⟨Nat.le_of_ble_eq_true rfl, Nat.le_of_ble_eq_true rfl⟩ rfl rfl (Nat.le_of_ble_eq_true rfl) lk_Mo_0 rfl) (cn_X11_reads l G hG ad) rfl (fun r12 => ?_)
            refine s_goto (pc := 240) (tgt := 9) (dc dl_X11_readAny 133 rfl) rfl ?_
            exact s_wk (hself1 (y9, s2.2)) rfl
      · refine s_aload_n (pc := 146) (dc dl_X11_readAny 80 rfl) rfl rfl ?_
        refine s_bipush (pc := 147) (v := 10) (dc dl_X11_readAny 81 rfl) bi_10 ?_
        refine s_callv (pc := 149) (rest := []) hG (calls_V (mi := mX11_readAny) (o := 0) (As := [.int 10]) (rest := []) hG (dc dl_X11_readAny 82 rfl) mo_X11_settles mv_X11_settles ml_X11_258 ⟨Nat.le_of_ble_eq_true rfl, Nat.le_of_ble_eq_true rfl⟩ rfl rfl (Nat.le_of_ble_eq_true rfl) lk_Mo_0 rfl) (cn_X11_settles l G hG ad 10) rfl (fun r14 => ?_)
        refine s_aload_n (pc := 152) (dc dl_X11_readAny 83 rfl) rfl rfl ?_
        refine s_bipush (pc := 153) (v := 11) (dc dl_X11_readAny 84 rfl) bi_11 ?_
        refine s_callv (pc := 155) (rest := []) hG (calls_V (mi := mX11_readAny) (o := 0) (As := [.int 11]) (rest := []) hG (dc dl_X11_readAny 85 rfl) mo_X11_settles mv_X11_settles ml_X11_258 ⟨Nat.le_of_ble_eq_true rfl, Nat.le_of_ble_eq_true rfl⟩ rfl rfl (Nat.le_of_ble_eq_true rfl) lk_Mo_0 rfl) (cn_X11_settles l G hG ad 11) rfl (fun r15 => ?_)
        refine s_aload_n (pc := 158) (dc dl_X11_readAny 86 rfl) rfl rfl ?_
        refine s_bipush (pc := 159) (v := 11) (dc dl_X11_readAny 87 rfl) bi_11 ?_
        refine s_callv (pc := 161) (rest := []) hG (calls_V (mi := mX11_readAny) (o := 0) (As := [.int 11]) (rest := []) hG (dc dl_X11_readAny 88 rfl) mo_X11_waits mv_X11_waits ml_X11_252 ⟨Nat.le_of_ble_eq_true rfl, Nat.le_of_ble_eq_true rfl⟩ rfl rfl (Nat.le_of_ble_eq_true rfl) lk_Mo_0 rfl) (cn_X11_waits l G hG ad 11) rfl (fun r16 => ?_)
        refine s_aload_n (pc := 164) (dc dl_X11_readAny 89 rfl) rfl rfl ?_
        refine s_callv (pc := 165) (rest := []) hG (calls_V (mi := mX11_readAny) (o := 0) (As := []) (rest := []) hG (dc dl_X11_readAny 90 rfl) mo_X11_reads mv_X11_reads ml_X11_227 ⟨Nat.le_of_ble_eq_true rfl, Nat.le_of_ble_eq_true rfl⟩ rfl rfl (Nat.le_of_ble_eq_true rfl) lk_Mo_0 rfl) (cn_X11_reads l G hG ad) rfl (fun r17 => ?_)
        refine s_iconst (pc := 168) (v := 1) (dc dl_X11_readAny 91 rfl) ic_1 ?_
        refine s_istore_n (pc := 169) (lv' := [some (.ref (ad 0)), some (.int s2.1), some (.int 1), none]) (dc dl_X11_readAny 92 rfl) rfl (Nat.le_of_ble_eq_true rfl) rfl ?_
        refine s_goto (pc := 170) (tgt := 9) (dc dl_X11_readAny 93 rfl) rfl ?_
        exact s_wk (hself1 (s2.1, 1)) rfl
    · refine s_aload_n (pc := 117) (dc dl_X11_readAny 65 rfl) rfl rfl ?_
      refine s_bipush (pc := 118) (v := 10) (dc dl_X11_readAny 66 rfl) bi_10 ?_
      refine s_callv (pc := 120) (rest := []) hG (calls_V (mi := mX11_readAny) (o := 0) (As := [.int 10]) (rest := []) hG (dc dl_X11_readAny 67 rfl) mo_X11_settles mv_X11_settles ml_X11_258 ⟨Nat.le_of_ble_eq_true rfl, Nat.le_of_ble_eq_true rfl⟩ rfl rfl (Nat.le_of_ble_eq_true rfl) lk_Mo_0 rfl) (cn_X11_settles l G hG ad 10) rfl (fun r18 => ?_)
      refine s_aload_n (pc := 123) (dc dl_X11_readAny 68 rfl) rfl rfl ?_
      refine s_bipush (pc := 124) (v := 10) (dc dl_X11_readAny 69 rfl) bi_10 ?_
      refine s_callv (pc := 126) (rest := []) hG (calls_V (mi := mX11_readAny) (o := 0) (As := [.int 10]) (rest := []) hG (dc dl_X11_readAny 70 rfl) mo_X11_waits mv_X11_waits ml_X11_252 ⟨Nat.le_of_ble_eq_true rfl, Nat.le_of_ble_eq_true rfl⟩ rfl rfl (Nat.le_of_ble_eq_true rfl) lk_Mo_0 rfl) (cn_X11_waits l G hG ad 10) rfl (fun r19 => ?_)
      refine s_aload_n (pc := 129) (dc dl_X11_readAny 71 rfl) rfl rfl ?_
      refine s_callv (pc := 130) (rest := []) hG (calls_V (mi := mX11_readAny) (o := 0) (As := []) (rest := []) hG (dc dl_X11_readAny 72 rfl) mo_X11_reads mv_X11_reads ml_X11_227 ⟨Nat.le_of_ble_eq_true rfl, Nat.le_of_ble_eq_true rfl⟩ rfl rfl (Nat.le_of_ble_eq_true rfl) lk_Mo_0 rfl) (cn_X11_reads l G hG ad) rfl (fun r20 => ?_)
      refine s_iconst (pc := 133) (v := 1) (dc dl_X11_readAny 73 rfl) ic_1 ?_
      refine s_istore_n (pc := 134) (lv' := [some (.ref (ad 0)), some (.int s2.1), some (.int 1), none]) (dc dl_X11_readAny 74 rfl) rfl (Nat.le_of_ble_eq_true rfl) rfl ?_
      refine s_goto (pc := 135) (tgt := 9) (dc dl_X11_readAny 75 rfl) rfl ?_
      exact s_wk (hself1 (s2.1, 1)) rfl
  · refine s_aload_n (pc := 13) (dc dl_X11_readAny 9 rfl) rfl rfl ?_
    refine s_bipush (pc := 14) (v := 6) (dc dl_X11_readAny 10 rfl) bi_6 ?_
    refine s_call (pc := 16) (rest := []) hG (calls_V (mi := mX11_readAny) (o := 0) (As := [.int 6]) (rest := []) hG (dc dl_X11_readAny 11 rfl) mo_X11_isWord mv_X11_isWord ml_X11_249 ⟨Nat.le_of_ble_eq_true rfl, Nat.le_of_ble_eq_true rfl⟩ rfl rfl (Nat.le_of_ble_eq_true rfl) lk_Mo_0 rfl) (cn_X11_isWord l G hG ad 6) rfl (fun r21 => ?_)
    refine s_istore_n (pc := 19) (lv' := [some (.ref (ad 0)), some (.int s2.1), some (.int s2.2), some (.int r21)]) (dc dl_X11_readAny 12 rfl) rfl (Nat.le_of_ble_eq_true rfl) rfl ?_
    refine s_iload_n (pc := 20) (dc dl_X11_readAny 13 rfl) rfl rfl ?_
    refine s_jn (pj := 33) (fun a23 : Unit => [some (.ref (ad 0)), some (.int s2.1), some (.int s2.2), some (.int r21)]) (fun a23 : Unit => []) (fun a23 => ?_) (fun j22 hj22 => ?_)
    · refine s_aload_n (pc := 33) (dc dl_X11_readAny 19 rfl) rfl rfl ?_
      refine s_getI (pc := 34) fl_X11_246 lk_Mo_0 kk_Mo_0_28 (dc dl_X11_readAny 20 rfl) (fun v24 => ?_)
      refine s_bipush (pc := 37) (v := 8) (dc dl_X11_readAny 21 rfl) bi_8 ?_
      refine s_icmp_ne (pc := 39) (tgt := 48) (dc dl_X11_readAny 22 rfl) rfl ?_ ?_
      · refine s_aload_n (pc := 42) (dc dl_X11_readAny 23 rfl) rfl rfl ?_
        refine s_iconst (pc := 43) (v := 3) (dc dl_X11_readAny 24 rfl) ic_3 ?_
        refine s_call (pc := 44) (rest := []) hG (calls_V (mi := mX11_readAny) (o := 0) (As := [.int 3]) (rest := []) hG (dc dl_X11_readAny 25 rfl) mo_X11_errs mv_X11_errs ml_X11_220 ⟨Nat.le_of_ble_eq_true rfl, Nat.le_of_ble_eq_true rfl⟩ rfl rfl (Nat.le_of_ble_eq_true rfl) lk_Mo_0 rfl) (cn_X11_errs l G hG ad 3) rfl (fun r33 => ?_)
        exact s_ireturn (pc := 47) rfl (dc dl_X11_readAny 26 rfl)
      · refine s_aload_n (pc := 48) (dc dl_X11_readAny 27 rfl) rfl rfl ?_
        refine s_aload_n (pc := 49) (dc dl_X11_readAny 28 rfl) rfl rfl ?_
        refine s_getI (pc := 50) fl_X11_246 lk_Mo_0 kk_Mo_0_28 (dc dl_X11_readAny 29 rfl) (fun v25 => ?_)
        refine s_iconst (pc := 53) (v := 1) (dc dl_X11_readAny 30 rfl) ic_1 ?_
        refine s_iadd (pc := 54) (dc dl_X11_readAny 31 rfl) ?_
        refine s_putI (pc := 55) fw_X11_246 lk_Mo_0 kk_Mo_0_28 (dc dl_X11_readAny 32 rfl) ?_
        refine s_iload_n (pc := 58) (dc dl_X11_readAny 33 rfl) rfl rfl ?_
        refine s_jn (pj := 66) (fun a27 : Int32 => [some (.ref (ad 0)), some (.int a27), some (.int s2.2), some (.int r21)]) (fun a27 : Int32 => []) (fun a27 => ?_) (fun j26 hj26 => ?_)
        · refine s_aload_n (pc := 66) (dc dl_X11_readAny 39 rfl) rfl rfl ?_
          refine s_iload_n (pc := 67) (dc dl_X11_readAny 40 rfl) rfl rfl ?_
          refine s_jn (pj := 78) (fun a29 : Int32 => [some (.ref (ad 0)), some (.int a27), some (.int s2.2), none]) (fun a29 : Int32 => [.int a29, .ref (ad 0)]) (fun a29 => ?_) (fun j28 hj28 => ?_)
          · refine s_callv (pc := 78) (rest := []) hG (calls_V (mi := mX11_readAny) (o := 0) (As := [.int a29]) (rest := []) hG (dc dl_X11_readAny 45 rfl) mo_X11_waits mv_X11_waits ml_X11_252 ⟨Nat.le_of_ble_eq_true rfl, Nat.le_of_ble_eq_true rfl⟩ rfl rfl (Nat.le_of_ble_eq_true rfl) lk_Mo_0 rfl) (cn_X11_waits l G hG ad a29) rfl (fun r30 => ?_)
            refine s_aload_n (pc := 81) (dc dl_X11_readAny 46 rfl) rfl rfl ?_
            refine s_callv (pc := 82) (rest := []) hG (calls_V (mi := mX11_readAny) (o := 0) (As := []) (rest := []) hG (dc dl_X11_readAny 47 rfl) mo_X11_reads mv_X11_reads ml_X11_227 ⟨Nat.le_of_ble_eq_true rfl, Nat.le_of_ble_eq_true rfl⟩ rfl rfl (Nat.le_of_ble_eq_true rfl) lk_Mo_0 rfl) (cn_X11_reads l G hG ad) rfl (fun r31 => ?_)
            refine s_goto (pc := 85) (tgt := 9) (dc dl_X11_readAny 48 rfl) rfl ?_
            exact s_wk (hself1 (a27, s2.2)) rfl
          · refine s_if_eq (pc := 68) (tgt := 76) (dc dl_X11_readAny 41 rfl) rfl ?_ ?_
            · refine s_bipush (pc := 76) (v := 12) (dc dl_X11_readAny 44 rfl) bi_12 ?_
              exact s_wk (hj28 12) rfl
            · refine s_bipush (pc := 71) (v := 9) (dc dl_X11_readAny 42 rfl) bi_9 ?_
              refine s_goto (pc := 73) (tgt := 78) (dc dl_X11_readAny 43 rfl) rfl ?_
              exact s_wk (hj28 9) rfl
        · refine s_if_ne (pc := 59) (tgt := 66) (dc dl_X11_readAny 34 rfl) rfl ?_ ?_
          · refine s_iload_n (pc := 62) (dc dl_X11_readAny 35 rfl) rfl rfl ?_
            refine s_iconst (pc := 63) (v := 1) (dc dl_X11_readAny 36 rfl) ic_1 ?_
            refine s_iadd (pc := 64) (dc dl_X11_readAny 37 rfl) ?_
            refine s_istore_nL (pc := 65) (lf' := fun y32 => [some (.ref (ad 0)), some (.int y32), some (.int s2.2), some (.int r21)]) (dc dl_X11_readAny 38 rfl) rfl (Nat.le_of_ble_eq_true rfl) (fun _ => rfl) (fun y32 => ?_)
            exact s_wk (hj26 y32) rfl
          · exact s_wk (hj26 s2.1) rfl
    · refine s_if_ne (pc := 21) (tgt := 33) (dc dl_X11_readAny 14 rfl) rfl ?_ ?_
      · refine s_aload_n (pc := 24) (dc dl_X11_readAny 15 rfl) rfl rfl ?_
        refine s_bipush (pc := 25) (v := 40) (dc dl_X11_readAny 16 rfl) bi_40 ?_
        refine s_call (pc := 27) (rest := []) hG (calls_V (mi := mX11_readAny) (o := 0) (As := [.int 40]) (rest := []) hG (dc dl_X11_readAny 17 rfl) mo_X11_isSign mv_X11_isSign ml_X11_234 ⟨Nat.le_of_ble_eq_true rfl, Nat.le_of_ble_eq_true rfl⟩ rfl rfl (Nat.le_of_ble_eq_true rfl) lk_Mo_0 rfl) (cn_X11_isSign l G hG ad 40) rfl (fun r34 => ?_)
        refine s_if_eq (pc := 30) (tgt := 88) (dc dl_X11_readAny 18 rfl) rfl ?_ ?_
        · refine s_aload_n (pc := 88) (dc dl_X11_readAny 49 rfl) rfl rfl ?_
          refine s_call (pc := 89) (rest := []) hG (calls_V (mi := mX11_readAny) (o := 0) (As := []) (rest := []) hG (dc dl_X11_readAny 50 rfl) mo_X11_readCompared mv_X11_readCompared ml_X11_255 ⟨Nat.le_of_ble_eq_true rfl, Nat.le_of_ble_eq_true rfl⟩ rfl rfl (Nat.le_of_ble_eq_true rfl) lk_Mo_0 rfl) (cn_X11_readCompared l G hG ad) rfl (fun r35 => ?_)
          refine s_iconst (pc := 92) (v := (-1)) (dc dl_X11_readAny 51 rfl) ic_m1 ?_
          refine s_icmp_ne (pc := 93) (tgt := 98) (dc dl_X11_readAny 52 rfl) rfl ?_ ?_
          · refine s_iconst (pc := 96) (v := (-1)) (dc dl_X11_readAny 53 rfl) ic_m1 ?_
            exact s_ireturn (pc := 97) rfl (dc dl_X11_readAny 54 rfl)
          · refine s_aload_n (pc := 98) (dc dl_X11_readAny 55 rfl) rfl rfl ?_
            refine s_bipush (pc := 99) (v := 9) (dc dl_X11_readAny 56 rfl) bi_9 ?_
            refine s_callv (pc := 101) (rest := []) hG (calls_V (mi := mX11_readAny) (o := 0) (As := [.int 9]) (rest := []) hG (dc dl_X11_readAny 57 rfl) mo_X11_settles mv_X11_settles ml_X11_258 ⟨Nat.le_of_ble_eq_true rfl, Nat.le_of_ble_eq_true rfl⟩ rfl rfl (Nat.le_of_ble_eq_true rfl) lk_Mo_0 rfl) (cn_X11_settles l G hG ad 9) rfl (fun r36 => ?_)
            refine s_iconst (pc := 104) (v := 0) (dc dl_X11_readAny 58 rfl) ic_0 ?_
            refine s_istore_n (pc := 105) (lv' := [some (.ref (ad 0)), some (.int s2.1), some (.int 0), some (.int r21)]) (dc dl_X11_readAny 59 rfl) rfl (Nat.le_of_ble_eq_true rfl) rfl ?_
            refine s_goto (pc := 106) (tgt := 9) (dc dl_X11_readAny 60 rfl) rfl ?_
            exact s_wk (hself1 (s2.1, 0)) rfl
        · exact s_wk (hj22 ()) rfl
      · exact s_wk (hj22 ()) rfl
def gX11_isLineWord : MM Int32 :=
  bd (ld 0 16) fun v1 =>
  jn (fun (a3 : Int32) =>
  rz a3) (fun j2 =>
  jn (fun (a5 : Unit) =>
  j2 0) (fun j4 =>
  (if v1 = 2 then
  bd (ld 0 17) fun v6 =>
  bd (gX11_isIn v6 0 2) fun r7 =>
  (if r7 = 0 then
  j4 ()
  else
  j2 1)
  else
  j4 ())))
set_option maxHeartbeats 4000000 in
theorem cn_X11_isLineWord (l : Launch) (G : Gl) (hG : gOk G) (ad : Nat → Nat) : Cn l G mX11_isLineWord 1 lay_Mo ad [.ref (ad 0)] (gX11_isLineWord) := by
  refine cn_of (lv := [some (.ref (ad 0))]) (by decide +kernel) rfl (Nat.le_of_ble_eq_true rfl) rfl ?_
  unfold gX11_isLineWord
  refine s_aload_n (pc := 0) (dc dl_X11_isLineWord 0 rfl) rfl rfl ?_
  refine s_getI (pc := 1) fl_X11_190 lk_Mo_0 kk_Mo_0_16 (dc dl_X11_isLineWord 1 rfl) (fun v1 => ?_)
  refine s_iconst (pc := 4) (v := 2) (dc dl_X11_isLineWord 2 rfl) ic_2 ?_
  refine s_jn (pj := 26) (fun a3 : Int32 => [none]) (fun a3 : Int32 => [.int a3]) (fun a3 => ?_) (fun j2 hj2 => ?_)
  · exact s_zreturn (pc := 26) rfl (dc dl_X11_isLineWord 14 rfl)
  · refine s_jn (pj := 25) (fun a5 : Unit => [none]) (fun a5 : Unit => []) (fun a5 => ?_) (fun j4 hj4 => ?_)
    · refine s_iconst (pc := 25) (v := 0) (dc dl_X11_isLineWord 13 rfl) ic_0 ?_
      exact s_wk (hj2 0) rfl
    · refine s_icmp_ne (pc := 5) (tgt := 25) (dc dl_X11_isLineWord 3 rfl) rfl ?_ ?_
      · refine s_aload_n (pc := 8) (dc dl_X11_isLineWord 4 rfl) rfl rfl ?_
        refine s_aload_n (pc := 9) (dc dl_X11_isLineWord 5 rfl) rfl rfl ?_
        refine s_getI (pc := 10) fl_X11_193 lk_Mo_0 kk_Mo_0_17 (dc dl_X11_isLineWord 6 rfl) (fun v6 => ?_)
        refine s_iconst (pc := 13) (v := 0) (dc dl_X11_isLineWord 7 rfl) ic_0 ?_
        refine s_iconst (pc := 14) (v := 2) (dc dl_X11_isLineWord 8 rfl) ic_2 ?_
        refine s_call (pc := 15) (rest := []) hG (calls_V (mi := mX11_isLineWord) (o := 0) (As := [.int v6, .int 0, .int 2]) (rest := []) hG (dc dl_X11_isLineWord 9 rfl) mo_X11_isIn mv_X11_isIn ml_X11_150 ⟨Nat.le_of_ble_eq_true rfl, Nat.le_of_ble_eq_true rfl⟩ rfl rfl (Nat.le_of_ble_eq_true rfl) lk_Mo_0 rfl) (cn_X11_isIn l G hG ad v6 0 2) rfl (fun r7 => ?_)
        refine s_if_eq (pc := 18) (tgt := 25) (dc dl_X11_isLineWord 10 rfl) rfl ?_ ?_
        · exact s_wk (hj4 ()) rfl
        · refine s_iconst (pc := 21) (v := 1) (dc dl_X11_isLineWord 11 rfl) ic_1 ?_
          refine s_goto (pc := 22) (tgt := 26) (dc dl_X11_isLineWord 12 rfl) rfl ?_
          exact s_wk (hj2 1) rfl
      · exact s_wk (hj4 ()) rfl
def gX11_readLaw : MM Int32 :=
  loopC 100000 (fun (self1 : Int32 → MM Int32) (s2 : Int32) =>
  bd gX11_isLineWord fun r3 =>
  (if r3 = 0 then
  bd (ld 0 16) fun v4 =>
  jn (fun (a6 : Int32) =>
  pr a6) (fun j5 =>
  (if v4 = 0 then
  j5 s2
  else
  bd (gX11_errs 1) fun r7 =>
  j5 r7))
  else
  (if s2 = 16 then
  bd (gX11_errs 3) fun r24 =>
  pr r24
  else
  lt (32 + s2) fun y8 =>
  bd (ld 0 17) fun v9 =>
  bd (sa 10 y8 v9) fun _ =>
  bd gX11_reads fun r10 =>
  bd (ld 0 27) fun v11 =>
  bd (sa 11 y8 v11) fun _ =>
  bd gX11_readSum fun r12 =>
  (if r12 = ((-1)) then
  pr ((-1))
  else
  bd (ld 0 27) fun v13 =>
  bd (sa 12 y8 v13) fun _ =>
  bd (gX11_isWord 3) fun r14 =>
  jn (fun (a16 : Unit) =>
  bd (ld 0 27) fun v17 =>
  bd (sa 13 y8 v17) fun _ =>
  bd (gX11_isSign 59) fun r18 =>
  (if r18 = 0 then
  bd (gX11_errs 1) fun r21 =>
  pr r21
  else
  bd gX11_reads fun r19 =>
  lt (s2 + 1) fun y20 =>
  self1 y20)) (fun j15 =>
  (if r14 = 0 then
  j15 ()
  else
  bd gX11_reads fun r22 =>
  bd gX11_readAny fun r23 =>
  (if r23 = ((-1)) then
  pr ((-1))
  else
  j15 ()))))))) 0
set_option maxHeartbeats 4000000 in
theorem cn_X11_readLaw (l : Launch) (G : Gl) (hG : gOk G) (ad : Nat → Nat) : Cn l G mX11_readLaw 8 lay_Mo ad [.ref (ad 0)] (gX11_readLaw) := by
  refine cn_of (lv := [some (.ref (ad 0)), none, none]) (by decide +kernel) rfl (Nat.le_of_ble_eq_true rfl) rfl ?_
  unfold gX11_readLaw
  refine s_iconst (pc := 0) (v := 0) (dc dl_X11_readLaw 0 rfl) ic_0 ?_
  refine s_istore_n (pc := 1) (lv' := [some (.ref (ad 0)), some (.int 0), none]) (dc dl_X11_readLaw 1 rfl) rfl (Nat.le_of_ble_eq_true rfl) rfl ?_
  refine s_weak (lv' := [some (.ref (ad 0)), some (.int 0), none]) rfl ?_
  refine s_loop (pc := 2) (fun s2 : Int32 => [some (.ref (ad 0)), some (.int s2), none]) [] (fun self1 hself1 s2 => ?_) _ 0
  refine s_aload_n (pc := 2) (dc dl_X11_readLaw 2 rfl) rfl rfl ?_
  refine s_call (pc := 3) (rest := []) hG (calls_V (mi := mX11_readLaw) (o := 0) (As := []) (rest := []) hG (dc dl_X11_readLaw 3 rfl) mo_X11_isLineWord mv_X11_isLineWord ml_X11_261 ⟨Nat.le_of_ble_eq_true rfl, Nat.le_of_ble_eq_true rfl⟩ rfl rfl (Nat.le_of_ble_eq_true rfl) lk_Mo_0 rfl) (cn_X11_isLineWord l G hG ad) rfl (fun r3 => ?_)
  refine s_if_eq (pc := 6) (tgt := 128) (dc dl_X11_readLaw 4 rfl) rfl ?_ ?_
  · refine s_aload_n (pc := 128) (dc dl_X11_readLaw 75 rfl) rfl rfl ?_
    refine s_getI (pc := 129) fl_X11_190 lk_Mo_0 kk_Mo_0_16 (dc dl_X11_readLaw 76 rfl) (fun v4 => ?_)
    refine s_jn (pj := 144) (fun a6 : Int32 => [none, none, none]) (fun a6 : Int32 => [.int a6]) (fun a6 => ?_) (fun j5 hj5 => ?_)
    · exact s_ireturn (pc := 144) rfl (dc dl_X11_readLaw 83 rfl)
    · refine s_if_ne (pc := 132) (tgt := 139) (dc dl_X11_readLaw 77 rfl) rfl ?_ ?_
      · refine s_iload_n (pc := 135) (dc dl_X11_readLaw 78 rfl) rfl rfl ?_
        refine s_goto (pc := 136) (tgt := 144) (dc dl_X11_readLaw 79 rfl) rfl ?_
        exact s_wk (hj5 s2) rfl
      · refine s_aload_n (pc := 139) (dc dl_X11_readLaw 80 rfl) rfl rfl ?_
        refine s_iconst (pc := 140) (v := 1) (dc dl_X11_readLaw 81 rfl) ic_1 ?_
        refine s_call (pc := 141) (rest := []) hG (calls_V (mi := mX11_readLaw) (o := 0) (As := [.int 1]) (rest := []) hG (dc dl_X11_readLaw 82 rfl) mo_X11_errs mv_X11_errs ml_X11_220 ⟨Nat.le_of_ble_eq_true rfl, Nat.le_of_ble_eq_true rfl⟩ rfl rfl (Nat.le_of_ble_eq_true rfl) lk_Mo_0 rfl) (cn_X11_errs l G hG ad 1) rfl (fun r7 => ?_)
        exact s_wk (hj5 r7) rfl
  · refine s_iload_n (pc := 9) (dc dl_X11_readLaw 5 rfl) rfl rfl ?_
    refine s_bipush (pc := 10) (v := 16) (dc dl_X11_readLaw 6 rfl) bi_16 ?_
    refine s_icmp_ne (pc := 12) (tgt := 21) (dc dl_X11_readLaw 7 rfl) rfl ?_ ?_
    · refine s_aload_n (pc := 15) (dc dl_X11_readLaw 8 rfl) rfl rfl ?_
      refine s_iconst (pc := 16) (v := 3) (dc dl_X11_readLaw 9 rfl) ic_3 ?_
      refine s_call (pc := 17) (rest := []) hG (calls_V (mi := mX11_readLaw) (o := 0) (As := [.int 3]) (rest := []) hG (dc dl_X11_readLaw 10 rfl) mo_X11_errs mv_X11_errs ml_X11_220 ⟨Nat.le_of_ble_eq_true rfl, Nat.le_of_ble_eq_true rfl⟩ rfl rfl (Nat.le_of_ble_eq_true rfl) lk_Mo_0 rfl) (cn_X11_errs l G hG ad 3) rfl (fun r24 => ?_)
      exact s_ireturn (pc := 20) rfl (dc dl_X11_readLaw 11 rfl)
    · refine s_bipush (pc := 21) (v := 32) (dc dl_X11_readLaw 12 rfl) bi_32 ?_
      refine s_iload_n (pc := 23) (dc dl_X11_readLaw 13 rfl) rfl rfl ?_
      refine s_iadd (pc := 24) (dc dl_X11_readLaw 14 rfl) ?_
      refine s_istore_nL (pc := 25) (lf' := fun y8 => [some (.ref (ad 0)), some (.int s2), some (.int y8)]) (dc dl_X11_readLaw 15 rfl) rfl (Nat.le_of_ble_eq_true rfl) (fun _ => rfl) (fun y8 => ?_)
      refine s_aload_n (pc := 26) (dc dl_X11_readLaw 16 rfl) rfl rfl ?_
      refine s_getR (pc := 27) fl_X11_37 lk_Mo_0 kk_Mo_0_20 (dc dl_X11_readLaw 17 rfl) ?_
      refine s_iload_n (pc := 30) (dc dl_X11_readLaw 18 rfl) rfl rfl ?_
      refine s_aload_n (pc := 31) (dc dl_X11_readLaw 19 rfl) rfl rfl ?_
      refine s_getI (pc := 32) fl_X11_193 lk_Mo_0 kk_Mo_0_17 (dc dl_X11_readLaw 20 rfl) (fun v9 => ?_)
      refine s_iast (pc := 35) lk_Mo_10 (dc dl_X11_readLaw 21 rfl) ?_
      refine s_aload_n (pc := 36) (dc dl_X11_readLaw 22 rfl) rfl rfl ?_
      refine s_callv (pc := 37) (rest := []) hG (calls_V (mi := mX11_readLaw) (o := 0) (As := []) (rest := []) hG (dc dl_X11_readLaw 23 rfl) mo_X11_reads mv_X11_reads ml_X11_227 ⟨Nat.le_of_ble_eq_true rfl, Nat.le_of_ble_eq_true rfl⟩ rfl rfl (Nat.le_of_ble_eq_true rfl) lk_Mo_0 rfl) (cn_X11_reads l G hG ad) rfl (fun r10 => ?_)
      refine s_aload_n (pc := 40) (dc dl_X11_readLaw 24 rfl) rfl rfl ?_
      refine s_getR (pc := 41) fl_X11_40 lk_Mo_0 kk_Mo_0_21 (dc dl_X11_readLaw 25 rfl) ?_
      refine s_iload_n (pc := 44) (dc dl_X11_readLaw 26 rfl) rfl rfl ?_
      refine s_aload_n (pc := 45) (dc dl_X11_readLaw 27 rfl) rfl rfl ?_
      refine s_getI (pc := 46) fl_X11_214 lk_Mo_0 kk_Mo_0_27 (dc dl_X11_readLaw 28 rfl) (fun v11 => ?_)
      refine s_iast (pc := 49) lk_Mo_11 (dc dl_X11_readLaw 29 rfl) ?_
      refine s_aload_n (pc := 50) (dc dl_X11_readLaw 30 rfl) rfl rfl ?_
      refine s_call (pc := 51) (rest := []) hG (calls_V (mi := mX11_readLaw) (o := 0) (As := []) (rest := []) hG (dc dl_X11_readLaw 31 rfl) mo_X11_readSum mv_X11_readSum ml_X11_240 ⟨Nat.le_of_ble_eq_true rfl, Nat.le_of_ble_eq_true rfl⟩ rfl rfl (Nat.le_of_ble_eq_true rfl) lk_Mo_0 rfl) (cn_X11_readSum l G hG ad) rfl (fun r12 => ?_)
      refine s_iconst (pc := 54) (v := (-1)) (dc dl_X11_readLaw 32 rfl) ic_m1 ?_
      refine s_icmp_ne (pc := 55) (tgt := 60) (dc dl_X11_readLaw 33 rfl) rfl ?_ ?_
      · refine s_iconst (pc := 58) (v := (-1)) (dc dl_X11_readLaw 34 rfl) ic_m1 ?_
        exact s_ireturn (pc := 59) rfl (dc dl_X11_readLaw 35 rfl)
      · refine s_aload_n (pc := 60) (dc dl_X11_readLaw 36 rfl) rfl rfl ?_
        refine s_getR (pc := 61) fl_X11_43 lk_Mo_0 kk_Mo_0_22 (dc dl_X11_readLaw 37 rfl) ?_
        refine s_iload_n (pc := 64) (dc dl_X11_readLaw 38 rfl) rfl rfl ?_
        refine s_aload_n (pc := 65) (dc dl_X11_readLaw 39 rfl) rfl rfl ?_
        refine s_getI (pc := 66) fl_X11_214 lk_Mo_0 kk_Mo_0_27 (dc dl_X11_readLaw 40 rfl) (fun v13 => ?_)
        refine s_iast (pc := 69) lk_Mo_12 (dc dl_X11_readLaw 41 rfl) ?_
        refine s_aload_n (pc := 70) (dc dl_X11_readLaw 42 rfl) rfl rfl ?_
        refine s_iconst (pc := 71) (v := 3) (dc dl_X11_readLaw 43 rfl) ic_3 ?_
        refine s_call (pc := 72) (rest := []) hG (calls_V (mi := mX11_readLaw) (o := 0) (As := [.int 3]) (rest := []) hG (dc dl_X11_readLaw 44 rfl) mo_X11_isWord mv_X11_isWord ml_X11_249 ⟨Nat.le_of_ble_eq_true rfl, Nat.le_of_ble_eq_true rfl⟩ rfl rfl (Nat.le_of_ble_eq_true rfl) lk_Mo_0 rfl) (cn_X11_isWord l G hG ad 3) rfl (fun r14 => ?_)
        refine s_jn (pj := 92) (fun a16 : Unit => [some (.ref (ad 0)), some (.int s2), some (.int y8)]) (fun a16 : Unit => []) (fun a16 => ?_) (fun j15 hj15 => ?_)
        · refine s_aload_n (pc := 92) (dc dl_X11_readLaw 54 rfl) rfl rfl ?_
          refine s_getR (pc := 93) fl_X11_46 lk_Mo_0 kk_Mo_0_23 (dc dl_X11_readLaw 55 rfl) ?_
          refine s_iload_n (pc := 96) (dc dl_X11_readLaw 56 rfl) rfl rfl ?_
          refine s_aload_n (pc := 97) (dc dl_X11_readLaw 57 rfl) rfl rfl ?_
          refine s_getI (pc := 98) fl_X11_214 lk_Mo_0 kk_Mo_0_27 (dc dl_X11_readLaw 58 rfl) (fun v17 => ?_)
          refine s_iast (pc := 101) lk_Mo_13 (dc dl_X11_readLaw 59 rfl) ?_
          refine s_aload_n (pc := 102) (dc dl_X11_readLaw 60 rfl) rfl rfl ?_
          refine s_bipush (pc := 103) (v := 59) (dc dl_X11_readLaw 61 rfl) bi_59 ?_
          refine s_call (pc := 105) (rest := []) hG (calls_V (mi := mX11_readLaw) (o := 0) (As := [.int 59]) (rest := []) hG (dc dl_X11_readLaw 62 rfl) mo_X11_isSign mv_X11_isSign ml_X11_234 ⟨Nat.le_of_ble_eq_true rfl, Nat.le_of_ble_eq_true rfl⟩ rfl rfl (Nat.le_of_ble_eq_true rfl) lk_Mo_0 rfl) (cn_X11_isSign l G hG ad 59) rfl (fun r18 => ?_)
          refine s_if_ne (pc := 108) (tgt := 117) (dc dl_X11_readLaw 63 rfl) rfl ?_ ?_
          · refine s_aload_n (pc := 111) (dc dl_X11_readLaw 64 rfl) rfl rfl ?_
            refine s_iconst (pc := 112) (v := 1) (dc dl_X11_readLaw 65 rfl) ic_1 ?_
            refine s_call (pc := 113) (rest := []) hG (calls_V (mi := mX11_readLaw) (o := 0) (As := [.int 1]) (rest := []) hG (dc dl_X11_readLaw 66 rfl) mo_X11_errs mv_X11_errs ml_X11_220 ⟨Nat.le_of_ble_eq_true rfl, Nat.le_of_ble_eq_true rfl⟩ rfl rfl (Nat.le_of_ble_eq_true rfl) lk_Mo_0 rfl) (cn_X11_errs l G hG ad 1) rfl (fun r21 => ?_)
            exact s_ireturn (pc := 116) rfl (dc dl_X11_readLaw 67 rfl)
          · refine s_aload_n (pc := 117) (dc dl_X11_readLaw 68 rfl) rfl rfl ?_
            refine s_callv (pc := 118) (rest := []) hG (calls_V (mi := mX11_readLaw) (o := 0) (As := []) (rest := []) hG (dc dl_X11_readLaw 69 rfl) mo_X11_reads mv_X11_reads ml_X11_227 ⟨Nat.le_of_ble_eq_true rfl, Nat.le_of_ble_eq_true rfl⟩ rfl rfl (Nat.le_of_ble_eq_true rfl) lk_Mo_0 rfl) (cn_X11_reads l G hG ad) rfl (fun r19 => ?_)
            refine s_iload_n (pc := 121) (dc dl_X11_readLaw 70 rfl) rfl rfl ?_
            refine s_iconst (pc := 122) (v := 1) (dc dl_X11_readLaw 71 rfl) ic_1 ?_
            refine s_iadd (pc := 123) (dc dl_X11_readLaw 72 rfl) ?_
            refine s_istore_nL (pc := 124) (lf' := fun y20 => [some (.ref (ad 0)), some (.int y20), some (.int y8)]) (dc dl_X11_readLaw 73 rfl) rfl (Nat.le_of_ble_eq_true rfl) (fun _ => rfl) (fun y20 => ?_)
            refine s_goto (pc := 125) (tgt := 2) (dc dl_X11_readLaw 74 rfl) rfl ?_
            exact s_wk (hself1 y20) rfl
        · refine s_if_eq (pc := 75) (tgt := 92) (dc dl_X11_readLaw 45 rfl) rfl ?_ ?_
          · exact s_wk (hj15 ()) rfl
          · refine s_aload_n (pc := 78) (dc dl_X11_readLaw 46 rfl) rfl rfl ?_
            refine s_callv (pc := 79) (rest := []) hG (calls_V (mi := mX11_readLaw) (o := 0) (As := []) (rest := []) hG (dc dl_X11_readLaw 47 rfl) mo_X11_reads mv_X11_reads ml_X11_227 ⟨Nat.le_of_ble_eq_true rfl, Nat.le_of_ble_eq_true rfl⟩ rfl rfl (Nat.le_of_ble_eq_true rfl) lk_Mo_0 rfl) (cn_X11_reads l G hG ad) rfl (fun r22 => ?_)
            refine s_aload_n (pc := 82) (dc dl_X11_readLaw 48 rfl) rfl rfl ?_
            refine s_call (pc := 83) (rest := []) hG (calls_V (mi := mX11_readLaw) (o := 0) (As := []) (rest := []) hG (dc dl_X11_readLaw 49 rfl) mo_X11_readAny mv_X11_readAny ml_X11_265 ⟨Nat.le_of_ble_eq_true rfl, Nat.le_of_ble_eq_true rfl⟩ rfl rfl (Nat.le_of_ble_eq_true rfl) lk_Mo_0 rfl) (cn_X11_readAny l G hG ad) rfl (fun r23 => ?_)
            refine s_iconst (pc := 86) (v := (-1)) (dc dl_X11_readLaw 50 rfl) ic_m1 ?_
            refine s_icmp_ne (pc := 87) (tgt := 92) (dc dl_X11_readLaw 51 rfl) rfl ?_ ?_
            · refine s_iconst (pc := 90) (v := (-1)) (dc dl_X11_readLaw 52 rfl) ic_m1 ?_
              exact s_ireturn (pc := 91) rfl (dc dl_X11_readLaw 53 rfl)
            · exact s_wk (hj15 ()) rfl
def gX11_takesLaw (x1 : Int32) : MM Int32 :=
  loopC 100000 (fun (self1 : Int32 → MM Int32) (s2 : Int32) =>
  (if x1 ≤ s2 then
  loopC 100000 (fun (self3 : Int32 → MM Int32) (s4 : Int32) =>
  bd (ld 0 27) fun v5 =>
  (if v5 ≤ s4 then
  bd (ld 0 26) fun v6 =>
  bd (sa 9 v6 x1) fun _ =>
  pr 0
  else
  bd (ld 0 26) fun v7 =>
  bd (la 14 (800 + s4)) fun v8 =>
  bd (sa 14 ((400 * v7) + s4) v8) fun _ =>
  bd (ld 0 26) fun v9 =>
  bd (la 15 (800 + s4)) fun v10 =>
  bd (sa 15 ((400 * v9) + s4) v10) fun _ =>
  lt (s4 + 1) fun y11 =>
  self3 y11)) 0
  else
  bd (ld 0 26) fun v12 =>
  bd (la 10 (32 + s2)) fun v13 =>
  bd (sa 10 ((16 * v12) + s2) v13) fun _ =>
  bd (ld 0 26) fun v14 =>
  bd (la 11 (32 + s2)) fun v15 =>
  bd (sa 11 ((16 * v14) + s2) v15) fun _ =>
  bd (ld 0 26) fun v16 =>
  bd (la 12 (32 + s2)) fun v17 =>
  bd (sa 12 ((16 * v16) + s2) v17) fun _ =>
  bd (ld 0 26) fun v18 =>
  bd (la 13 (32 + s2)) fun v19 =>
  bd (sa 13 ((16 * v18) + s2) v19) fun _ =>
  lt (s2 + 1) fun y20 =>
  self1 y20)) 0
set_option maxHeartbeats 4000000 in
theorem cn_X11_takesLaw (l : Launch) (G : Gl) (hG : gOk G) (ad : Nat → Nat) (x1 : Int32) : Cn l G mX11_takesLaw 0 lay_Mo ad [.ref (ad 0), .int x1] (gX11_takesLaw x1) := by
  refine cn_of (lv := [some (.ref (ad 0)), some (.int x1), none]) (by decide +kernel) rfl (Nat.le_of_ble_eq_true rfl) rfl ?_
  unfold gX11_takesLaw
  refine s_iconst (pc := 0) (v := 0) (dc dl_X11_takesLaw 0 rfl) ic_0 ?_
  refine s_istore_n (pc := 1) (lv' := [some (.ref (ad 0)), some (.int x1), some (.int 0)]) (dc dl_X11_takesLaw 1 rfl) rfl (Nat.le_of_ble_eq_true rfl) rfl ?_
  refine s_weak (lv' := [some (.ref (ad 0)), some (.int x1), some (.int 0)]) rfl ?_
  refine s_loop (pc := 2) (fun s2 : Int32 => [some (.ref (ad 0)), some (.int x1), some (.int s2)]) [] (fun self1 hself1 s2 => ?_) _ 0
  refine s_iload_n (pc := 2) (dc dl_X11_takesLaw 2 rfl) rfl rfl ?_
  refine s_iload_n (pc := 3) (dc dl_X11_takesLaw 3 rfl) rfl rfl ?_
  refine s_icmp_ge (pc := 4) (tgt := 105) (dc dl_X11_takesLaw 4 rfl) rfl ?_ ?_
  · refine s_iconst (pc := 105) (v := 0) (dc dl_X11_takesLaw 67 rfl) ic_0 ?_
    refine s_istore_n (pc := 106) (lv' := [some (.ref (ad 0)), some (.int x1), some (.int 0)]) (dc dl_X11_takesLaw 68 rfl) rfl (Nat.le_of_ble_eq_true rfl) rfl ?_
    refine s_weak (lv' := [some (.ref (ad 0)), some (.int x1), some (.int 0)]) rfl ?_
    refine s_loop (pc := 107) (fun s4 : Int32 => [some (.ref (ad 0)), some (.int x1), some (.int s4)]) [] (fun self3 hself3 s4 => ?_) _ 0
    refine s_iload_n (pc := 107) (dc dl_X11_takesLaw 69 rfl) rfl rfl ?_
    refine s_aload_n (pc := 108) (dc dl_X11_takesLaw 70 rfl) rfl rfl ?_
    refine s_getI (pc := 109) fl_X11_214 lk_Mo_0 kk_Mo_0_27 (dc dl_X11_takesLaw 71 rfl) (fun v5 => ?_)
    refine s_icmp_ge (pc := 112) (tgt := 171) (dc dl_X11_takesLaw 72 rfl) rfl ?_ ?_
    · refine s_aload_n (pc := 171) (dc dl_X11_takesLaw 105 rfl) rfl rfl ?_
      refine s_getR (pc := 172) fl_X11_34 lk_Mo_0 kk_Mo_0_19 (dc dl_X11_takesLaw 106 rfl) ?_
      refine s_aload_n (pc := 175) (dc dl_X11_takesLaw 107 rfl) rfl rfl ?_
      refine s_getI (pc := 176) fl_X11_268 lk_Mo_0 kk_Mo_0_26 (dc dl_X11_takesLaw 108 rfl) (fun v6 => ?_)
      refine s_iload_n (pc := 179) (dc dl_X11_takesLaw 109 rfl) rfl rfl ?_
      refine s_iast (pc := 180) lk_Mo_9 (dc dl_X11_takesLaw 110 rfl) ?_
      exact s_return (pc := 181) rfl (dc dl_X11_takesLaw 111 rfl)
    · refine s_aload_n (pc := 115) (dc dl_X11_takesLaw 73 rfl) rfl rfl ?_
      refine s_getR (pc := 116) fl_X11_49 lk_Mo_0 kk_Mo_0_24 (dc dl_X11_takesLaw 74 rfl) ?_
      refine s_sipush (pc := 119) (v := 400) (dc dl_X11_takesLaw 75 rfl) si_400 ?_
      refine s_aload_n (pc := 122) (dc dl_X11_takesLaw 76 rfl) rfl rfl ?_
      refine s_getI (pc := 123) fl_X11_268 lk_Mo_0 kk_Mo_0_26 (dc dl_X11_takesLaw 77 rfl) (fun v7 => ?_)
      refine s_imul (pc := 126) (dc dl_X11_takesLaw 78 rfl) ?_
      refine s_iload_n (pc := 127) (dc dl_X11_takesLaw 79 rfl) rfl rfl ?_
      refine s_iadd (pc := 128) (dc dl_X11_takesLaw 80 rfl) ?_
      refine s_aload_n (pc := 129) (dc dl_X11_takesLaw 81 rfl) rfl rfl ?_
      refine s_getR (pc := 130) fl_X11_49 lk_Mo_0 kk_Mo_0_24 (dc dl_X11_takesLaw 82 rfl) ?_
      refine s_sipush (pc := 133) (v := 800) (dc dl_X11_takesLaw 83 rfl) si_800 ?_
      refine s_iload_n (pc := 136) (dc dl_X11_takesLaw 84 rfl) rfl rfl ?_
      refine s_iadd (pc := 137) (dc dl_X11_takesLaw 85 rfl) ?_
      refine s_iald (pc := 138) lk_Mo_14 (dc dl_X11_takesLaw 86 rfl) (fun v8 => ?_)
      refine s_iast (pc := 139) lk_Mo_14 (dc dl_X11_takesLaw 87 rfl) ?_
      refine s_aload_n (pc := 140) (dc dl_X11_takesLaw 88 rfl) rfl rfl ?_
      refine s_getR (pc := 141) fl_X11_52 lk_Mo_0 kk_Mo_0_25 (dc dl_X11_takesLaw 89 rfl) ?_
      refine s_sipush (pc := 144) (v := 400) (dc dl_X11_takesLaw 90 rfl) si_400 ?_
      refine s_aload_n (pc := 147) (dc dl_X11_takesLaw 91 rfl) rfl rfl ?_
      refine s_getI (pc := 148) fl_X11_268 lk_Mo_0 kk_Mo_0_26 (dc dl_X11_takesLaw 92 rfl) (fun v9 => ?_)
      refine s_imul (pc := 151) (dc dl_X11_takesLaw 93 rfl) ?_
      refine s_iload_n (pc := 152) (dc dl_X11_takesLaw 94 rfl) rfl rfl ?_
      refine s_iadd (pc := 153) (dc dl_X11_takesLaw 95 rfl) ?_
      refine s_aload_n (pc := 154) (dc dl_X11_takesLaw 96 rfl) rfl rfl ?_
      refine s_getR (pc := 155) fl_X11_52 lk_Mo_0 kk_Mo_0_25 (dc dl_X11_takesLaw 97 rfl) ?_
      refine s_sipush (pc := 158) (v := 800) (dc dl_X11_takesLaw 98 rfl) si_800 ?_
      refine s_iload_n (pc := 161) (dc dl_X11_takesLaw 99 rfl) rfl rfl ?_
      refine s_iadd (pc := 162) (dc dl_X11_takesLaw 100 rfl) ?_
      refine s_iald (pc := 163) lk_Mo_15 (dc dl_X11_takesLaw 101 rfl) (fun v10 => ?_)
      refine s_iast (pc := 164) lk_Mo_15 (dc dl_X11_takesLaw 102 rfl) ?_
      refine s_iincL (pc := 165) (lf' := fun y11 => [some (.ref (ad 0)), some (.int x1), some (.int y11)]) (dc dl_X11_takesLaw 103 rfl) rfl rfl (Nat.le_of_ble_eq_true rfl) (fun _ => rfl) (fun y11 => ?_)
      refine s_goto (pc := 168) (tgt := 107) (dc dl_X11_takesLaw 104 rfl) rfl ?_
      exact s_wk (hself3 y11) rfl
  · refine s_aload_n (pc := 7) (dc dl_X11_takesLaw 5 rfl) rfl rfl ?_
    refine s_getR (pc := 8) fl_X11_37 lk_Mo_0 kk_Mo_0_20 (dc dl_X11_takesLaw 6 rfl) ?_
    refine s_bipush (pc := 11) (v := 16) (dc dl_X11_takesLaw 7 rfl) bi_16 ?_
    refine s_aload_n (pc := 13) (dc dl_X11_takesLaw 8 rfl) rfl rfl ?_
    refine s_getI (pc := 14) fl_X11_268 lk_Mo_0 kk_Mo_0_26 (dc dl_X11_takesLaw 9 rfl) (fun v12 => ?_)
    refine s_imul (pc := 17) (dc dl_X11_takesLaw 10 rfl) ?_
    refine s_iload_n (pc := 18) (dc dl_X11_takesLaw 11 rfl) rfl rfl ?_
    refine s_iadd (pc := 19) (dc dl_X11_takesLaw 12 rfl) ?_
    refine s_aload_n (pc := 20) (dc dl_X11_takesLaw 13 rfl) rfl rfl ?_
    refine s_getR (pc := 21) fl_X11_37 lk_Mo_0 kk_Mo_0_20 (dc dl_X11_takesLaw 14 rfl) ?_
    refine s_bipush (pc := 24) (v := 32) (dc dl_X11_takesLaw 15 rfl) bi_32 ?_
    refine s_iload_n (pc := 26) (dc dl_X11_takesLaw 16 rfl) rfl rfl ?_
    refine s_iadd (pc := 27) (dc dl_X11_takesLaw 17 rfl) ?_
    refine s_iald (pc := 28) lk_Mo_10 (dc dl_X11_takesLaw 18 rfl) (fun v13 => ?_)
    refine s_iast (pc := 29) lk_Mo_10 (dc dl_X11_takesLaw 19 rfl) ?_
    refine s_aload_n (pc := 30) (dc dl_X11_takesLaw 20 rfl) rfl rfl ?_
    refine s_getR (pc := 31) fl_X11_40 lk_Mo_0 kk_Mo_0_21 (dc dl_X11_takesLaw 21 rfl) ?_
    refine s_bipush (pc := 34) (v := 16) (dc dl_X11_takesLaw 22 rfl) bi_16 ?_
    refine s_aload_n (pc := 36) (dc dl_X11_takesLaw 23 rfl) rfl rfl ?_
    refine s_getI (pc := 37) fl_X11_268 lk_Mo_0 kk_Mo_0_26 (dc dl_X11_takesLaw 24 rfl) (fun v14 => ?_)
    refine s_imul (pc := 40) (dc dl_X11_takesLaw 25 rfl) ?_
    refine s_iload_n (pc := 41) (dc dl_X11_takesLaw 26 rfl) rfl rfl ?_
    refine s_iadd (pc := 42) (dc dl_X11_takesLaw 27 rfl) ?_
    refine s_aload_n (pc := 43) (dc dl_X11_takesLaw 28 rfl) rfl rfl ?_
    refine s_getR (pc := 44) fl_X11_40 lk_Mo_0 kk_Mo_0_21 (dc dl_X11_takesLaw 29 rfl) ?_
    refine s_bipush (pc := 47) (v := 32) (dc dl_X11_takesLaw 30 rfl) bi_32 ?_
    refine s_iload_n (pc := 49) (dc dl_X11_takesLaw 31 rfl) rfl rfl ?_
    refine s_iadd (pc := 50) (dc dl_X11_takesLaw 32 rfl) ?_
    refine s_iald (pc := 51) lk_Mo_11 (dc dl_X11_takesLaw 33 rfl) (fun v15 => ?_)
    refine s_iast (pc := 52) lk_Mo_11 (dc dl_X11_takesLaw 34 rfl) ?_
    refine s_aload_n (pc := 53) (dc dl_X11_takesLaw 35 rfl) rfl rfl ?_
    refine s_getR (pc := 54) fl_X11_43 lk_Mo_0 kk_Mo_0_22 (dc dl_X11_takesLaw 36 rfl) ?_
    refine s_bipush (pc := 57) (v := 16) (dc dl_X11_takesLaw 37 rfl) bi_16 ?_
    refine s_aload_n (pc := 59) (dc dl_X11_takesLaw 38 rfl) rfl rfl ?_
    refine s_getI (pc := 60) fl_X11_268 lk_Mo_0 kk_Mo_0_26 (dc dl_X11_takesLaw 39 rfl) (fun v16 => ?_)
    refine s_imul (pc := 63) (dc dl_X11_takesLaw 40 rfl) ?_
    refine s_iload_n (pc := 64) (dc dl_X11_takesLaw 41 rfl) rfl rfl ?_
    refine s_iadd (pc := 65) (dc dl_X11_takesLaw 42 rfl) ?_
    refine s_aload_n (pc := 66) (dc dl_X11_takesLaw 43 rfl) rfl rfl ?_
    refine s_getR (pc := 67) fl_X11_43 lk_Mo_0 kk_Mo_0_22 (dc dl_X11_takesLaw 44 rfl) ?_
    refine s_bipush (pc := 70) (v := 32) (dc dl_X11_takesLaw 45 rfl) bi_32 ?_
    refine s_iload_n (pc := 72) (dc dl_X11_takesLaw 46 rfl) rfl rfl ?_
    refine s_iadd (pc := 73) (dc dl_X11_takesLaw 47 rfl) ?_
    refine s_iald (pc := 74) lk_Mo_12 (dc dl_X11_takesLaw 48 rfl) (fun v17 => ?_)
    refine s_iast (pc := 75) lk_Mo_12 (dc dl_X11_takesLaw 49 rfl) ?_
    refine s_aload_n (pc := 76) (dc dl_X11_takesLaw 50 rfl) rfl rfl ?_
    refine s_getR (pc := 77) fl_X11_46 lk_Mo_0 kk_Mo_0_23 (dc dl_X11_takesLaw 51 rfl) ?_
    refine s_bipush (pc := 80) (v := 16) (dc dl_X11_takesLaw 52 rfl) bi_16 ?_
    refine s_aload_n (pc := 82) (dc dl_X11_takesLaw 53 rfl) rfl rfl ?_
    refine s_getI (pc := 83) fl_X11_268 lk_Mo_0 kk_Mo_0_26 (dc dl_X11_takesLaw 54 rfl) (fun v18 => ?_)
    refine s_imul (pc := 86) (dc dl_X11_takesLaw 55 rfl) ?_
    refine s_iload_n (pc := 87) (dc dl_X11_takesLaw 56 rfl) rfl rfl ?_
    refine s_iadd (pc := 88) (dc dl_X11_takesLaw 57 rfl) ?_
    refine s_aload_n (pc := 89) (dc dl_X11_takesLaw 58 rfl) rfl rfl ?_
    refine s_getR (pc := 90) fl_X11_46 lk_Mo_0 kk_Mo_0_23 (dc dl_X11_takesLaw 59 rfl) ?_
    refine s_bipush (pc := 93) (v := 32) (dc dl_X11_takesLaw 60 rfl) bi_32 ?_
    refine s_iload_n (pc := 95) (dc dl_X11_takesLaw 61 rfl) rfl rfl ?_
    refine s_iadd (pc := 96) (dc dl_X11_takesLaw 62 rfl) ?_
    refine s_iald (pc := 97) lk_Mo_13 (dc dl_X11_takesLaw 63 rfl) (fun v19 => ?_)
    refine s_iast (pc := 98) lk_Mo_13 (dc dl_X11_takesLaw 64 rfl) ?_
    refine s_iincL (pc := 99) (lf' := fun y20 => [some (.ref (ad 0)), some (.int x1), some (.int y20)]) (dc dl_X11_takesLaw 65 rfl) rfl rfl (Nat.le_of_ble_eq_true rfl) (fun _ => rfl) (fun y20 => ?_)
    refine s_goto (pc := 102) (tgt := 2) (dc dl_X11_takesLaw 66 rfl) rfl ?_
    exact s_wk (hself1 y20) rfl
def gX11_readNumber (x1 x2 : Int32) : MM Int32 :=
  bd (ld 0 16) fun v1 =>
  (if v1 = 3 then
  bd (ld 0 17) fun v2 =>
  bd (gX11_isIn v2 x1 x2) fun r3 =>
  (if r3 = 0 then
  bd (gX11_errs 2) fun r6 =>
  pr r6
  else
  bd (ld 0 17) fun v4 =>
  bd gX11_reads fun r5 =>
  pr v4)
  else
  bd (gX11_errs 1) fun r7 =>
  pr r7)
set_option maxHeartbeats 4000000 in
theorem cn_X11_readNumber (l : Launch) (G : Gl) (hG : gOk G) (ad : Nat → Nat) (x1 x2 : Int32) : Cn l G mX11_readNumber 3 lay_Mo ad [.ref (ad 0), .int x1, .int x2] (gX11_readNumber x1 x2) := by
  refine cn_of (lv := [some (.ref (ad 0)), some (.int x1), some (.int x2), none]) (by decide +kernel) rfl (Nat.le_of_ble_eq_true rfl) rfl ?_
  unfold gX11_readNumber
  refine s_aload_n (pc := 0) (dc dl_X11_readNumber 0 rfl) rfl rfl ?_
  refine s_getI (pc := 1) fl_X11_190 lk_Mo_0 kk_Mo_0_16 (dc dl_X11_readNumber 1 rfl) (fun v1 => ?_)
  refine s_iconst (pc := 4) (v := 3) (dc dl_X11_readNumber 2 rfl) ic_3 ?_
  refine s_icmp_eq (pc := 5) (tgt := 14) (dc dl_X11_readNumber 3 rfl) rfl ?_ ?_
  · refine s_aload_n (pc := 14) (dc dl_X11_readNumber 8 rfl) rfl rfl ?_
    refine s_aload_n (pc := 15) (dc dl_X11_readNumber 9 rfl) rfl rfl ?_
    refine s_getI (pc := 16) fl_X11_193 lk_Mo_0 kk_Mo_0_17 (dc dl_X11_readNumber 10 rfl) (fun v2 => ?_)
    refine s_iload_n (pc := 19) (dc dl_X11_readNumber 11 rfl) rfl rfl ?_
    refine s_iload_n (pc := 20) (dc dl_X11_readNumber 12 rfl) rfl rfl ?_
    refine s_call (pc := 21) (rest := []) hG (calls_V (mi := mX11_readNumber) (o := 0) (As := [.int v2, .int x1, .int x2]) (rest := []) hG (dc dl_X11_readNumber 13 rfl) mo_X11_isIn mv_X11_isIn ml_X11_150 ⟨Nat.le_of_ble_eq_true rfl, Nat.le_of_ble_eq_true rfl⟩ rfl rfl (Nat.le_of_ble_eq_true rfl) lk_Mo_0 rfl) (cn_X11_isIn l G hG ad v2 x1 x2) rfl (fun r3 => ?_)
    refine s_if_ne (pc := 24) (tgt := 33) (dc dl_X11_readNumber 14 rfl) rfl ?_ ?_
    · refine s_aload_n (pc := 27) (dc dl_X11_readNumber 15 rfl) rfl rfl ?_
      refine s_iconst (pc := 28) (v := 2) (dc dl_X11_readNumber 16 rfl) ic_2 ?_
      refine s_call (pc := 29) (rest := []) hG (calls_V (mi := mX11_readNumber) (o := 0) (As := [.int 2]) (rest := []) hG (dc dl_X11_readNumber 17 rfl) mo_X11_errs mv_X11_errs ml_X11_220 ⟨Nat.le_of_ble_eq_true rfl, Nat.le_of_ble_eq_true rfl⟩ rfl rfl (Nat.le_of_ble_eq_true rfl) lk_Mo_0 rfl) (cn_X11_errs l G hG ad 2) rfl (fun r6 => ?_)
      exact s_ireturn (pc := 32) rfl (dc dl_X11_readNumber 18 rfl)
    · refine s_aload_n (pc := 33) (dc dl_X11_readNumber 19 rfl) rfl rfl ?_
      refine s_getI (pc := 34) fl_X11_193 lk_Mo_0 kk_Mo_0_17 (dc dl_X11_readNumber 20 rfl) (fun v4 => ?_)
      refine s_istore_n (pc := 37) (lv' := [some (.ref (ad 0)), some (.int x1), some (.int x2), some (.int v4)]) (dc dl_X11_readNumber 21 rfl) rfl (Nat.le_of_ble_eq_true rfl) rfl ?_
      refine s_aload_n (pc := 38) (dc dl_X11_readNumber 22 rfl) rfl rfl ?_
      refine s_callv (pc := 39) (rest := []) hG (calls_V (mi := mX11_readNumber) (o := 0) (As := []) (rest := []) hG (dc dl_X11_readNumber 23 rfl) mo_X11_reads mv_X11_reads ml_X11_227 ⟨Nat.le_of_ble_eq_true rfl, Nat.le_of_ble_eq_true rfl⟩ rfl rfl (Nat.le_of_ble_eq_true rfl) lk_Mo_0 rfl) (cn_X11_reads l G hG ad) rfl (fun r5 => ?_)
      refine s_iload_n (pc := 42) (dc dl_X11_readNumber 24 rfl) rfl rfl ?_
      exact s_ireturn (pc := 43) rfl (dc dl_X11_readNumber 25 rfl)
  · refine s_aload_n (pc := 8) (dc dl_X11_readNumber 4 rfl) rfl rfl ?_
    refine s_iconst (pc := 9) (v := 1) (dc dl_X11_readNumber 5 rfl) ic_1 ?_
    refine s_call (pc := 10) (rest := []) hG (calls_V (mi := mX11_readNumber) (o := 0) (As := [.int 1]) (rest := []) hG (dc dl_X11_readNumber 6 rfl) mo_X11_errs mv_X11_errs ml_X11_220 ⟨Nat.le_of_ble_eq_true rfl, Nat.le_of_ble_eq_true rfl⟩ rfl rfl (Nat.le_of_ble_eq_true rfl) lk_Mo_0 rfl) (cn_X11_errs l G hG ad 1) rfl (fun r7 => ?_)
    exact s_ireturn (pc := 13) rfl (dc dl_X11_readNumber 7 rfl)
def gX11_readMark (x1 : Int32) : MM Int32 :=
  bd (gX11_isSign x1) fun r1 =>
  (if r1 = 0 then
  bd (gX11_errs 1) fun r3 =>
  pr r3
  else
  bd gX11_reads fun r2 =>
  pr 0)
set_option maxHeartbeats 4000000 in
theorem cn_X11_readMark (l : Launch) (G : Gl) (hG : gOk G) (ad : Nat → Nat) (x1 : Int32) : Cn l G mX11_readMark 3 lay_Mo ad [.ref (ad 0), .int x1] (gX11_readMark x1) := by
  refine cn_of (lv := [some (.ref (ad 0)), some (.int x1)]) (by decide +kernel) rfl (Nat.le_of_ble_eq_true rfl) rfl ?_
  unfold gX11_readMark
  refine s_aload_n (pc := 0) (dc dl_X11_readMark 0 rfl) rfl rfl ?_
  refine s_iload_n (pc := 1) (dc dl_X11_readMark 1 rfl) rfl rfl ?_
  refine s_call (pc := 2) (rest := []) hG (calls_V (mi := mX11_readMark) (o := 0) (As := [.int x1]) (rest := []) hG (dc dl_X11_readMark 2 rfl) mo_X11_isSign mv_X11_isSign ml_X11_234 ⟨Nat.le_of_ble_eq_true rfl, Nat.le_of_ble_eq_true rfl⟩ rfl rfl (Nat.le_of_ble_eq_true rfl) lk_Mo_0 rfl) (cn_X11_isSign l G hG ad x1) rfl (fun r1 => ?_)
  refine s_if_ne (pc := 5) (tgt := 14) (dc dl_X11_readMark 3 rfl) rfl ?_ ?_
  · refine s_aload_n (pc := 8) (dc dl_X11_readMark 4 rfl) rfl rfl ?_
    refine s_iconst (pc := 9) (v := 1) (dc dl_X11_readMark 5 rfl) ic_1 ?_
    refine s_call (pc := 10) (rest := []) hG (calls_V (mi := mX11_readMark) (o := 0) (As := [.int 1]) (rest := []) hG (dc dl_X11_readMark 6 rfl) mo_X11_errs mv_X11_errs ml_X11_220 ⟨Nat.le_of_ble_eq_true rfl, Nat.le_of_ble_eq_true rfl⟩ rfl rfl (Nat.le_of_ble_eq_true rfl) lk_Mo_0 rfl) (cn_X11_errs l G hG ad 1) rfl (fun r3 => ?_)
    exact s_ireturn (pc := 13) rfl (dc dl_X11_readMark 7 rfl)
  · refine s_aload_n (pc := 14) (dc dl_X11_readMark 8 rfl) rfl rfl ?_
    refine s_callv (pc := 15) (rest := []) hG (calls_V (mi := mX11_readMark) (o := 0) (As := []) (rest := []) hG (dc dl_X11_readMark 9 rfl) mo_X11_reads mv_X11_reads ml_X11_227 ⟨Nat.le_of_ble_eq_true rfl, Nat.le_of_ble_eq_true rfl⟩ rfl rfl (Nat.le_of_ble_eq_true rfl) lk_Mo_0 rfl) (cn_X11_reads l G hG ad) rfl (fun r2 => ?_)
    refine s_iconst (pc := 18) (v := 0) (dc dl_X11_readMark 10 rfl) ic_0 ?_
    exact s_ireturn (pc := 19) rfl (dc dl_X11_readMark 11 rfl)
def gX11_readTold (x1 x2 x3 : Int32) : MM Int32 :=
  bd (gX11_isWord x1) fun r1 =>
  (if r1 = 0 then
  bd (gX11_errs 1) fun r4 =>
  pr r4
  else
  bd gX11_reads fun r2 =>
  bd (gX11_readNumber x2 x3) fun r3 =>
  pr r3)
set_option maxHeartbeats 4000000 in
theorem cn_X11_readTold (l : Launch) (G : Gl) (hG : gOk G) (ad : Nat → Nat) (x1 x2 x3 : Int32) : Cn l G mX11_readTold 4 lay_Mo ad [.ref (ad 0), .int x1, .int x2, .int x3] (gX11_readTold x1 x2 x3) := by
  refine cn_of (lv := [some (.ref (ad 0)), some (.int x1), some (.int x2), some (.int x3)]) (by decide +kernel) rfl (Nat.le_of_ble_eq_true rfl) rfl ?_
  unfold gX11_readTold
  refine s_aload_n (pc := 0) (dc dl_X11_readTold 0 rfl) rfl rfl ?_
  refine s_iload_n (pc := 1) (dc dl_X11_readTold 1 rfl) rfl rfl ?_
  refine s_call (pc := 2) (rest := []) hG (calls_V (mi := mX11_readTold) (o := 0) (As := [.int x1]) (rest := []) hG (dc dl_X11_readTold 2 rfl) mo_X11_isWord mv_X11_isWord ml_X11_249 ⟨Nat.le_of_ble_eq_true rfl, Nat.le_of_ble_eq_true rfl⟩ rfl rfl (Nat.le_of_ble_eq_true rfl) lk_Mo_0 rfl) (cn_X11_isWord l G hG ad x1) rfl (fun r1 => ?_)
  refine s_if_ne (pc := 5) (tgt := 14) (dc dl_X11_readTold 3 rfl) rfl ?_ ?_
  · refine s_aload_n (pc := 8) (dc dl_X11_readTold 4 rfl) rfl rfl ?_
    refine s_iconst (pc := 9) (v := 1) (dc dl_X11_readTold 5 rfl) ic_1 ?_
    refine s_call (pc := 10) (rest := []) hG (calls_V (mi := mX11_readTold) (o := 0) (As := [.int 1]) (rest := []) hG (dc dl_X11_readTold 6 rfl) mo_X11_errs mv_X11_errs ml_X11_220 ⟨Nat.le_of_ble_eq_true rfl, Nat.le_of_ble_eq_true rfl⟩ rfl rfl (Nat.le_of_ble_eq_true rfl) lk_Mo_0 rfl) (cn_X11_errs l G hG ad 1) rfl (fun r4 => ?_)
    exact s_ireturn (pc := 13) rfl (dc dl_X11_readTold 7 rfl)
  · refine s_aload_n (pc := 14) (dc dl_X11_readTold 8 rfl) rfl rfl ?_
    refine s_callv (pc := 15) (rest := []) hG (calls_V (mi := mX11_readTold) (o := 0) (As := []) (rest := []) hG (dc dl_X11_readTold 9 rfl) mo_X11_reads mv_X11_reads ml_X11_227 ⟨Nat.le_of_ble_eq_true rfl, Nat.le_of_ble_eq_true rfl⟩ rfl rfl (Nat.le_of_ble_eq_true rfl) lk_Mo_0 rfl) (cn_X11_reads l G hG ad) rfl (fun r2 => ?_)
    refine s_aload_n (pc := 18) (dc dl_X11_readTold 10 rfl) rfl rfl ?_
    refine s_iload_n (pc := 19) (dc dl_X11_readTold 11 rfl) rfl rfl ?_
    refine s_iload_n (pc := 20) (dc dl_X11_readTold 12 rfl) rfl rfl ?_
    refine s_call (pc := 21) (rest := []) hG (calls_V (mi := mX11_readTold) (o := 0) (As := [.int x2, .int x3]) (rest := []) hG (dc dl_X11_readTold 13 rfl) mo_X11_readNumber mv_X11_readNumber ml_X11_271 ⟨Nat.le_of_ble_eq_true rfl, Nat.le_of_ble_eq_true rfl⟩ rfl rfl (Nat.le_of_ble_eq_true rfl) lk_Mo_0 rfl) (cn_X11_readNumber l G hG ad x2 x3) rfl (fun r3 => ?_)
    exact s_ireturn (pc := 24) rfl (dc dl_X11_readTold 14 rfl)
def gX11_readDeed (x1 : Int32) : MM Int32 :=
  bd (gX11_readTold 16 0 999) fun r1 =>
  bd (sa 17 x1 r1) fun _ =>
  bd (la 17 x1) fun v2 =>
  (if v2 = ((-1)) then
  pr ((-1))
  else
  bd (ld 0 16) fun v3 =>
  jn (fun (a5 : Unit) =>
  bd (gX11_errs 1) fun r6 =>
  pr r6) (fun j4 =>
  (if v3 = 2 then
  bd (ld 0 17) fun v7 =>
  bd (gX11_isIn v7 17 20) fun r8 =>
  (if r8 = 0 then
  j4 ()
  else
  bd (ld 0 17) fun v9 =>
  lt (v9 - 17) fun y10 =>
  bd gX11_reads fun r11 =>
  bd (sa 17 (x1 + 1) y10) fun _ =>
  jn (fun (a13 : Int32) =>
  bd (gX11_readNumber 0 (a13 - 1)) fun r14 =>
  bd (sa 17 (x1 + 2) r14) fun _ =>
  bd (la 17 (x1 + 2)) fun v15 =>
  (if v15 = ((-1)) then
  pr ((-1))
  else
  jn (fun (a17 : Int32) =>
  bd (sa 17 (x1 + 3) a17) fun _ =>
  bd (la 17 (x1 + 3)) fun v18 =>
  jn (fun (a20 : Int32) =>
  pr a20) (fun j19 =>
  (if v18 = ((-1)) then
  j19 ((-1))
  else
  bd (gX11_readMark 59) fun r21 =>
  j19 r21))) (fun j16 =>
  (if y10 = 0 then
  bd (ld 0 7) fun v24 =>
  bd (gX11_readNumber 0 (v24 - 1)) fun r25 =>
  j16 r25
  else
  (if y10 = 1 then
  bd (ld 0 6) fun v22 =>
  bd (gX11_readNumber 0 (v22 - 1)) fun r23 =>
  j16 r23
  else
  j16 0))))) (fun j12 =>
  (if y10 = 0 then
  bd (ld 0 8) fun v27 =>
  j12 v27
  else
  bd (ld 0 7) fun v26 =>
  j12 v26)))
  else
  j4 ())))
set_option maxHeartbeats 4000000 in
theorem cn_X11_readDeed (l : Launch) (G : Gl) (hG : gOk G) (ad : Nat → Nat) (x1 : Int32) : Cn l G mX11_readDeed 5 lay_Mo ad [.ref (ad 0), .int x1] (gX11_readDeed x1) := by
  refine cn_of (lv := [some (.ref (ad 0)), some (.int x1), none]) (by decide +kernel) rfl (Nat.le_of_ble_eq_true rfl) rfl ?_
  unfold gX11_readDeed
  refine s_aload_n (pc := 0) (dc dl_X11_readDeed 0 rfl) rfl rfl ?_
  refine s_getR (pc := 1) fl_X11_62 lk_Mo_0 kk_Mo_0_36 (dc dl_X11_readDeed 1 rfl) ?_
  refine s_iload_n (pc := 4) (dc dl_X11_readDeed 2 rfl) rfl rfl ?_
  refine s_aload_n (pc := 5) (dc dl_X11_readDeed 3 rfl) rfl rfl ?_
  refine s_bipush (pc := 6) (v := 16) (dc dl_X11_readDeed 4 rfl) bi_16 ?_
  refine s_iconst (pc := 8) (v := 0) (dc dl_X11_readDeed 5 rfl) ic_0 ?_
  refine s_sipush (pc := 9) (v := 999) (dc dl_X11_readDeed 6 rfl) si_999 ?_
  refine s_call (pc := 12) (rest := [.int x1, .ref (ad 17)]) hG (calls_V (mi := mX11_readDeed) (o := 0) (As := [.int 16, .int 0, .int 999]) (rest := [.int x1, .ref (ad 17)]) hG (dc dl_X11_readDeed 7 rfl) mo_X11_readTold mv_X11_readTold ml_X11_274 ⟨Nat.le_of_ble_eq_true rfl, Nat.le_of_ble_eq_true rfl⟩ rfl rfl (Nat.le_of_ble_eq_true rfl) lk_Mo_0 rfl) (cn_X11_readTold l G hG ad 16 0 999) rfl (fun r1 => ?_)
  refine s_iast (pc := 15) lk_Mo_17 (dc dl_X11_readDeed 8 rfl) ?_
  refine s_aload_n (pc := 16) (dc dl_X11_readDeed 9 rfl) rfl rfl ?_
  refine s_getR (pc := 17) fl_X11_62 lk_Mo_0 kk_Mo_0_36 (dc dl_X11_readDeed 10 rfl) ?_
  refine s_iload_n (pc := 20) (dc dl_X11_readDeed 11 rfl) rfl rfl ?_
  refine s_iald (pc := 21) lk_Mo_17 (dc dl_X11_readDeed 12 rfl) (fun v2 => ?_)
  refine s_iconst (pc := 22) (v := (-1)) (dc dl_X11_readDeed 13 rfl) ic_m1 ?_
  refine s_icmp_ne (pc := 23) (tgt := 28) (dc dl_X11_readDeed 14 rfl) rfl ?_ ?_
  · refine s_iconst (pc := 26) (v := (-1)) (dc dl_X11_readDeed 15 rfl) ic_m1 ?_
    exact s_ireturn (pc := 27) rfl (dc dl_X11_readDeed 16 rfl)
  · refine s_aload_n (pc := 28) (dc dl_X11_readDeed 17 rfl) rfl rfl ?_
    refine s_getI (pc := 29) fl_X11_190 lk_Mo_0 kk_Mo_0_16 (dc dl_X11_readDeed 18 rfl) (fun v3 => ?_)
    refine s_iconst (pc := 32) (v := 2) (dc dl_X11_readDeed 19 rfl) ic_2 ?_
    refine s_jn (pj := 51) (fun a5 : Unit => [some (.ref (ad 0)), none, none]) (fun a5 : Unit => []) (fun a5 => ?_) (fun j4 hj4 => ?_)
    · refine s_aload_n (pc := 51) (dc dl_X11_readDeed 28 rfl) rfl rfl ?_
      refine s_iconst (pc := 52) (v := 1) (dc dl_X11_readDeed 29 rfl) ic_1 ?_
      refine s_call (pc := 53) (rest := []) hG (calls_V (mi := mX11_readDeed) (o := 0) (As := [.int 1]) (rest := []) hG (dc dl_X11_readDeed 30 rfl) mo_X11_errs mv_X11_errs ml_X11_220 ⟨Nat.le_of_ble_eq_true rfl, Nat.le_of_ble_eq_true rfl⟩ rfl rfl (Nat.le_of_ble_eq_true rfl) lk_Mo_0 rfl) (cn_X11_errs l G hG ad 1) rfl (fun r6 => ?_)
      exact s_ireturn (pc := 56) rfl (dc dl_X11_readDeed 31 rfl)
    · refine s_icmp_ne (pc := 33) (tgt := 51) (dc dl_X11_readDeed 20 rfl) rfl ?_ ?_
      · refine s_aload_n (pc := 36) (dc dl_X11_readDeed 21 rfl) rfl rfl ?_
        refine s_aload_n (pc := 37) (dc dl_X11_readDeed 22 rfl) rfl rfl ?_
        refine s_getI (pc := 38) fl_X11_193 lk_Mo_0 kk_Mo_0_17 (dc dl_X11_readDeed 23 rfl) (fun v7 => ?_)
        refine s_bipush (pc := 41) (v := 17) (dc dl_X11_readDeed 24 rfl) bi_17 ?_
        refine s_bipush (pc := 43) (v := 20) (dc dl_X11_readDeed 25 rfl) bi_20 ?_
        refine s_call (pc := 45) (rest := []) hG (calls_V (mi := mX11_readDeed) (o := 0) (As := [.int v7, .int 17, .int 20]) (rest := []) hG (dc dl_X11_readDeed 26 rfl) mo_X11_isIn mv_X11_isIn ml_X11_150 ⟨Nat.le_of_ble_eq_true rfl, Nat.le_of_ble_eq_true rfl⟩ rfl rfl (Nat.le_of_ble_eq_true rfl) lk_Mo_0 rfl) (cn_X11_isIn l G hG ad v7 17 20) rfl (fun r8 => ?_)
        refine s_if_ne (pc := 48) (tgt := 57) (dc dl_X11_readDeed 27 rfl) rfl ?_ ?_
        · exact s_wk (hj4 ()) rfl
        · refine s_aload_n (pc := 57) (dc dl_X11_readDeed 32 rfl) rfl rfl ?_
          refine s_getI (pc := 58) fl_X11_193 lk_Mo_0 kk_Mo_0_17 (dc dl_X11_readDeed 33 rfl) (fun v9 => ?_)
          refine s_bipush (pc := 61) (v := 17) (dc dl_X11_readDeed 34 rfl) bi_17 ?_
          refine s_isub (pc := 63) (dc dl_X11_readDeed 35 rfl) ?_
          refine s_istore_nL (pc := 64) (lf' := fun y10 => [some (.ref (ad 0)), some (.int x1), some (.int y10)]) (dc dl_X11_readDeed 36 rfl) rfl (Nat.le_of_ble_eq_true rfl) (fun _ => rfl) (fun y10 => ?_)
          refine s_aload_n (pc := 65) (dc dl_X11_readDeed 37 rfl) rfl rfl ?_
          refine s_callv (pc := 66) (rest := []) hG (calls_V (mi := mX11_readDeed) (o := 0) (As := []) (rest := []) hG (dc dl_X11_readDeed 38 rfl) mo_X11_reads mv_X11_reads ml_X11_227 ⟨Nat.le_of_ble_eq_true rfl, Nat.le_of_ble_eq_true rfl⟩ rfl rfl (Nat.le_of_ble_eq_true rfl) lk_Mo_0 rfl) (cn_X11_reads l G hG ad) rfl (fun r11 => ?_)
          refine s_aload_n (pc := 69) (dc dl_X11_readDeed 39 rfl) rfl rfl ?_
          refine s_getR (pc := 70) fl_X11_62 lk_Mo_0 kk_Mo_0_36 (dc dl_X11_readDeed 40 rfl) ?_
          refine s_iload_n (pc := 73) (dc dl_X11_readDeed 41 rfl) rfl rfl ?_
          refine s_iconst (pc := 74) (v := 1) (dc dl_X11_readDeed 42 rfl) ic_1 ?_
          refine s_iadd (pc := 75) (dc dl_X11_readDeed 43 rfl) ?_
          refine s_iload_n (pc := 76) (dc dl_X11_readDeed 44 rfl) rfl rfl ?_
          refine s_iast (pc := 77) lk_Mo_17 (dc dl_X11_readDeed 45 rfl) ?_
          refine s_aload_n (pc := 78) (dc dl_X11_readDeed 46 rfl) rfl rfl ?_
          refine s_getR (pc := 79) fl_X11_62 lk_Mo_0 kk_Mo_0_36 (dc dl_X11_readDeed 47 rfl) ?_
          refine s_iload_n (pc := 82) (dc dl_X11_readDeed 48 rfl) rfl rfl ?_
          refine s_iconst (pc := 83) (v := 2) (dc dl_X11_readDeed 49 rfl) ic_2 ?_
          refine s_iadd (pc := 84) (dc dl_X11_readDeed 50 rfl) ?_
          refine s_aload_n (pc := 85) (dc dl_X11_readDeed 51 rfl) rfl rfl ?_
          refine s_iconst (pc := 86) (v := 0) (dc dl_X11_readDeed 52 rfl) ic_0 ?_
          refine s_iload_n (pc := 87) (dc dl_X11_readDeed 53 rfl) rfl rfl ?_
          refine s_jn (pj := 102) (fun a13 : Int32 => [some (.ref (ad 0)), some (.int x1), some (.int y10)]) (fun a13 : Int32 => [.int a13, .int 0, .ref (ad 0), .int (x1 + 2), .ref (ad 17)]) (fun a13 => ?_) (fun j12 hj12 => ?_)
          · refine s_iconst (pc := 102) (v := 1) (dc dl_X11_readDeed 60 rfl) ic_1 ?_
            refine s_isub (pc := 103) (dc dl_X11_readDeed 61 rfl) ?_
            refine s_call (pc := 104) (rest := [.int (x1 + 2), .ref (ad 17)]) hG (calls_V (mi := mX11_readDeed) (o := 0) (As := [.int 0, .int (a13 - 1)]) (rest := [.int (x1 + 2), .ref (ad 17)]) hG (dc dl_X11_readDeed 62 rfl) mo_X11_readNumber mv_X11_readNumber ml_X11_271 ⟨Nat.le_of_ble_eq_true rfl, Nat.le_of_ble_eq_true rfl⟩ rfl rfl (Nat.le_of_ble_eq_true rfl) lk_Mo_0 rfl) (cn_X11_readNumber l G hG ad 0 (a13 - 1)) rfl (fun r14 => ?_)
            refine s_iast (pc := 107) lk_Mo_17 (dc dl_X11_readDeed 63 rfl) ?_
            refine s_aload_n (pc := 108) (dc dl_X11_readDeed 64 rfl) rfl rfl ?_
            refine s_getR (pc := 109) fl_X11_62 lk_Mo_0 kk_Mo_0_36 (dc dl_X11_readDeed 65 rfl) ?_
            refine s_iload_n (pc := 112) (dc dl_X11_readDeed 66 rfl) rfl rfl ?_
            refine s_iconst (pc := 113) (v := 2) (dc dl_X11_readDeed 67 rfl) ic_2 ?_
            refine s_iadd (pc := 114) (dc dl_X11_readDeed 68 rfl) ?_
            refine s_iald (pc := 115) lk_Mo_17 (dc dl_X11_readDeed 69 rfl) (fun v15 => ?_)
            refine s_iconst (pc := 116) (v := (-1)) (dc dl_X11_readDeed 70 rfl) ic_m1 ?_
            refine s_icmp_ne (pc := 117) (tgt := 122) (dc dl_X11_readDeed 71 rfl) rfl ?_ ?_
            · refine s_iconst (pc := 120) (v := (-1)) (dc dl_X11_readDeed 72 rfl) ic_m1 ?_
              exact s_ireturn (pc := 121) rfl (dc dl_X11_readDeed 73 rfl)
            · refine s_aload_n (pc := 122) (dc dl_X11_readDeed 74 rfl) rfl rfl ?_
              refine s_getR (pc := 123) fl_X11_62 lk_Mo_0 kk_Mo_0_36 (dc dl_X11_readDeed 75 rfl) ?_
              refine s_iload_n (pc := 126) (dc dl_X11_readDeed 76 rfl) rfl rfl ?_
              refine s_iconst (pc := 127) (v := 3) (dc dl_X11_readDeed 77 rfl) ic_3 ?_
              refine s_iadd (pc := 128) (dc dl_X11_readDeed 78 rfl) ?_
              refine s_iload_n (pc := 129) (dc dl_X11_readDeed 79 rfl) rfl rfl ?_
              refine s_jn (pj := 167) (fun a17 : Int32 => [some (.ref (ad 0)), some (.int x1), none]) (fun a17 : Int32 => [.int a17, .int (x1 + 3), .ref (ad 17)]) (fun a17 => ?_) (fun j16 hj16 => ?_)
              · refine s_iast (pc := 167) lk_Mo_17 (dc dl_X11_readDeed 101 rfl) ?_
                refine s_aload_n (pc := 168) (dc dl_X11_readDeed 102 rfl) rfl rfl ?_
                refine s_getR (pc := 169) fl_X11_62 lk_Mo_0 kk_Mo_0_36 (dc dl_X11_readDeed 103 rfl) ?_
                refine s_iload_n (pc := 172) (dc dl_X11_readDeed 104 rfl) rfl rfl ?_
                refine s_iconst (pc := 173) (v := 3) (dc dl_X11_readDeed 105 rfl) ic_3 ?_
                refine s_iadd (pc := 174) (dc dl_X11_readDeed 106 rfl) ?_
                refine s_iald (pc := 175) lk_Mo_17 (dc dl_X11_readDeed 107 rfl) (fun v18 => ?_)
                refine s_iconst (pc := 176) (v := (-1)) (dc dl_X11_readDeed 108 rfl) ic_m1 ?_
                refine s_jn (pj := 190) (fun a20 : Int32 => [none, none, none]) (fun a20 : Int32 => [.int a20]) (fun a20 => ?_) (fun j19 hj19 => ?_)
                · exact s_ireturn (pc := 190) rfl (dc dl_X11_readDeed 115 rfl)
                · refine s_icmp_ne (pc := 177) (tgt := 184) (dc dl_X11_readDeed 109 rfl) rfl ?_ ?_
                  · refine s_iconst (pc := 180) (v := (-1)) (dc dl_X11_readDeed 110 rfl) ic_m1 ?_
                    refine s_goto (pc := 181) (tgt := 190) (dc dl_X11_readDeed 111 rfl) rfl ?_
                    exact s_wk (hj19 ((-1))) rfl
                  · refine s_aload_n (pc := 184) (dc dl_X11_readDeed 112 rfl) rfl rfl ?_
                    refine s_bipush (pc := 185) (v := 59) (dc dl_X11_readDeed 113 rfl) bi_59 ?_
                    refine s_call (pc := 187) (rest := []) hG (calls_V (mi := mX11_readDeed) (o := 0) (As := [.int 59]) (rest := []) hG (dc dl_X11_readDeed 114 rfl) mo_X11_readMark mv_X11_readMark ml_X11_278 ⟨Nat.le_of_ble_eq_true rfl, Nat.le_of_ble_eq_true rfl⟩ rfl rfl (Nat.le_of_ble_eq_true rfl) lk_Mo_0 rfl) (cn_X11_readMark l G hG ad 59) rfl (fun r21 => ?_)
                    exact s_wk (hj19 r21) rfl
              · refine s_if_ne (pc := 130) (tgt := 147) (dc dl_X11_readDeed 80 rfl) rfl ?_ ?_
                · refine s_aload_n (pc := 133) (dc dl_X11_readDeed 81 rfl) rfl rfl ?_
                  refine s_iconst (pc := 134) (v := 0) (dc dl_X11_readDeed 82 rfl) ic_0 ?_
                  refine s_aload_n (pc := 135) (dc dl_X11_readDeed 83 rfl) rfl rfl ?_
                  refine s_getI (pc := 136) fl_X11_140 lk_Mo_0 kk_Mo_0_7 (dc dl_X11_readDeed 84 rfl) (fun v24 => ?_)
                  refine s_iconst (pc := 139) (v := 1) (dc dl_X11_readDeed 85 rfl) ic_1 ?_
                  refine s_isub (pc := 140) (dc dl_X11_readDeed 86 rfl) ?_
                  refine s_call (pc := 141) (rest := [.int (x1 + 3), .ref (ad 17)]) hG (calls_V (mi := mX11_readDeed) (o := 0) (As := [.int 0, .int (v24 - 1)]) (rest := [.int (x1 + 3), .ref (ad 17)]) hG (dc dl_X11_readDeed 87 rfl) mo_X11_readNumber mv_X11_readNumber ml_X11_271 ⟨Nat.le_of_ble_eq_true rfl, Nat.le_of_ble_eq_true rfl⟩ rfl rfl (Nat.le_of_ble_eq_true rfl) lk_Mo_0 rfl) (cn_X11_readNumber l G hG ad 0 (v24 - 1)) rfl (fun r25 => ?_)
                  refine s_goto (pc := 144) (tgt := 167) (dc dl_X11_readDeed 88 rfl) rfl ?_
                  exact s_wk (hj16 r25) rfl
                · refine s_iload_n (pc := 147) (dc dl_X11_readDeed 89 rfl) rfl rfl ?_
                  refine s_iconst (pc := 148) (v := 1) (dc dl_X11_readDeed 90 rfl) ic_1 ?_
                  refine s_icmp_ne (pc := 149) (tgt := 166) (dc dl_X11_readDeed 91 rfl) rfl ?_ ?_
                  · refine s_aload_n (pc := 152) (dc dl_X11_readDeed 92 rfl) rfl rfl ?_
                    refine s_iconst (pc := 153) (v := 0) (dc dl_X11_readDeed 93 rfl) ic_0 ?_
                    refine s_aload_n (pc := 154) (dc dl_X11_readDeed 94 rfl) rfl rfl ?_
                    refine s_getI (pc := 155) fl_X11_137 lk_Mo_0 kk_Mo_0_6 (dc dl_X11_readDeed 95 rfl) (fun v22 => ?_)
                    refine s_iconst (pc := 158) (v := 1) (dc dl_X11_readDeed 96 rfl) ic_1 ?_
                    refine s_isub (pc := 159) (dc dl_X11_readDeed 97 rfl) ?_
                    refine s_call (pc := 160) (rest := [.int (x1 + 3), .ref (ad 17)]) hG (calls_V (mi := mX11_readDeed) (o := 0) (As := [.int 0, .int (v22 - 1)]) (rest := [.int (x1 + 3), .ref (ad 17)]) hG (dc dl_X11_readDeed 98 rfl) mo_X11_readNumber mv_X11_readNumber ml_X11_271 ⟨Nat.le_of_ble_eq_true rfl, Nat.le_of_ble_eq_true rfl⟩ rfl rfl (Nat.le_of_ble_eq_true rfl) lk_Mo_0 rfl) (cn_X11_readNumber l G hG ad 0 (v22 - 1)) rfl (fun r23 => ?_)
                    refine s_goto (pc := 163) (tgt := 167) (dc dl_X11_readDeed 99 rfl) rfl ?_
                    exact s_wk (hj16 r23) rfl
                  · refine s_iconst (pc := 166) (v := 0) (dc dl_X11_readDeed 100 rfl) ic_0 ?_
                    exact s_wk (hj16 0) rfl
          · refine s_if_ne (pc := 88) (tgt := 98) (dc dl_X11_readDeed 54 rfl) rfl ?_ ?_
            · refine s_aload_n (pc := 91) (dc dl_X11_readDeed 55 rfl) rfl rfl ?_
              refine s_getI (pc := 92) fl_X11_143 lk_Mo_0 kk_Mo_0_8 (dc dl_X11_readDeed 56 rfl) (fun v27 => ?_)
              refine s_goto (pc := 95) (tgt := 102) (dc dl_X11_readDeed 57 rfl) rfl ?_
              exact s_wk (hj12 v27) rfl
            · refine s_aload_n (pc := 98) (dc dl_X11_readDeed 58 rfl) rfl rfl ?_
              refine s_getI (pc := 99) fl_X11_140 lk_Mo_0 kk_Mo_0_7 (dc dl_X11_readDeed 59 rfl) (fun v26 => ?_)
              exact s_wk (hj12 v26) rfl
      · exact s_wk (hj4 ()) rfl
def gX11_readDeeds : MM Int32 :=
  loopC 100000 (fun (self1 : Int32 → MM Int32) (s2 : Int32) =>
  bd (gX11_isWord 16) fun r3 =>
  (if r3 = 0 then
  bd (ld 0 16) fun v4 =>
  jn (fun (a6 : Int32) =>
  pr a6) (fun j5 =>
  (if v4 = 0 then
  j5 s2
  else
  bd (gX11_errs 1) fun r7 =>
  j5 r7))
  else
  (if s2 = 16 then
  bd (gX11_errs 3) fun r10 =>
  pr r10
  else
  bd (gX11_readDeed (64 + (4 * s2))) fun r8 =>
  (if r8 = ((-1)) then
  pr ((-1))
  else
  lt (s2 + 1) fun y9 =>
  self1 y9)))) 0
set_option maxHeartbeats 4000000 in
theorem cn_X11_readDeeds (l : Launch) (G : Gl) (hG : gOk G) (ad : Nat → Nat) : Cn l G mX11_readDeeds 6 lay_Mo ad [.ref (ad 0)] (gX11_readDeeds) := by
  refine cn_of (lv := [some (.ref (ad 0)), none]) (by decide +kernel) rfl (Nat.le_of_ble_eq_true rfl) rfl ?_
  unfold gX11_readDeeds
  refine s_iconst (pc := 0) (v := 0) (dc dl_X11_readDeeds 0 rfl) ic_0 ?_
  refine s_istore_n (pc := 1) (lv' := [some (.ref (ad 0)), some (.int 0)]) (dc dl_X11_readDeeds 1 rfl) rfl (Nat.le_of_ble_eq_true rfl) rfl ?_
  refine s_weak (lv' := [some (.ref (ad 0)), some (.int 0)]) rfl ?_
  refine s_loop (pc := 2) (fun s2 : Int32 => [some (.ref (ad 0)), some (.int s2)]) [] (fun self1 hself1 s2 => ?_) _ 0
  refine s_aload_n (pc := 2) (dc dl_X11_readDeeds 2 rfl) rfl rfl ?_
  refine s_bipush (pc := 3) (v := 16) (dc dl_X11_readDeeds 3 rfl) bi_16 ?_
  refine s_call (pc := 5) (rest := []) hG (calls_V (mi := mX11_readDeeds) (o := 0) (As := [.int 16]) (rest := []) hG (dc dl_X11_readDeeds 4 rfl) mo_X11_isWord mv_X11_isWord ml_X11_249 ⟨Nat.le_of_ble_eq_true rfl, Nat.le_of_ble_eq_true rfl⟩ rfl rfl (Nat.le_of_ble_eq_true rfl) lk_Mo_0 rfl) (cn_X11_isWord l G hG ad 16) rfl (fun r3 => ?_)
  refine s_if_eq (pc := 8) (tgt := 46) (dc dl_X11_readDeeds 5 rfl) rfl ?_ ?_
  · refine s_aload_n (pc := 46) (dc dl_X11_readDeeds 29 rfl) rfl rfl ?_
    refine s_getI (pc := 47) fl_X11_190 lk_Mo_0 kk_Mo_0_16 (dc dl_X11_readDeeds 30 rfl) (fun v4 => ?_)
    refine s_jn (pj := 62) (fun a6 : Int32 => [none, none]) (fun a6 : Int32 => [.int a6]) (fun a6 => ?_) (fun j5 hj5 => ?_)
    · exact s_ireturn (pc := 62) rfl (dc dl_X11_readDeeds 37 rfl)
    · refine s_if_ne (pc := 50) (tgt := 57) (dc dl_X11_readDeeds 31 rfl) rfl ?_ ?_
      · refine s_iload_n (pc := 53) (dc dl_X11_readDeeds 32 rfl) rfl rfl ?_
        refine s_goto (pc := 54) (tgt := 62) (dc dl_X11_readDeeds 33 rfl) rfl ?_
        exact s_wk (hj5 s2) rfl
      · refine s_aload_n (pc := 57) (dc dl_X11_readDeeds 34 rfl) rfl rfl ?_
        refine s_iconst (pc := 58) (v := 1) (dc dl_X11_readDeeds 35 rfl) ic_1 ?_
        refine s_call (pc := 59) (rest := []) hG (calls_V (mi := mX11_readDeeds) (o := 0) (As := [.int 1]) (rest := []) hG (dc dl_X11_readDeeds 36 rfl) mo_X11_errs mv_X11_errs ml_X11_220 ⟨Nat.le_of_ble_eq_true rfl, Nat.le_of_ble_eq_true rfl⟩ rfl rfl (Nat.le_of_ble_eq_true rfl) lk_Mo_0 rfl) (cn_X11_errs l G hG ad 1) rfl (fun r7 => ?_)
        exact s_wk (hj5 r7) rfl
  · refine s_iload_n (pc := 11) (dc dl_X11_readDeeds 6 rfl) rfl rfl ?_
    refine s_bipush (pc := 12) (v := 16) (dc dl_X11_readDeeds 7 rfl) bi_16 ?_
    refine s_icmp_ne (pc := 14) (tgt := 23) (dc dl_X11_readDeeds 8 rfl) rfl ?_ ?_
    · refine s_aload_n (pc := 17) (dc dl_X11_readDeeds 9 rfl) rfl rfl ?_
      refine s_iconst (pc := 18) (v := 3) (dc dl_X11_readDeeds 10 rfl) ic_3 ?_
      refine s_call (pc := 19) (rest := []) hG (calls_V (mi := mX11_readDeeds) (o := 0) (As := [.int 3]) (rest := []) hG (dc dl_X11_readDeeds 11 rfl) mo_X11_errs mv_X11_errs ml_X11_220 ⟨Nat.le_of_ble_eq_true rfl, Nat.le_of_ble_eq_true rfl⟩ rfl rfl (Nat.le_of_ble_eq_true rfl) lk_Mo_0 rfl) (cn_X11_errs l G hG ad 3) rfl (fun r10 => ?_)
      exact s_ireturn (pc := 22) rfl (dc dl_X11_readDeeds 12 rfl)
    · refine s_aload_n (pc := 23) (dc dl_X11_readDeeds 13 rfl) rfl rfl ?_
      refine s_bipush (pc := 24) (v := 64) (dc dl_X11_readDeeds 14 rfl) bi_64 ?_
      refine s_iconst (pc := 26) (v := 4) (dc dl_X11_readDeeds 15 rfl) ic_4 ?_
      refine s_iload_n (pc := 27) (dc dl_X11_readDeeds 16 rfl) rfl rfl ?_
      refine s_imul (pc := 28) (dc dl_X11_readDeeds 17 rfl) ?_
      refine s_iadd (pc := 29) (dc dl_X11_readDeeds 18 rfl) ?_
      refine s_call (pc := 30) (rest := []) hG (calls_V (mi := mX11_readDeeds) (o := 0) (As := [.int (64 + (4 * s2))]) (rest := []) hG (dc dl_X11_readDeeds 19 rfl) mo_X11_readDeed mv_X11_readDeed ml_X11_281 ⟨Nat.le_of_ble_eq_true rfl, Nat.le_of_ble_eq_true rfl⟩ rfl rfl (Nat.le_of_ble_eq_true rfl) lk_Mo_0 rfl) (cn_X11_readDeed l G hG ad (64 + (4 * s2))) rfl (fun r8 => ?_)
      refine s_iconst (pc := 33) (v := (-1)) (dc dl_X11_readDeeds 20 rfl) ic_m1 ?_
      refine s_icmp_ne (pc := 34) (tgt := 39) (dc dl_X11_readDeeds 21 rfl) rfl ?_ ?_
      · refine s_iconst (pc := 37) (v := (-1)) (dc dl_X11_readDeeds 22 rfl) ic_m1 ?_
        exact s_ireturn (pc := 38) rfl (dc dl_X11_readDeeds 23 rfl)
      · refine s_iload_n (pc := 39) (dc dl_X11_readDeeds 24 rfl) rfl rfl ?_
        refine s_iconst (pc := 40) (v := 1) (dc dl_X11_readDeeds 25 rfl) ic_1 ?_
        refine s_iadd (pc := 41) (dc dl_X11_readDeeds 26 rfl) ?_
        refine s_istore_nL (pc := 42) (lf' := fun y9 => [some (.ref (ad 0)), some (.int y9)]) (dc dl_X11_readDeeds 27 rfl) rfl (Nat.le_of_ble_eq_true rfl) (fun _ => rfl) (fun y9 => ?_)
        refine s_goto (pc := 43) (tgt := 2) (dc dl_X11_readDeeds 28 rfl) rfl ?_
        exact s_wk (hself1 y9) rfl
def gX11_readMind (x1 : Int32) : MM Int32 :=
  bd (gX11_readTold 16 0 999) fun r1 =>
  bd (sa 18 x1 r1) fun _ =>
  bd (la 18 x1) fun v2 =>
  (if v2 = ((-1)) then
  pr ((-1))
  else
  bd (ld 0 6) fun v3 =>
  bd (gX11_readTold 21 0 (v3 - 1)) fun r4 =>
  bd (sa 18 (x1 + 1) r4) fun _ =>
  bd (la 18 (x1 + 1)) fun v5 =>
  (if v5 = ((-1)) then
  pr ((-1))
  else
  bd (gX11_readTold 7 0 9) fun r6 =>
  bd (sa 18 (x1 + 2) r6) fun _ =>
  bd (la 18 (x1 + 2)) fun v7 =>
  jn (fun (a9 : Int32) =>
  pr a9) (fun j8 =>
  (if v7 = ((-1)) then
  j8 ((-1))
  else
  bd (gX11_readMark 59) fun r10 =>
  j8 r10))))
set_option maxHeartbeats 4000000 in
theorem cn_X11_readMind (l : Launch) (G : Gl) (hG : gOk G) (ad : Nat → Nat) (x1 : Int32) : Cn l G mX11_readMind 5 lay_Mo ad [.ref (ad 0), .int x1] (gX11_readMind x1) := by
  refine cn_of (lv := [some (.ref (ad 0)), some (.int x1)]) (by decide +kernel) rfl (Nat.le_of_ble_eq_true rfl) rfl ?_
  unfold gX11_readMind
  refine s_aload_n (pc := 0) (dc dl_X11_readMind 0 rfl) rfl rfl ?_
  refine s_getR (pc := 1) fl_X11_65 lk_Mo_0 kk_Mo_0_38 (dc dl_X11_readMind 1 rfl) ?_
  refine s_iload_n (pc := 4) (dc dl_X11_readMind 2 rfl) rfl rfl ?_
  refine s_aload_n (pc := 5) (dc dl_X11_readMind 3 rfl) rfl rfl ?_
  refine s_bipush (pc := 6) (v := 16) (dc dl_X11_readMind 4 rfl) bi_16 ?_
  refine s_iconst (pc := 8) (v := 0) (dc dl_X11_readMind 5 rfl) ic_0 ?_
  refine s_sipush (pc := 9) (v := 999) (dc dl_X11_readMind 6 rfl) si_999 ?_
  refine s_call (pc := 12) (rest := [.int x1, .ref (ad 18)]) hG (calls_V (mi := mX11_readMind) (o := 0) (As := [.int 16, .int 0, .int 999]) (rest := [.int x1, .ref (ad 18)]) hG (dc dl_X11_readMind 7 rfl) mo_X11_readTold mv_X11_readTold ml_X11_274 ⟨Nat.le_of_ble_eq_true rfl, Nat.le_of_ble_eq_true rfl⟩ rfl rfl (Nat.le_of_ble_eq_true rfl) lk_Mo_0 rfl) (cn_X11_readTold l G hG ad 16 0 999) rfl (fun r1 => ?_)
  refine s_iast (pc := 15) lk_Mo_18 (dc dl_X11_readMind 8 rfl) ?_
  refine s_aload_n (pc := 16) (dc dl_X11_readMind 9 rfl) rfl rfl ?_
  refine s_getR (pc := 17) fl_X11_65 lk_Mo_0 kk_Mo_0_38 (dc dl_X11_readMind 10 rfl) ?_
  refine s_iload_n (pc := 20) (dc dl_X11_readMind 11 rfl) rfl rfl ?_
  refine s_iald (pc := 21) lk_Mo_18 (dc dl_X11_readMind 12 rfl) (fun v2 => ?_)
  refine s_iconst (pc := 22) (v := (-1)) (dc dl_X11_readMind 13 rfl) ic_m1 ?_
  refine s_icmp_ne (pc := 23) (tgt := 28) (dc dl_X11_readMind 14 rfl) rfl ?_ ?_
  · refine s_iconst (pc := 26) (v := (-1)) (dc dl_X11_readMind 15 rfl) ic_m1 ?_
    exact s_ireturn (pc := 27) rfl (dc dl_X11_readMind 16 rfl)
  · refine s_aload_n (pc := 28) (dc dl_X11_readMind 17 rfl) rfl rfl ?_
    refine s_getR (pc := 29) fl_X11_65 lk_Mo_0 kk_Mo_0_38 (dc dl_X11_readMind 18 rfl) ?_
    refine s_iload_n (pc := 32) (dc dl_X11_readMind 19 rfl) rfl rfl ?_
    refine s_iconst (pc := 33) (v := 1) (dc dl_X11_readMind 20 rfl) ic_1 ?_
    refine s_iadd (pc := 34) (dc dl_X11_readMind 21 rfl) ?_
    refine s_aload_n (pc := 35) (dc dl_X11_readMind 22 rfl) rfl rfl ?_
    refine s_bipush (pc := 36) (v := 21) (dc dl_X11_readMind 23 rfl) bi_21 ?_
    refine s_iconst (pc := 38) (v := 0) (dc dl_X11_readMind 24 rfl) ic_0 ?_
    refine s_aload_n (pc := 39) (dc dl_X11_readMind 25 rfl) rfl rfl ?_
    refine s_getI (pc := 40) fl_X11_137 lk_Mo_0 kk_Mo_0_6 (dc dl_X11_readMind 26 rfl) (fun v3 => ?_)
    refine s_iconst (pc := 43) (v := 1) (dc dl_X11_readMind 27 rfl) ic_1 ?_
    refine s_isub (pc := 44) (dc dl_X11_readMind 28 rfl) ?_
    refine s_call (pc := 45) (rest := [.int (x1 + 1), .ref (ad 18)]) hG (calls_V (mi := mX11_readMind) (o := 0) (As := [.int 21, .int 0, .int (v3 - 1)]) (rest := [.int (x1 + 1), .ref (ad 18)]) hG (dc dl_X11_readMind 29 rfl) mo_X11_readTold mv_X11_readTold ml_X11_274 ⟨Nat.le_of_ble_eq_true rfl, Nat.le_of_ble_eq_true rfl⟩ rfl rfl (Nat.le_of_ble_eq_true rfl) lk_Mo_0 rfl) (cn_X11_readTold l G hG ad 21 0 (v3 - 1)) rfl (fun r4 => ?_)
    refine s_iast (pc := 48) lk_Mo_18 (dc dl_X11_readMind 30 rfl) ?_
    refine s_aload_n (pc := 49) (dc dl_X11_readMind 31 rfl) rfl rfl ?_
    refine s_getR (pc := 50) fl_X11_65 lk_Mo_0 kk_Mo_0_38 (dc dl_X11_readMind 32 rfl) ?_
    refine s_iload_n (pc := 53) (dc dl_X11_readMind 33 rfl) rfl rfl ?_
    refine s_iconst (pc := 54) (v := 1) (dc dl_X11_readMind 34 rfl) ic_1 ?_
    refine s_iadd (pc := 55) (dc dl_X11_readMind 35 rfl) ?_
    refine s_iald (pc := 56) lk_Mo_18 (dc dl_X11_readMind 36 rfl) (fun v5 => ?_)
    refine s_iconst (pc := 57) (v := (-1)) (dc dl_X11_readMind 37 rfl) ic_m1 ?_
    refine s_icmp_ne (pc := 58) (tgt := 63) (dc dl_X11_readMind 38 rfl) rfl ?_ ?_
    · refine s_iconst (pc := 61) (v := (-1)) (dc dl_X11_readMind 39 rfl) ic_m1 ?_
      exact s_ireturn (pc := 62) rfl (dc dl_X11_readMind 40 rfl)
    · refine s_aload_n (pc := 63) (dc dl_X11_readMind 41 rfl) rfl rfl ?_
      refine s_getR (pc := 64) fl_X11_65 lk_Mo_0 kk_Mo_0_38 (dc dl_X11_readMind 42 rfl) ?_
      refine s_iload_n (pc := 67) (dc dl_X11_readMind 43 rfl) rfl rfl ?_
      refine s_iconst (pc := 68) (v := 2) (dc dl_X11_readMind 44 rfl) ic_2 ?_
      refine s_iadd (pc := 69) (dc dl_X11_readMind 45 rfl) ?_
      refine s_aload_n (pc := 70) (dc dl_X11_readMind 46 rfl) rfl rfl ?_
      refine s_bipush (pc := 71) (v := 7) (dc dl_X11_readMind 47 rfl) bi_7 ?_
      refine s_iconst (pc := 73) (v := 0) (dc dl_X11_readMind 48 rfl) ic_0 ?_
      refine s_bipush (pc := 74) (v := 9) (dc dl_X11_readMind 49 rfl) bi_9 ?_
      refine s_call (pc := 76) (rest := [.int (x1 + 2), .ref (ad 18)]) hG (calls_V (mi := mX11_readMind) (o := 0) (As := [.int 7, .int 0, .int 9]) (rest := [.int (x1 + 2), .ref (ad 18)]) hG (dc dl_X11_readMind 50 rfl) mo_X11_readTold mv_X11_readTold ml_X11_274 ⟨Nat.le_of_ble_eq_true rfl, Nat.le_of_ble_eq_true rfl⟩ rfl rfl (Nat.le_of_ble_eq_true rfl) lk_Mo_0 rfl) (cn_X11_readTold l G hG ad 7 0 9) rfl (fun r6 => ?_)
      refine s_iast (pc := 79) lk_Mo_18 (dc dl_X11_readMind 51 rfl) ?_
      refine s_aload_n (pc := 80) (dc dl_X11_readMind 52 rfl) rfl rfl ?_
      refine s_getR (pc := 81) fl_X11_65 lk_Mo_0 kk_Mo_0_38 (dc dl_X11_readMind 53 rfl) ?_
      refine s_iload_n (pc := 84) (dc dl_X11_readMind 54 rfl) rfl rfl ?_
      refine s_iconst (pc := 85) (v := 2) (dc dl_X11_readMind 55 rfl) ic_2 ?_
      refine s_iadd (pc := 86) (dc dl_X11_readMind 56 rfl) ?_
      refine s_iald (pc := 87) lk_Mo_18 (dc dl_X11_readMind 57 rfl) (fun v7 => ?_)
      refine s_iconst (pc := 88) (v := (-1)) (dc dl_X11_readMind 58 rfl) ic_m1 ?_
      refine s_jn (pj := 102) (fun a9 : Int32 => [none, none]) (fun a9 : Int32 => [.int a9]) (fun a9 => ?_) (fun j8 hj8 => ?_)
      · exact s_ireturn (pc := 102) rfl (dc dl_X11_readMind 65 rfl)
      · refine s_icmp_ne (pc := 89) (tgt := 96) (dc dl_X11_readMind 59 rfl) rfl ?_ ?_
        · refine s_iconst (pc := 92) (v := (-1)) (dc dl_X11_readMind 60 rfl) ic_m1 ?_
          refine s_goto (pc := 93) (tgt := 102) (dc dl_X11_readMind 61 rfl) rfl ?_
          exact s_wk (hj8 ((-1))) rfl
        · refine s_aload_n (pc := 96) (dc dl_X11_readMind 62 rfl) rfl rfl ?_
          refine s_bipush (pc := 97) (v := 59) (dc dl_X11_readMind 63 rfl) bi_59 ?_
          refine s_call (pc := 99) (rest := []) hG (calls_V (mi := mX11_readMind) (o := 0) (As := [.int 59]) (rest := []) hG (dc dl_X11_readMind 64 rfl) mo_X11_readMark mv_X11_readMark ml_X11_278 ⟨Nat.le_of_ble_eq_true rfl, Nat.le_of_ble_eq_true rfl⟩ rfl rfl (Nat.le_of_ble_eq_true rfl) lk_Mo_0 rfl) (cn_X11_readMark l G hG ad 59) rfl (fun r10 => ?_)
          exact s_wk (hj8 r10) rfl
def gX11_readMinds : MM Int32 :=
  loopC 100000 (fun (self1 : Int32 → MM Int32) (s2 : Int32) =>
  bd (gX11_isWord 16) fun r3 =>
  (if r3 = 0 then
  bd (ld 0 16) fun v4 =>
  jn (fun (a6 : Int32) =>
  pr a6) (fun j5 =>
  (if v4 = 0 then
  j5 s2
  else
  bd (gX11_errs 1) fun r7 =>
  j5 r7))
  else
  (if s2 = 16 then
  bd (gX11_errs 3) fun r10 =>
  pr r10
  else
  bd (gX11_readMind (48 + (3 * s2))) fun r8 =>
  (if r8 = ((-1)) then
  pr ((-1))
  else
  lt (s2 + 1) fun y9 =>
  self1 y9)))) 0
set_option maxHeartbeats 4000000 in
theorem cn_X11_readMinds (l : Launch) (G : Gl) (hG : gOk G) (ad : Nat → Nat) : Cn l G mX11_readMinds 6 lay_Mo ad [.ref (ad 0)] (gX11_readMinds) := by
  refine cn_of (lv := [some (.ref (ad 0)), none]) (by decide +kernel) rfl (Nat.le_of_ble_eq_true rfl) rfl ?_
  unfold gX11_readMinds
  refine s_iconst (pc := 0) (v := 0) (dc dl_X11_readMinds 0 rfl) ic_0 ?_
  refine s_istore_n (pc := 1) (lv' := [some (.ref (ad 0)), some (.int 0)]) (dc dl_X11_readMinds 1 rfl) rfl (Nat.le_of_ble_eq_true rfl) rfl ?_
  refine s_weak (lv' := [some (.ref (ad 0)), some (.int 0)]) rfl ?_
  refine s_loop (pc := 2) (fun s2 : Int32 => [some (.ref (ad 0)), some (.int s2)]) [] (fun self1 hself1 s2 => ?_) _ 0
  refine s_aload_n (pc := 2) (dc dl_X11_readMinds 2 rfl) rfl rfl ?_
  refine s_bipush (pc := 3) (v := 16) (dc dl_X11_readMinds 3 rfl) bi_16 ?_
  refine s_call (pc := 5) (rest := []) hG (calls_V (mi := mX11_readMinds) (o := 0) (As := [.int 16]) (rest := []) hG (dc dl_X11_readMinds 4 rfl) mo_X11_isWord mv_X11_isWord ml_X11_249 ⟨Nat.le_of_ble_eq_true rfl, Nat.le_of_ble_eq_true rfl⟩ rfl rfl (Nat.le_of_ble_eq_true rfl) lk_Mo_0 rfl) (cn_X11_isWord l G hG ad 16) rfl (fun r3 => ?_)
  refine s_if_eq (pc := 8) (tgt := 46) (dc dl_X11_readMinds 5 rfl) rfl ?_ ?_
  · refine s_aload_n (pc := 46) (dc dl_X11_readMinds 29 rfl) rfl rfl ?_
    refine s_getI (pc := 47) fl_X11_190 lk_Mo_0 kk_Mo_0_16 (dc dl_X11_readMinds 30 rfl) (fun v4 => ?_)
    refine s_jn (pj := 62) (fun a6 : Int32 => [none, none]) (fun a6 : Int32 => [.int a6]) (fun a6 => ?_) (fun j5 hj5 => ?_)
    · exact s_ireturn (pc := 62) rfl (dc dl_X11_readMinds 37 rfl)
    · refine s_if_ne (pc := 50) (tgt := 57) (dc dl_X11_readMinds 31 rfl) rfl ?_ ?_
      · refine s_iload_n (pc := 53) (dc dl_X11_readMinds 32 rfl) rfl rfl ?_
        refine s_goto (pc := 54) (tgt := 62) (dc dl_X11_readMinds 33 rfl) rfl ?_
        exact s_wk (hj5 s2) rfl
      · refine s_aload_n (pc := 57) (dc dl_X11_readMinds 34 rfl) rfl rfl ?_
        refine s_iconst (pc := 58) (v := 1) (dc dl_X11_readMinds 35 rfl) ic_1 ?_
        refine s_call (pc := 59) (rest := []) hG (calls_V (mi := mX11_readMinds) (o := 0) (As := [.int 1]) (rest := []) hG (dc dl_X11_readMinds 36 rfl) mo_X11_errs mv_X11_errs ml_X11_220 ⟨Nat.le_of_ble_eq_true rfl, Nat.le_of_ble_eq_true rfl⟩ rfl rfl (Nat.le_of_ble_eq_true rfl) lk_Mo_0 rfl) (cn_X11_errs l G hG ad 1) rfl (fun r7 => ?_)
        exact s_wk (hj5 r7) rfl
  · refine s_iload_n (pc := 11) (dc dl_X11_readMinds 6 rfl) rfl rfl ?_
    refine s_bipush (pc := 12) (v := 16) (dc dl_X11_readMinds 7 rfl) bi_16 ?_
    refine s_icmp_ne (pc := 14) (tgt := 23) (dc dl_X11_readMinds 8 rfl) rfl ?_ ?_
    · refine s_aload_n (pc := 17) (dc dl_X11_readMinds 9 rfl) rfl rfl ?_
      refine s_iconst (pc := 18) (v := 3) (dc dl_X11_readMinds 10 rfl) ic_3 ?_
      refine s_call (pc := 19) (rest := []) hG (calls_V (mi := mX11_readMinds) (o := 0) (As := [.int 3]) (rest := []) hG (dc dl_X11_readMinds 11 rfl) mo_X11_errs mv_X11_errs ml_X11_220 ⟨Nat.le_of_ble_eq_true rfl, Nat.le_of_ble_eq_true rfl⟩ rfl rfl (Nat.le_of_ble_eq_true rfl) lk_Mo_0 rfl) (cn_X11_errs l G hG ad 3) rfl (fun r10 => ?_)
      exact s_ireturn (pc := 22) rfl (dc dl_X11_readMinds 12 rfl)
    · refine s_aload_n (pc := 23) (dc dl_X11_readMinds 13 rfl) rfl rfl ?_
      refine s_bipush (pc := 24) (v := 48) (dc dl_X11_readMinds 14 rfl) bi_48 ?_
      refine s_iconst (pc := 26) (v := 3) (dc dl_X11_readMinds 15 rfl) ic_3 ?_
      refine s_iload_n (pc := 27) (dc dl_X11_readMinds 16 rfl) rfl rfl ?_
      refine s_imul (pc := 28) (dc dl_X11_readMinds 17 rfl) ?_
      refine s_iadd (pc := 29) (dc dl_X11_readMinds 18 rfl) ?_
      refine s_call (pc := 30) (rest := []) hG (calls_V (mi := mX11_readMinds) (o := 0) (As := [.int (48 + (3 * s2))]) (rest := []) hG (dc dl_X11_readMinds 19 rfl) mo_X11_readMind mv_X11_readMind ml_X11_284 ⟨Nat.le_of_ble_eq_true rfl, Nat.le_of_ble_eq_true rfl⟩ rfl rfl (Nat.le_of_ble_eq_true rfl) lk_Mo_0 rfl) (cn_X11_readMind l G hG ad (48 + (3 * s2))) rfl (fun r8 => ?_)
      refine s_iconst (pc := 33) (v := (-1)) (dc dl_X11_readMinds 20 rfl) ic_m1 ?_
      refine s_icmp_ne (pc := 34) (tgt := 39) (dc dl_X11_readMinds 21 rfl) rfl ?_ ?_
      · refine s_iconst (pc := 37) (v := (-1)) (dc dl_X11_readMinds 22 rfl) ic_m1 ?_
        exact s_ireturn (pc := 38) rfl (dc dl_X11_readMinds 23 rfl)
      · refine s_iload_n (pc := 39) (dc dl_X11_readMinds 24 rfl) rfl rfl ?_
        refine s_iconst (pc := 40) (v := 1) (dc dl_X11_readMinds 25 rfl) ic_1 ?_
        refine s_iadd (pc := 41) (dc dl_X11_readMinds 26 rfl) ?_
        refine s_istore_nL (pc := 42) (lf' := fun y9 => [some (.ref (ad 0)), some (.int y9)]) (dc dl_X11_readMinds 27 rfl) rfl (Nat.le_of_ble_eq_true rfl) (fun _ => rfl) (fun y9 => ?_)
        refine s_goto (pc := 43) (tgt := 2) (dc dl_X11_readMinds 28 rfl) rfl ?_
        exact s_wk (hself1 y9) rfl
def gX11_readFriend : MM Int32 :=
  bd (ld 0 6) fun v1 =>
  bd (gX11_readTold 21 0 (v1 - 1)) fun r2 =>
  (if r2 = ((-1)) then
  pr ((-1))
  else
  bd (gX11_isWord 11) fun r3 =>
  (if r3 = 0 then
  bd (gX11_errs 1) fun r15 =>
  pr r15
  else
  bd gX11_reads fun r4 =>
  bd (ld 0 16) fun v5 =>
  jn (fun (a7 : Unit) =>
  bd (ld 0 6) fun v8 =>
  bd (gX11_readNumber 0 (v8 - 1)) fun r9 =>
  (if r9 = ((-1)) then
  pr ((-1))
  else
  bd (la 19 (12 + r2)) fun v10 =>
  bd (sa 19 (12 + r2) (v10 ||| (1 <<< (r9 &&& 31)))) fun _ =>
  bd (la 19 (12 + r9)) fun v11 =>
  bd (sa 19 (12 + r9) (v11 ||| (1 <<< (r2 &&& 31)))) fun _ =>
  bd (gX11_readMark 59) fun r12 =>
  pr r12)) (fun j6 =>
  (if v5 = 3 then
  bd (ld 0 17) fun v13 =>
  (if v13 = r2 then
  bd (gX11_errs 2) fun r14 =>
  pr r14
  else
  j6 ())
  else
  j6 ()))))
set_option maxHeartbeats 4000000 in
theorem cn_X11_readFriend (l : Launch) (G : Gl) (hG : gOk G) (ad : Nat → Nat) : Cn l G mX11_readFriend 5 lay_Mo ad [.ref (ad 0)] (gX11_readFriend) := by
  refine cn_of (lv := [some (.ref (ad 0)), none, none]) (by decide +kernel) rfl (Nat.le_of_ble_eq_true rfl) rfl ?_
  unfold gX11_readFriend
  refine s_aload_n (pc := 0) (dc dl_X11_readFriend 0 rfl) rfl rfl ?_
  refine s_bipush (pc := 1) (v := 21) (dc dl_X11_readFriend 1 rfl) bi_21 ?_
  refine s_iconst (pc := 3) (v := 0) (dc dl_X11_readFriend 2 rfl) ic_0 ?_
  refine s_aload_n (pc := 4) (dc dl_X11_readFriend 3 rfl) rfl rfl ?_
  refine s_getI (pc := 5) fl_X11_137 lk_Mo_0 kk_Mo_0_6 (dc dl_X11_readFriend 4 rfl) (fun v1 => ?_)
  refine s_iconst (pc := 8) (v := 1) (dc dl_X11_readFriend 5 rfl) ic_1 ?_
  refine s_isub (pc := 9) (dc dl_X11_readFriend 6 rfl) ?_
  refine s_call (pc := 10) (rest := []) hG (calls_V (mi := mX11_readFriend) (o := 0) (As := [.int 21, .int 0, .int (v1 - 1)]) (rest := []) hG (dc dl_X11_readFriend 7 rfl) mo_X11_readTold mv_X11_readTold ml_X11_274 ⟨Nat.le_of_ble_eq_true rfl, Nat.le_of_ble_eq_true rfl⟩ rfl rfl (Nat.le_of_ble_eq_true rfl) lk_Mo_0 rfl) (cn_X11_readTold l G hG ad 21 0 (v1 - 1)) rfl (fun r2 => ?_)
  refine s_istore_n (pc := 13) (lv' := [some (.ref (ad 0)), some (.int r2), none]) (dc dl_X11_readFriend 8 rfl) rfl (Nat.le_of_ble_eq_true rfl) rfl ?_
  refine s_iload_n (pc := 14) (dc dl_X11_readFriend 9 rfl) rfl rfl ?_
  refine s_iconst (pc := 15) (v := (-1)) (dc dl_X11_readFriend 10 rfl) ic_m1 ?_
  refine s_icmp_ne (pc := 16) (tgt := 21) (dc dl_X11_readFriend 11 rfl) rfl ?_ ?_
  · refine s_iconst (pc := 19) (v := (-1)) (dc dl_X11_readFriend 12 rfl) ic_m1 ?_
    exact s_ireturn (pc := 20) rfl (dc dl_X11_readFriend 13 rfl)
  · refine s_aload_n (pc := 21) (dc dl_X11_readFriend 14 rfl) rfl rfl ?_
    refine s_bipush (pc := 22) (v := 11) (dc dl_X11_readFriend 15 rfl) bi_11 ?_
    refine s_call (pc := 24) (rest := []) hG (calls_V (mi := mX11_readFriend) (o := 0) (As := [.int 11]) (rest := []) hG (dc dl_X11_readFriend 16 rfl) mo_X11_isWord mv_X11_isWord ml_X11_249 ⟨Nat.le_of_ble_eq_true rfl, Nat.le_of_ble_eq_true rfl⟩ rfl rfl (Nat.le_of_ble_eq_true rfl) lk_Mo_0 rfl) (cn_X11_isWord l G hG ad 11) rfl (fun r3 => ?_)
    refine s_if_ne (pc := 27) (tgt := 36) (dc dl_X11_readFriend 17 rfl) rfl ?_ ?_
    · refine s_aload_n (pc := 30) (dc dl_X11_readFriend 18 rfl) rfl rfl ?_
      refine s_iconst (pc := 31) (v := 1) (dc dl_X11_readFriend 19 rfl) ic_1 ?_
      refine s_call (pc := 32) (rest := []) hG (calls_V (mi := mX11_readFriend) (o := 0) (As := [.int 1]) (rest := []) hG (dc dl_X11_readFriend 20 rfl) mo_X11_errs mv_X11_errs ml_X11_220 ⟨Nat.le_of_ble_eq_true rfl, Nat.le_of_ble_eq_true rfl⟩ rfl rfl (Nat.le_of_ble_eq_true rfl) lk_Mo_0 rfl) (cn_X11_errs l G hG ad 1) rfl (fun r15 => ?_)
      exact s_ireturn (pc := 35) rfl (dc dl_X11_readFriend 21 rfl)
    · refine s_aload_n (pc := 36) (dc dl_X11_readFriend 22 rfl) rfl rfl ?_
      refine s_callv (pc := 37) (rest := []) hG (calls_V (mi := mX11_readFriend) (o := 0) (As := []) (rest := []) hG (dc dl_X11_readFriend 23 rfl) mo_X11_reads mv_X11_reads ml_X11_227 ⟨Nat.le_of_ble_eq_true rfl, Nat.le_of_ble_eq_true rfl⟩ rfl rfl (Nat.le_of_ble_eq_true rfl) lk_Mo_0 rfl) (cn_X11_reads l G hG ad) rfl (fun r4 => ?_)
      refine s_aload_n (pc := 40) (dc dl_X11_readFriend 24 rfl) rfl rfl ?_
      refine s_getI (pc := 41) fl_X11_190 lk_Mo_0 kk_Mo_0_16 (dc dl_X11_readFriend 25 rfl) (fun v5 => ?_)
      refine s_iconst (pc := 44) (v := 3) (dc dl_X11_readFriend 26 rfl) ic_3 ?_
      refine s_jn (pj := 62) (fun a7 : Unit => [some (.ref (ad 0)), some (.int r2), none]) (fun a7 : Unit => []) (fun a7 => ?_) (fun j6 hj6 => ?_)
      · refine s_aload_n (pc := 62) (dc dl_X11_readFriend 36 rfl) rfl rfl ?_
        refine s_iconst (pc := 63) (v := 0) (dc dl_X11_readFriend 37 rfl) ic_0 ?_
        refine s_aload_n (pc := 64) (dc dl_X11_readFriend 38 rfl) rfl rfl ?_
        refine s_getI (pc := 65) fl_X11_137 lk_Mo_0 kk_Mo_0_6 (dc dl_X11_readFriend 39 rfl) (fun v8 => ?_)
        refine s_iconst (pc := 68) (v := 1) (dc dl_X11_readFriend 40 rfl) ic_1 ?_
        refine s_isub (pc := 69) (dc dl_X11_readFriend 41 rfl) ?_
        refine s_call (pc := 70) (rest := []) hG (calls_V (mi := mX11_readFriend) (o := 0) (As := [.int 0, .int (v8 - 1)]) (rest := []) hG (dc dl_X11_readFriend 42 rfl) mo_X11_readNumber mv_X11_readNumber ml_X11_271 ⟨Nat.le_of_ble_eq_true rfl, Nat.le_of_ble_eq_true rfl⟩ rfl rfl (Nat.le_of_ble_eq_true rfl) lk_Mo_0 rfl) (cn_X11_readNumber l G hG ad 0 (v8 - 1)) rfl (fun r9 => ?_)
        refine s_istore_n (pc := 73) (lv' := [some (.ref (ad 0)), some (.int r2), some (.int r9)]) (dc dl_X11_readFriend 43 rfl) rfl (Nat.le_of_ble_eq_true rfl) rfl ?_
        refine s_iload_n (pc := 74) (dc dl_X11_readFriend 44 rfl) rfl rfl ?_
        refine s_iconst (pc := 75) (v := (-1)) (dc dl_X11_readFriend 45 rfl) ic_m1 ?_
        refine s_icmp_ne (pc := 76) (tgt := 81) (dc dl_X11_readFriend 46 rfl) rfl ?_ ?_
        · refine s_iconst (pc := 79) (v := (-1)) (dc dl_X11_readFriend 47 rfl) ic_m1 ?_
          exact s_ireturn (pc := 80) rfl (dc dl_X11_readFriend 48 rfl)
        · refine s_aload_n (pc := 81) (dc dl_X11_readFriend 49 rfl) rfl rfl ?_
          refine s_getR (pc := 82) fl_X11_68 lk_Mo_0 kk_Mo_0_40 (dc dl_X11_readFriend 50 rfl) ?_
          refine s_bipush (pc := 85) (v := 12) (dc dl_X11_readFriend 51 rfl) bi_12 ?_
          refine s_iload_n (pc := 87) (dc dl_X11_readFriend 52 rfl) rfl rfl ?_
          refine s_iadd (pc := 88) (dc dl_X11_readFriend 53 rfl) ?_
          refine s_aload_n (pc := 89) (dc dl_X11_readFriend 54 rfl) rfl rfl ?_
          refine s_getR (pc := 90) fl_X11_68 lk_Mo_0 kk_Mo_0_40 (dc dl_X11_readFriend 55 rfl) ?_
          refine s_bipush (pc := 93) (v := 12) (dc dl_X11_readFriend 56 rfl) bi_12 ?_
          refine s_iload_n (pc := 95) (dc dl_X11_readFriend 57 rfl) rfl rfl ?_
          refine s_iadd (pc := 96) (dc dl_X11_readFriend 58 rfl) ?_
          refine s_iald (pc := 97) lk_Mo_19 (dc dl_X11_readFriend 59 rfl) (fun v10 => ?_)
          refine s_iconst (pc := 98) (v := 1) (dc dl_X11_readFriend 60 rfl) ic_1 ?_
          refine s_iload_n (pc := 99) (dc dl_X11_readFriend 61 rfl) rfl rfl ?_
          refine s_ishl (pc := 100) (dc dl_X11_readFriend 62 rfl) ?_
          refine s_ior (pc := 101) (dc dl_X11_readFriend 63 rfl) ?_
          refine s_iast (pc := 102) lk_Mo_19 (dc dl_X11_readFriend 64 rfl) ?_
          refine s_aload_n (pc := 103) (dc dl_X11_readFriend 65 rfl) rfl rfl ?_
          refine s_getR (pc := 104) fl_X11_68 lk_Mo_0 kk_Mo_0_40 (dc dl_X11_readFriend 66 rfl) ?_
          refine s_bipush (pc := 107) (v := 12) (dc dl_X11_readFriend 67 rfl) bi_12 ?_
          refine s_iload_n (pc := 109) (dc dl_X11_readFriend 68 rfl) rfl rfl ?_
          refine s_iadd (pc := 110) (dc dl_X11_readFriend 69 rfl) ?_
          refine s_aload_n (pc := 111) (dc dl_X11_readFriend 70 rfl) rfl rfl ?_
          refine s_getR (pc := 112) fl_X11_68 lk_Mo_0 kk_Mo_0_40 (dc dl_X11_readFriend 71 rfl) ?_
          refine s_bipush (pc := 115) (v := 12) (dc dl_X11_readFriend 72 rfl) bi_12 ?_
          refine s_iload_n (pc := 117) (dc dl_X11_readFriend 73 rfl) rfl rfl ?_
          refine s_iadd (pc := 118) (dc dl_X11_readFriend 74 rfl) ?_
          refine s_iald (pc := 119) lk_Mo_19 (dc dl_X11_readFriend 75 rfl) (fun v11 => ?_)
          refine s_iconst (pc := 120) (v := 1) (dc dl_X11_readFriend 76 rfl) ic_1 ?_
          refine s_iload_n (pc := 121) (dc dl_X11_readFriend 77 rfl) rfl rfl ?_
          refine s_ishl (pc := 122) (dc dl_X11_readFriend 78 rfl) ?_
          refine s_ior (pc := 123) (dc dl_X11_readFriend 79 rfl) ?_
          refine s_iast (pc := 124) lk_Mo_19 (dc dl_X11_readFriend 80 rfl) ?_
          refine s_aload_n (pc := 125) (dc dl_X11_readFriend 81 rfl) rfl rfl ?_
          refine s_bipush (pc := 126) (v := 59) (dc dl_X11_readFriend 82 rfl) bi_59 ?_
          refine s_call (pc := 128) (rest := []) hG (calls_V (mi := mX11_readFriend) (o := 0) (As := [.int 59]) (rest := []) hG (dc dl_X11_readFriend 83 rfl) mo_X11_readMark mv_X11_readMark ml_X11_278 ⟨Nat.le_of_ble_eq_true rfl, Nat.le_of_ble_eq_true rfl⟩ rfl rfl (Nat.le_of_ble_eq_true rfl) lk_Mo_0 rfl) (cn_X11_readMark l G hG ad 59) rfl (fun r12 => ?_)
          exact s_ireturn (pc := 131) rfl (dc dl_X11_readFriend 84 rfl)
      · refine s_icmp_ne (pc := 45) (tgt := 62) (dc dl_X11_readFriend 27 rfl) rfl ?_ ?_
        · refine s_aload_n (pc := 48) (dc dl_X11_readFriend 28 rfl) rfl rfl ?_
          refine s_getI (pc := 49) fl_X11_193 lk_Mo_0 kk_Mo_0_17 (dc dl_X11_readFriend 29 rfl) (fun v13 => ?_)
          refine s_iload_n (pc := 52) (dc dl_X11_readFriend 30 rfl) rfl rfl ?_
          refine s_icmp_ne (pc := 53) (tgt := 62) (dc dl_X11_readFriend 31 rfl) rfl ?_ ?_
          · refine s_aload_n (pc := 56) (dc dl_X11_readFriend 32 rfl) rfl rfl ?_
            refine s_iconst (pc := 57) (v := 2) (dc dl_X11_readFriend 33 rfl) ic_2 ?_
            refine s_call (pc := 58) (rest := []) hG (calls_V (mi := mX11_readFriend) (o := 0) (As := [.int 2]) (rest := []) hG (dc dl_X11_readFriend 34 rfl) mo_X11_errs mv_X11_errs ml_X11_220 ⟨Nat.le_of_ble_eq_true rfl, Nat.le_of_ble_eq_true rfl⟩ rfl rfl (Nat.le_of_ble_eq_true rfl) lk_Mo_0 rfl) (cn_X11_errs l G hG ad 2) rfl (fun r14 => ?_)
            exact s_ireturn (pc := 61) rfl (dc dl_X11_readFriend 35 rfl)
          · exact s_wk (hj6 ()) rfl
        · exact s_wk (hj6 ()) rfl
def gX11_readFriends : MM Int32 :=
  loopC 100000 (fun (self1 : Int32 → MM Int32) (s2 : Int32) =>
  (if 12 ≤ s2 then
  loopC 100000 (fun (self3 : Int32 → MM Int32) (s4 : Int32) =>
  bd (gX11_isWord 21) fun r5 =>
  (if r5 = 0 then
  bd (ld 0 16) fun v6 =>
  jn (fun (a8 : Int32) =>
  pr a8) (fun j7 =>
  (if v6 = 0 then
  j7 s4
  else
  bd (gX11_errs 1) fun r9 =>
  j7 r9))
  else
  (if s4 = 16 then
  bd (gX11_errs 3) fun r12 =>
  pr r12
  else
  bd gX11_readFriend fun r10 =>
  (if r10 = ((-1)) then
  pr ((-1))
  else
  lt (s4 + 1) fun y11 =>
  self3 y11)))) 0
  else
  bd (sa 19 (12 + s2) 0) fun _ =>
  lt (s2 + 1) fun y13 =>
  self1 y13)) 0
set_option maxHeartbeats 4000000 in
theorem cn_X11_readFriends (l : Launch) (G : Gl) (hG : gOk G) (ad : Nat → Nat) : Cn l G mX11_readFriends 6 lay_Mo ad [.ref (ad 0)] (gX11_readFriends) := by
  refine cn_of (lv := [some (.ref (ad 0)), none]) (by decide +kernel) rfl (Nat.le_of_ble_eq_true rfl) rfl ?_
  unfold gX11_readFriends
  refine s_iconst (pc := 0) (v := 0) (dc dl_X11_readFriends 0 rfl) ic_0 ?_
  refine s_istore_n (pc := 1) (lv' := [some (.ref (ad 0)), some (.int 0)]) (dc dl_X11_readFriends 1 rfl) rfl (Nat.le_of_ble_eq_true rfl) rfl ?_
  refine s_weak (lv' := [some (.ref (ad 0)), some (.int 0)]) rfl ?_
  refine s_loop (pc := 2) (fun s2 : Int32 => [some (.ref (ad 0)), some (.int s2)]) [] (fun self1 hself1 s2 => ?_) _ 0
  refine s_iload_n (pc := 2) (dc dl_X11_readFriends 2 rfl) rfl rfl ?_
  refine s_bipush (pc := 3) (v := 12) (dc dl_X11_readFriends 3 rfl) bi_12 ?_
  refine s_icmp_ge (pc := 5) (tgt := 24) (dc dl_X11_readFriends 4 rfl) rfl ?_ ?_
  · refine s_iconst (pc := 24) (v := 0) (dc dl_X11_readFriends 14 rfl) ic_0 ?_
    refine s_istore_n (pc := 25) (lv' := [some (.ref (ad 0)), some (.int 0)]) (dc dl_X11_readFriends 15 rfl) rfl (Nat.le_of_ble_eq_true rfl) rfl ?_
    refine s_weak (lv' := [some (.ref (ad 0)), some (.int 0)]) rfl ?_
    refine s_loop (pc := 26) (fun s4 : Int32 => [some (.ref (ad 0)), some (.int s4)]) [] (fun self3 hself3 s4 => ?_) _ 0
    refine s_aload_n (pc := 26) (dc dl_X11_readFriends 16 rfl) rfl rfl ?_
    refine s_bipush (pc := 27) (v := 21) (dc dl_X11_readFriends 17 rfl) bi_21 ?_
    refine s_call (pc := 29) (rest := []) hG (calls_V (mi := mX11_readFriends) (o := 0) (As := [.int 21]) (rest := []) hG (dc dl_X11_readFriends 18 rfl) mo_X11_isWord mv_X11_isWord ml_X11_249 ⟨Nat.le_of_ble_eq_true rfl, Nat.le_of_ble_eq_true rfl⟩ rfl rfl (Nat.le_of_ble_eq_true rfl) lk_Mo_0 rfl) (cn_X11_isWord l G hG ad 21) rfl (fun r5 => ?_)
    refine s_if_eq (pc := 32) (tgt := 64) (dc dl_X11_readFriends 19 rfl) rfl ?_ ?_
    · refine s_aload_n (pc := 64) (dc dl_X11_readFriends 38 rfl) rfl rfl ?_
      refine s_getI (pc := 65) fl_X11_190 lk_Mo_0 kk_Mo_0_16 (dc dl_X11_readFriends 39 rfl) (fun v6 => ?_)
      refine s_jn (pj := 80) (fun a8 : Int32 => [none, none]) (fun a8 : Int32 => [.int a8]) (fun a8 => ?_) (fun j7 hj7 => ?_)
      · exact s_ireturn (pc := 80) rfl (dc dl_X11_readFriends 46 rfl)
      · refine s_if_ne (pc := 68) (tgt := 75) (dc dl_X11_readFriends 40 rfl) rfl ?_ ?_
        · refine s_iload_n (pc := 71) (dc dl_X11_readFriends 41 rfl) rfl rfl ?_
          refine s_goto (pc := 72) (tgt := 80) (dc dl_X11_readFriends 42 rfl) rfl ?_
          exact s_wk (hj7 s4) rfl
        · refine s_aload_n (pc := 75) (dc dl_X11_readFriends 43 rfl) rfl rfl ?_
          refine s_iconst (pc := 76) (v := 1) (dc dl_X11_readFriends 44 rfl) ic_1 ?_
          refine s_call (pc := 77) (rest := []) hG (calls_V (mi := mX11_readFriends) (o := 0) (As := [.int 1]) (rest := []) hG (dc dl_X11_readFriends 45 rfl) mo_X11_errs mv_X11_errs ml_X11_220 ⟨Nat.le_of_ble_eq_true rfl, Nat.le_of_ble_eq_true rfl⟩ rfl rfl (Nat.le_of_ble_eq_true rfl) lk_Mo_0 rfl) (cn_X11_errs l G hG ad 1) rfl (fun r9 => ?_)
          exact s_wk (hj7 r9) rfl
    · refine s_iload_n (pc := 35) (dc dl_X11_readFriends 20 rfl) rfl rfl ?_
      refine s_bipush (pc := 36) (v := 16) (dc dl_X11_readFriends 21 rfl) bi_16 ?_
      refine s_icmp_ne (pc := 38) (tgt := 47) (dc dl_X11_readFriends 22 rfl) rfl ?_ ?_
      · refine s_aload_n (pc := 41) (dc dl_X11_readFriends 23 rfl) rfl rfl ?_
        refine s_iconst (pc := 42) (v := 3) (dc dl_X11_readFriends 24 rfl) ic_3 ?_
        refine s_call (pc := 43) (rest := []) hG (calls_V (mi := mX11_readFriends) (o := 0) (As := [.int 3]) (rest := []) hG (dc dl_X11_readFriends 25 rfl) mo_X11_errs mv_X11_errs ml_X11_220 ⟨Nat.le_of_ble_eq_true rfl, Nat.le_of_ble_eq_true rfl⟩ rfl rfl (Nat.le_of_ble_eq_true rfl) lk_Mo_0 rfl) (cn_X11_errs l G hG ad 3) rfl (fun r12 => ?_)
        exact s_ireturn (pc := 46) rfl (dc dl_X11_readFriends 26 rfl)
      · refine s_aload_n (pc := 47) (dc dl_X11_readFriends 27 rfl) rfl rfl ?_
        refine s_call (pc := 48) (rest := []) hG (calls_V (mi := mX11_readFriends) (o := 0) (As := []) (rest := []) hG (dc dl_X11_readFriends 28 rfl) mo_X11_readFriend mv_X11_readFriend ml_X11_287 ⟨Nat.le_of_ble_eq_true rfl, Nat.le_of_ble_eq_true rfl⟩ rfl rfl (Nat.le_of_ble_eq_true rfl) lk_Mo_0 rfl) (cn_X11_readFriend l G hG ad) rfl (fun r10 => ?_)
        refine s_iconst (pc := 51) (v := (-1)) (dc dl_X11_readFriends 29 rfl) ic_m1 ?_
        refine s_icmp_ne (pc := 52) (tgt := 57) (dc dl_X11_readFriends 30 rfl) rfl ?_ ?_
        · refine s_iconst (pc := 55) (v := (-1)) (dc dl_X11_readFriends 31 rfl) ic_m1 ?_
          exact s_ireturn (pc := 56) rfl (dc dl_X11_readFriends 32 rfl)
        · refine s_iload_n (pc := 57) (dc dl_X11_readFriends 33 rfl) rfl rfl ?_
          refine s_iconst (pc := 58) (v := 1) (dc dl_X11_readFriends 34 rfl) ic_1 ?_
          refine s_iadd (pc := 59) (dc dl_X11_readFriends 35 rfl) ?_
          refine s_istore_nL (pc := 60) (lf' := fun y11 => [some (.ref (ad 0)), some (.int y11)]) (dc dl_X11_readFriends 36 rfl) rfl (Nat.le_of_ble_eq_true rfl) (fun _ => rfl) (fun y11 => ?_)
          refine s_goto (pc := 61) (tgt := 26) (dc dl_X11_readFriends 37 rfl) rfl ?_
          exact s_wk (hself3 y11) rfl
  · refine s_aload_n (pc := 8) (dc dl_X11_readFriends 5 rfl) rfl rfl ?_
    refine s_getR (pc := 9) fl_X11_68 lk_Mo_0 kk_Mo_0_40 (dc dl_X11_readFriends 6 rfl) ?_
    refine s_bipush (pc := 12) (v := 12) (dc dl_X11_readFriends 7 rfl) bi_12 ?_
    refine s_iload_n (pc := 14) (dc dl_X11_readFriends 8 rfl) rfl rfl ?_
    refine s_iadd (pc := 15) (dc dl_X11_readFriends 9 rfl) ?_
    refine s_iconst (pc := 16) (v := 0) (dc dl_X11_readFriends 10 rfl) ic_0 ?_
    refine s_iast (pc := 17) lk_Mo_19 (dc dl_X11_readFriends 11 rfl) ?_
    refine s_iincL (pc := 18) (lf' := fun y13 => [some (.ref (ad 0)), some (.int y13)]) (dc dl_X11_readFriends 12 rfl) rfl rfl (Nat.le_of_ble_eq_true rfl) (fun _ => rfl) (fun y13 => ?_)
    refine s_goto (pc := 21) (tgt := 2) (dc dl_X11_readFriends 13 rfl) rfl ?_
    exact s_wk (hself1 y13) rfl
def gX11_readsText (x1 : Int32) : MM Int32 :=
  bd (sv 0 26 0) fun _ =>
  bd gX11_reads fun r1 =>
  (if x1 = 1 then
  bd gX11_readDeeds fun r7 =>
  pr r7
  else
  (if x1 = 2 then
  bd gX11_readMinds fun r6 =>
  pr r6
  else
  jn (fun (a3 : Int32) =>
  pr a3) (fun j2 =>
  (if x1 = 3 then
  bd gX11_readFriends fun r5 =>
  j2 r5
  else
  bd gX11_readLaw fun r4 =>
  j2 r4))))
set_option maxHeartbeats 4000000 in
theorem cn_X11_readsText (l : Launch) (G : Gl) (hG : gOk G) (ad : Nat → Nat) (x1 : Int32) : Cn l G mX11_readsText 9 lay_Mo ad [.ref (ad 0), .int x1] (gX11_readsText x1) := by
  refine cn_of (lv := [some (.ref (ad 0)), some (.int x1)]) (by decide +kernel) rfl (Nat.le_of_ble_eq_true rfl) rfl ?_
  unfold gX11_readsText
  refine s_aload_n (pc := 0) (dc dl_X11_readsText 0 rfl) rfl rfl ?_
  refine s_iconst (pc := 1) (v := 0) (dc dl_X11_readsText 1 rfl) ic_0 ?_
  refine s_putI (pc := 2) fw_X11_268 lk_Mo_0 kk_Mo_0_26 (dc dl_X11_readsText 2 rfl) ?_
  refine s_aload_n (pc := 5) (dc dl_X11_readsText 3 rfl) rfl rfl ?_
  refine s_callv (pc := 6) (rest := []) hG (calls_V (mi := mX11_readsText) (o := 0) (As := []) (rest := []) hG (dc dl_X11_readsText 4 rfl) mo_X11_reads mv_X11_reads ml_X11_227 ⟨Nat.le_of_ble_eq_true rfl, Nat.le_of_ble_eq_true rfl⟩ rfl rfl (Nat.le_of_ble_eq_true rfl) lk_Mo_0 rfl) (cn_X11_reads l G hG ad) rfl (fun r1 => ?_)
  refine s_iload_n (pc := 9) (dc dl_X11_readsText 5 rfl) rfl rfl ?_
  refine s_iconst (pc := 10) (v := 1) (dc dl_X11_readsText 6 rfl) ic_1 ?_
  refine s_icmp_ne (pc := 11) (tgt := 19) (dc dl_X11_readsText 7 rfl) rfl ?_ ?_
  · refine s_aload_n (pc := 14) (dc dl_X11_readsText 8 rfl) rfl rfl ?_
    refine s_call (pc := 15) (rest := []) hG (calls_V (mi := mX11_readsText) (o := 0) (As := []) (rest := []) hG (dc dl_X11_readsText 9 rfl) mo_X11_readDeeds mv_X11_readDeeds ml_X11_290 ⟨Nat.le_of_ble_eq_true rfl, Nat.le_of_ble_eq_true rfl⟩ rfl rfl (Nat.le_of_ble_eq_true rfl) lk_Mo_0 rfl) (cn_X11_readDeeds l G hG ad) rfl (fun r7 => ?_)
    exact s_ireturn (pc := 18) rfl (dc dl_X11_readsText 10 rfl)
  · refine s_iload_n (pc := 19) (dc dl_X11_readsText 11 rfl) rfl rfl ?_
    refine s_iconst (pc := 20) (v := 2) (dc dl_X11_readsText 12 rfl) ic_2 ?_
    refine s_icmp_ne (pc := 21) (tgt := 29) (dc dl_X11_readsText 13 rfl) rfl ?_ ?_
    · refine s_aload_n (pc := 24) (dc dl_X11_readsText 14 rfl) rfl rfl ?_
      refine s_call (pc := 25) (rest := []) hG (calls_V (mi := mX11_readsText) (o := 0) (As := []) (rest := []) hG (dc dl_X11_readsText 15 rfl) mo_X11_readMinds mv_X11_readMinds ml_X11_293 ⟨Nat.le_of_ble_eq_true rfl, Nat.le_of_ble_eq_true rfl⟩ rfl rfl (Nat.le_of_ble_eq_true rfl) lk_Mo_0 rfl) (cn_X11_readMinds l G hG ad) rfl (fun r6 => ?_)
      exact s_ireturn (pc := 28) rfl (dc dl_X11_readsText 16 rfl)
    · refine s_iload_n (pc := 29) (dc dl_X11_readsText 17 rfl) rfl rfl ?_
      refine s_iconst (pc := 30) (v := 3) (dc dl_X11_readsText 18 rfl) ic_3 ?_
      refine s_jn (pj := 45) (fun a3 : Int32 => [none, none]) (fun a3 : Int32 => [.int a3]) (fun a3 => ?_) (fun j2 hj2 => ?_)
      · exact s_ireturn (pc := 45) rfl (dc dl_X11_readsText 25 rfl)
      · refine s_icmp_ne (pc := 31) (tgt := 41) (dc dl_X11_readsText 19 rfl) rfl ?_ ?_
        · refine s_aload_n (pc := 34) (dc dl_X11_readsText 20 rfl) rfl rfl ?_
          refine s_call (pc := 35) (rest := []) hG (calls_V (mi := mX11_readsText) (o := 0) (As := []) (rest := []) hG (dc dl_X11_readsText 21 rfl) mo_X11_readFriends mv_X11_readFriends ml_X11_296 ⟨Nat.le_of_ble_eq_true rfl, Nat.le_of_ble_eq_true rfl⟩ rfl rfl (Nat.le_of_ble_eq_true rfl) lk_Mo_0 rfl) (cn_X11_readFriends l G hG ad) rfl (fun r5 => ?_)
          refine s_goto (pc := 38) (tgt := 45) (dc dl_X11_readsText 22 rfl) rfl ?_
          exact s_wk (hj2 r5) rfl
        · refine s_aload_n (pc := 41) (dc dl_X11_readsText 23 rfl) rfl rfl ?_
          refine s_call (pc := 42) (rest := []) hG (calls_V (mi := mX11_readsText) (o := 0) (As := []) (rest := []) hG (dc dl_X11_readsText 24 rfl) mo_X11_readLaw mv_X11_readLaw ml_X11_299 ⟨Nat.le_of_ble_eq_true rfl, Nat.le_of_ble_eq_true rfl⟩ rfl rfl (Nat.le_of_ble_eq_true rfl) lk_Mo_0 rfl) (cn_X11_readLaw l G hG ad) rfl (fun r4 => ?_)
          exact s_wk (hj2 r4) rfl
def gX11_takesOther (x1 x2 : Int32) : MM Int32 :=
  (if x1 = 3 then
  loopC 100000 (fun (self17 : Int32 → MM Int32) (s18 : Int32) =>
  (if 12 ≤ s18 then
  bd (sv 0 39 x2) fun _ =>
  pr 0
  else
  bd (la 19 (12 + s18)) fun v19 =>
  bd (sa 19 s18 v19) fun _ =>
  lt (s18 + 1) fun y20 =>
  self17 y20)) 0
  else
  loopC 100000 (fun (self1 : Int32 → MM Int32) (s2 : Int32) =>
  jn (fun (a4 : Unit) =>
  loopC 100000 (fun (self5 : Int32 → MM Int32) (s6 : Int32) =>
  jn (fun (a8 : Unit) =>
  jn (fun (a10 : Unit) =>
  jn (fun (a12 : Unit) =>
  bd (sv 0 3 0) fun _ =>
  pr 0) (fun j11 =>
  (if x1 = 2 then
  bd (sv 0 37 x2) fun _ =>
  j11 ()
  else
  j11 ()))) (fun j9 =>
  (if x1 = 1 then
  bd (sv 0 35 x2) fun _ =>
  j9 ()
  else
  j9 ()))) (fun j7 =>
  (if (3 * x2) ≤ s6 then
  j7 ()
  else
  (if x1 = 2 then
  bd (la 18 (48 + s6)) fun v13 =>
  bd (sa 18 s6 v13) fun _ =>
  lt (s6 + 1) fun y14 =>
  self5 y14
  else
  j7 ())))) 0) (fun j3 =>
  (if (4 * x2) ≤ s2 then
  j3 ()
  else
  (if x1 = 1 then
  bd (la 17 (64 + s2)) fun v15 =>
  bd (sa 17 s2 v15) fun _ =>
  lt (s2 + 1) fun y16 =>
  self1 y16
  else
  j3 ())))) 0)
set_option maxHeartbeats 4000000 in
theorem cn_X11_takesOther (l : Launch) (G : Gl) (hG : gOk G) (ad : Nat → Nat) (x1 x2 : Int32) : Cn l G mX11_takesOther 0 lay_Mo ad [.ref (ad 0), .int x1, .int x2] (gX11_takesOther x1 x2) := by
  refine cn_of (lv := [some (.ref (ad 0)), some (.int x1), some (.int x2), none]) (by decide +kernel) rfl (Nat.le_of_ble_eq_true rfl) rfl ?_
  unfold gX11_takesOther
  refine s_iload_n (pc := 0) (dc dl_X11_takesOther 0 rfl) rfl rfl ?_
  refine s_iconst (pc := 1) (v := 3) (dc dl_X11_takesOther 1 rfl) ic_3 ?_
  refine s_icmp_ne (pc := 2) (tgt := 40) (dc dl_X11_takesOther 2 rfl) rfl ?_ ?_
  · refine s_iconst (pc := 5) (v := 0) (dc dl_X11_takesOther 3 rfl) ic_0 ?_
    refine s_istore_n (pc := 6) (lv' := [some (.ref (ad 0)), some (.int x1), some (.int x2), some (.int 0)]) (dc dl_X11_takesOther 4 rfl) rfl (Nat.le_of_ble_eq_true rfl) rfl ?_
    refine s_weak (lv' := [some (.ref (ad 0)), none, some (.int x2), some (.int 0)]) rfl ?_
    refine s_loop (pc := 7) (fun s18 : Int32 => [some (.ref (ad 0)), none, some (.int x2), some (.int s18)]) [] (fun self17 hself17 s18 => ?_) _ 0
    refine s_iload_n (pc := 7) (dc dl_X11_takesOther 5 rfl) rfl rfl ?_
    refine s_bipush (pc := 8) (v := 12) (dc dl_X11_takesOther 6 rfl) bi_12 ?_
    refine s_icmp_ge (pc := 10) (tgt := 34) (dc dl_X11_takesOther 7 rfl) rfl ?_ ?_
    · refine s_aload_n (pc := 34) (dc dl_X11_takesOther 20 rfl) rfl rfl ?_
      refine s_iload_n (pc := 35) (dc dl_X11_takesOther 21 rfl) rfl rfl ?_
      refine s_putI (pc := 36) fw_X11_302 lk_Mo_0 kk_Mo_0_39 (dc dl_X11_takesOther 22 rfl) ?_
      exact s_return (pc := 39) rfl (dc dl_X11_takesOther 23 rfl)
    · refine s_aload_n (pc := 13) (dc dl_X11_takesOther 8 rfl) rfl rfl ?_
      refine s_getR (pc := 14) fl_X11_68 lk_Mo_0 kk_Mo_0_40 (dc dl_X11_takesOther 9 rfl) ?_
      refine s_iload_n (pc := 17) (dc dl_X11_takesOther 10 rfl) rfl rfl ?_
      refine s_aload_n (pc := 18) (dc dl_X11_takesOther 11 rfl) rfl rfl ?_
      refine s_getR (pc := 19) fl_X11_68 lk_Mo_0 kk_Mo_0_40 (dc dl_X11_takesOther 12 rfl) ?_
      refine s_bipush (pc := 22) (v := 12) (dc dl_X11_takesOther 13 rfl) bi_12 ?_
      refine s_iload_n (pc := 24) (dc dl_X11_takesOther 14 rfl) rfl rfl ?_
      refine s_iadd (pc := 25) (dc dl_X11_takesOther 15 rfl) ?_
      refine s_iald (pc := 26) lk_Mo_19 (dc dl_X11_takesOther 16 rfl) (fun v19 => ?_)
      refine s_iast (pc := 27) lk_Mo_19 (dc dl_X11_takesOther 17 rfl) ?_
      refine s_iincL (pc := 28) (lf' := fun y20 => [some (.ref (ad 0)), none, some (.int x2), some (.int y20)]) (dc dl_X11_takesOther 18 rfl) rfl rfl (Nat.le_of_ble_eq_true rfl) (fun _ => rfl) (fun y20 => ?_)
      refine s_goto (pc := 31) (tgt := 7) (dc dl_X11_takesOther 19 rfl) rfl ?_
      exact s_wk (hself17 y20) rfl
  · refine s_iconst (pc := 40) (v := 0) (dc dl_X11_takesOther 24 rfl) ic_0 ?_
    refine s_istore_n (pc := 41) (lv' := [some (.ref (ad 0)), some (.int x1), some (.int x2), some (.int 0)]) (dc dl_X11_takesOther 25 rfl) rfl (Nat.le_of_ble_eq_true rfl) rfl ?_
    refine s_weak (lv' := [some (.ref (ad 0)), some (.int x1), some (.int x2), some (.int 0)]) rfl ?_
    refine s_loop (pc := 42) (fun s2 : Int32 => [some (.ref (ad 0)), some (.int x1), some (.int x2), some (.int s2)]) [] (fun self1 hself1 s2 => ?_) _ 0
    refine s_iload_n (pc := 42) (dc dl_X11_takesOther 26 rfl) rfl rfl ?_
    refine s_iconst (pc := 43) (v := 4) (dc dl_X11_takesOther 27 rfl) ic_4 ?_
    refine s_iload_n (pc := 44) (dc dl_X11_takesOther 28 rfl) rfl rfl ?_
    refine s_imul (pc := 45) (dc dl_X11_takesOther 29 rfl) ?_
    refine s_jn (pj := 75) (fun a4 : Unit => [some (.ref (ad 0)), some (.int x1), some (.int x2), none]) (fun a4 : Unit => []) (fun a4 => ?_) (fun j3 hj3 => ?_)
    · refine s_iconst (pc := 75) (v := 0) (dc dl_X11_takesOther 46 rfl) ic_0 ?_
      refine s_istore_n (pc := 76) (lv' := [some (.ref (ad 0)), some (.int x1), some (.int x2), some (.int 0)]) (dc dl_X11_takesOther 47 rfl) rfl (Nat.le_of_ble_eq_true rfl) rfl ?_
      refine s_weak (lv' := [some (.ref (ad 0)), some (.int x1), some (.int x2), some (.int 0)]) rfl ?_
      refine s_loop (pc := 77) (fun s6 : Int32 => [some (.ref (ad 0)), some (.int x1), some (.int x2), some (.int s6)]) [] (fun self5 hself5 s6 => ?_) _ 0
      refine s_iload_n (pc := 77) (dc dl_X11_takesOther 48 rfl) rfl rfl ?_
      refine s_iconst (pc := 78) (v := 3) (dc dl_X11_takesOther 49 rfl) ic_3 ?_
      refine s_iload_n (pc := 79) (dc dl_X11_takesOther 50 rfl) rfl rfl ?_
      refine s_imul (pc := 80) (dc dl_X11_takesOther 51 rfl) ?_
      refine s_jn (pj := 110) (fun a8 : Unit => [some (.ref (ad 0)), some (.int x1), some (.int x2), none]) (fun a8 : Unit => []) (fun a8 => ?_) (fun j7 hj7 => ?_)
      · refine s_iload_n (pc := 110) (dc dl_X11_takesOther 68 rfl) rfl rfl ?_
        refine s_iconst (pc := 111) (v := 1) (dc dl_X11_takesOther 69 rfl) ic_1 ?_
        refine s_jn (pj := 120) (fun a10 : Unit => [some (.ref (ad 0)), some (.int x1), some (.int x2), none]) (fun a10 : Unit => []) (fun a10 => ?_) (fun j9 hj9 => ?_)
        · refine s_iload_n (pc := 120) (dc dl_X11_takesOther 74 rfl) rfl rfl ?_
          refine s_iconst (pc := 121) (v := 2) (dc dl_X11_takesOther 75 rfl) ic_2 ?_
          refine s_jn (pj := 130) (fun a12 : Unit => [some (.ref (ad 0)), none, none, none]) (fun a12 : Unit => []) (fun a12 => ?_) (fun j11 hj11 => ?_)
          · refine s_aload_n (pc := 130) (dc dl_X11_takesOther 80 rfl) rfl rfl ?_
            refine s_iconst (pc := 131) (v := 0) (dc dl_X11_takesOther 81 rfl) ic_0 ?_
            refine s_putI (pc := 132) fw_X11_128 lk_Mo_0 kk_Mo_0_3 (dc dl_X11_takesOther 82 rfl) ?_
            exact s_return (pc := 135) rfl (dc dl_X11_takesOther 83 rfl)
          · refine s_icmp_ne (pc := 122) (tgt := 130) (dc dl_X11_takesOther 76 rfl) rfl ?_ ?_
            · refine s_aload_n (pc := 125) (dc dl_X11_takesOther 77 rfl) rfl rfl ?_
              refine s_iload_n (pc := 126) (dc dl_X11_takesOther 78 rfl) rfl rfl ?_
              refine s_putI (pc := 127) fw_X11_308 lk_Mo_0 kk_Mo_0_37 (dc dl_X11_takesOther 79 rfl) ?_
              exact s_wk (hj11 ()) rfl
            · exact s_wk (hj11 ()) rfl
        · refine s_icmp_ne (pc := 112) (tgt := 120) (dc dl_X11_takesOther 70 rfl) rfl ?_ ?_
          · refine s_aload_n (pc := 115) (dc dl_X11_takesOther 71 rfl) rfl rfl ?_
            refine s_iload_n (pc := 116) (dc dl_X11_takesOther 72 rfl) rfl rfl ?_
            refine s_putI (pc := 117) fw_X11_305 lk_Mo_0 kk_Mo_0_35 (dc dl_X11_takesOther 73 rfl) ?_
            exact s_wk (hj9 ()) rfl
          · exact s_wk (hj9 ()) rfl
      · refine s_icmp_ge (pc := 81) (tgt := 110) (dc dl_X11_takesOther 52 rfl) rfl ?_ ?_
        · exact s_wk (hj7 ()) rfl
        · refine s_iload_n (pc := 84) (dc dl_X11_takesOther 53 rfl) rfl rfl ?_
          refine s_iconst (pc := 85) (v := 2) (dc dl_X11_takesOther 54 rfl) ic_2 ?_
          refine s_icmp_ne (pc := 86) (tgt := 110) (dc dl_X11_takesOther 55 rfl) rfl ?_ ?_
          · refine s_aload_n (pc := 89) (dc dl_X11_takesOther 56 rfl) rfl rfl ?_
            refine s_getR (pc := 90) fl_X11_65 lk_Mo_0 kk_Mo_0_38 (dc dl_X11_takesOther 57 rfl) ?_
            refine s_iload_n (pc := 93) (dc dl_X11_takesOther 58 rfl) rfl rfl ?_
            refine s_aload_n (pc := 94) (dc dl_X11_takesOther 59 rfl) rfl rfl ?_
            refine s_getR (pc := 95) fl_X11_65 lk_Mo_0 kk_Mo_0_38 (dc dl_X11_takesOther 60 rfl) ?_
            refine s_bipush (pc := 98) (v := 48) (dc dl_X11_takesOther 61 rfl) bi_48 ?_
            refine s_iload_n (pc := 100) (dc dl_X11_takesOther 62 rfl) rfl rfl ?_
            refine s_iadd (pc := 101) (dc dl_X11_takesOther 63 rfl) ?_
            refine s_iald (pc := 102) lk_Mo_18 (dc dl_X11_takesOther 64 rfl) (fun v13 => ?_)
            refine s_iast (pc := 103) lk_Mo_18 (dc dl_X11_takesOther 65 rfl) ?_
            refine s_iincL (pc := 104) (lf' := fun y14 => [some (.ref (ad 0)), some (.int x1), some (.int x2), some (.int y14)]) (dc dl_X11_takesOther 66 rfl) rfl rfl (Nat.le_of_ble_eq_true rfl) (fun _ => rfl) (fun y14 => ?_)
            refine s_goto (pc := 107) (tgt := 77) (dc dl_X11_takesOther 67 rfl) rfl ?_
            exact s_wk (hself5 y14) rfl
          · exact s_wk (hj7 ()) rfl
    · refine s_icmp_ge (pc := 46) (tgt := 75) (dc dl_X11_takesOther 30 rfl) rfl ?_ ?_
      · exact s_wk (hj3 ()) rfl
      · refine s_iload_n (pc := 49) (dc dl_X11_takesOther 31 rfl) rfl rfl ?_
        refine s_iconst (pc := 50) (v := 1) (dc dl_X11_takesOther 32 rfl) ic_1 ?_
        refine s_icmp_ne (pc := 51) (tgt := 75) (dc dl_X11_takesOther 33 rfl) rfl ?_ ?_
        · refine s_aload_n (pc := 54) (dc dl_X11_takesOther 34 rfl) rfl rfl ?_
          refine s_getR (pc := 55) fl_X11_62 lk_Mo_0 kk_Mo_0_36 (dc dl_X11_takesOther 35 rfl) ?_
          refine s_iload_n (pc := 58) (dc dl_X11_takesOther 36 rfl) rfl rfl ?_
          refine s_aload_n (pc := 59) (dc dl_X11_takesOther 37 rfl) rfl rfl ?_
          refine s_getR (pc := 60) fl_X11_62 lk_Mo_0 kk_Mo_0_36 (dc dl_X11_takesOther 38 rfl) ?_
          refine s_bipush (pc := 63) (v := 64) (dc dl_X11_takesOther 39 rfl) bi_64 ?_
          refine s_iload_n (pc := 65) (dc dl_X11_takesOther 40 rfl) rfl rfl ?_
          refine s_iadd (pc := 66) (dc dl_X11_takesOther 41 rfl) ?_
          refine s_iald (pc := 67) lk_Mo_17 (dc dl_X11_takesOther 42 rfl) (fun v15 => ?_)
          refine s_iast (pc := 68) lk_Mo_17 (dc dl_X11_takesOther 43 rfl) ?_
          refine s_iincL (pc := 69) (lf' := fun y16 => [some (.ref (ad 0)), some (.int x1), some (.int x2), some (.int y16)]) (dc dl_X11_takesOther 44 rfl) rfl rfl (Nat.le_of_ble_eq_true rfl) (fun _ => rfl) (fun y16 => ?_)
          refine s_goto (pc := 72) (tgt := 42) (dc dl_X11_takesOther 45 rfl) rfl ?_
          exact s_wk (hself1 y16) rfl
        · exact s_wk (hj3 ()) rfl
def gX11_text (x1 : Int32) : MM Int32 :=
  bd (sv 0 0 0) fun _ =>
  bd (sv 0 33 0) fun _ =>
  bd (sv 0 34 ((-1))) fun _ =>
  bd (sv 0 14 0) fun _ =>
  bd (sv 0 27 0) fun _ =>
  bd (sv 0 28 0) fun _ =>
  bd (gX11_isIn x1 0 3) fun r1 =>
  jn (fun (a3 : Int32) =>
  bd (sv 0 13 0) fun _ =>
  (if a3 = ((-1)) then
  pr ((-1))
  else
  jn (fun (a5 : Unit) =>
  pr a3) (fun j4 =>
  (if x1 = 0 then
  bd (gX11_takesLaw a3) fun r7 =>
  j4 ()
  else
  bd (gX11_takesOther x1 a3) fun r6 =>
  j4 ())))) (fun j2 =>
  (if r1 = 0 then
  j2 ((-1))
  else
  bd (gX11_readsText x1) fun r8 =>
  (if r8 = ((-1)) then
  bd (ld 0 31) fun v9 =>
  bd (sv 0 33 v9) fun _ =>
  bd (ld 0 32) fun v10 =>
  bd (sv 0 34 v10) fun _ =>
  j2 r8
  else
  j2 r8)))
set_option maxHeartbeats 4000000 in
theorem cn_X11_text (l : Launch) (G : Gl) (hG : gOk G) (ad : Nat → Nat) (x1 : Int32) : Cn l G mX11_text 10 lay_Mo ad [.ref (ad 0), .int x1] (gX11_text x1) := by
  refine cn_of (lv := [some (.ref (ad 0)), some (.int x1), none]) (by decide +kernel) rfl (Nat.le_of_ble_eq_true rfl) rfl ?_
  unfold gX11_text
  refine s_aload_n (pc := 0) (dc dl_X11_text 0 rfl) rfl rfl ?_
  refine s_iconst (pc := 1) (v := 0) (dc dl_X11_text 1 rfl) ic_0 ?_
  refine s_putI (pc := 2) fw_X11_125 lk_Mo_0 kk_Mo_0_0 (dc dl_X11_text 2 rfl) ?_
  refine s_aload_n (pc := 5) (dc dl_X11_text 3 rfl) rfl rfl ?_
  refine s_iconst (pc := 6) (v := 0) (dc dl_X11_text 4 rfl) ic_0 ?_
  refine s_putI (pc := 7) fw_X11_311 lk_Mo_0 kk_Mo_0_33 (dc dl_X11_text 5 rfl) ?_
  refine s_aload_n (pc := 10) (dc dl_X11_text 6 rfl) rfl rfl ?_
  refine s_iconst (pc := 11) (v := (-1)) (dc dl_X11_text 7 rfl) ic_m1 ?_
  refine s_putI (pc := 12) fw_X11_58 lk_Mo_0 kk_Mo_0_34 (dc dl_X11_text 8 rfl) ?_
  refine s_aload_n (pc := 15) (dc dl_X11_text 9 rfl) rfl rfl ?_
  refine s_iconst (pc := 16) (v := 0) (dc dl_X11_text 10 rfl) ic_0 ?_
  refine s_putI (pc := 17) fw_X11_181 lk_Mo_0 kk_Mo_0_14 (dc dl_X11_text 11 rfl) ?_
  refine s_aload_n (pc := 20) (dc dl_X11_text 12 rfl) rfl rfl ?_
  refine s_iconst (pc := 21) (v := 0) (dc dl_X11_text 13 rfl) ic_0 ?_
  refine s_putI (pc := 22) fw_X11_214 lk_Mo_0 kk_Mo_0_27 (dc dl_X11_text 14 rfl) ?_
  refine s_aload_n (pc := 25) (dc dl_X11_text 15 rfl) rfl rfl ?_
  refine s_iconst (pc := 26) (v := 0) (dc dl_X11_text 16 rfl) ic_0 ?_
  refine s_putI (pc := 27) fw_X11_246 lk_Mo_0 kk_Mo_0_28 (dc dl_X11_text 17 rfl) ?_
  refine s_iconst (pc := 30) (v := (-1)) (dc dl_X11_text 18 rfl) ic_m1 ?_
  refine s_istore_n (pc := 31) (lv' := [some (.ref (ad 0)), some (.int x1), some (.int ((-1)))]) (dc dl_X11_text 19 rfl) rfl (Nat.le_of_ble_eq_true rfl) rfl ?_
  refine s_aload_n (pc := 32) (dc dl_X11_text 20 rfl) rfl rfl ?_
  refine s_iload_n (pc := 33) (dc dl_X11_text 21 rfl) rfl rfl ?_
  refine s_iconst (pc := 34) (v := 0) (dc dl_X11_text 22 rfl) ic_0 ?_
  refine s_iconst (pc := 35) (v := 3) (dc dl_X11_text 23 rfl) ic_3 ?_
  refine s_call (pc := 36) (rest := []) hG (calls_V (mi := mX11_text) (o := 0) (As := [.int x1, .int 0, .int 3]) (rest := []) hG (dc dl_X11_text 24 rfl) mo_X11_isIn mv_X11_isIn ml_X11_150 ⟨Nat.le_of_ble_eq_true rfl, Nat.le_of_ble_eq_true rfl⟩ rfl rfl (Nat.le_of_ble_eq_true rfl) lk_Mo_0 rfl) (cn_X11_isIn l G hG ad x1 0 3) rfl (fun r1 => ?_)
  refine s_jn (pj := 69) (fun a3 : Int32 => [some (.ref (ad 0)), some (.int x1), some (.int a3)]) (fun a3 : Int32 => []) (fun a3 => ?_) (fun j2 hj2 => ?_)
  · refine s_aload_n (pc := 69) (dc dl_X11_text 41 rfl) rfl rfl ?_
    refine s_iconst (pc := 70) (v := 0) (dc dl_X11_text 42 rfl) ic_0 ?_
    refine s_putI (pc := 71) fw_X11_174 lk_Mo_0 kk_Mo_0_13 (dc dl_X11_text 43 rfl) ?_
    refine s_iload_n (pc := 74) (dc dl_X11_text 44 rfl) rfl rfl ?_
    refine s_iconst (pc := 75) (v := (-1)) (dc dl_X11_text 45 rfl) ic_m1 ?_
    refine s_icmp_ne (pc := 76) (tgt := 81) (dc dl_X11_text 46 rfl) rfl ?_ ?_
    · refine s_iconst (pc := 79) (v := (-1)) (dc dl_X11_text 47 rfl) ic_m1 ?_
      exact s_ireturn (pc := 80) rfl (dc dl_X11_text 48 rfl)
    · refine s_iload_n (pc := 81) (dc dl_X11_text 49 rfl) rfl rfl ?_
      refine s_jn (pj := 99) (fun a5 : Unit => [none, none, some (.int a3)]) (fun a5 : Unit => []) (fun a5 => ?_) (fun j4 hj4 => ?_)
      · refine s_iload_n (pc := 99) (dc dl_X11_text 59 rfl) rfl rfl ?_
        exact s_ireturn (pc := 100) rfl (dc dl_X11_text 60 rfl)
      · refine s_if_ne (pc := 82) (tgt := 93) (dc dl_X11_text 50 rfl) rfl ?_ ?_
        · refine s_aload_n (pc := 85) (dc dl_X11_text 51 rfl) rfl rfl ?_
          refine s_iload_n (pc := 86) (dc dl_X11_text 52 rfl) rfl rfl ?_
          refine s_callv (pc := 87) (rest := []) hG (calls_V (mi := mX11_text) (o := 0) (As := [.int a3]) (rest := []) hG (dc dl_X11_text 53 rfl) mo_X11_takesLaw mv_X11_takesLaw ml_X11_317 ⟨Nat.le_of_ble_eq_true rfl, Nat.le_of_ble_eq_true rfl⟩ rfl rfl (Nat.le_of_ble_eq_true rfl) lk_Mo_0 rfl) (cn_X11_takesLaw l G hG ad a3) rfl (fun r7 => ?_)
          refine s_goto (pc := 90) (tgt := 99) (dc dl_X11_text 54 rfl) rfl ?_
          exact s_wk (hj4 ()) rfl
        · refine s_aload_n (pc := 93) (dc dl_X11_text 55 rfl) rfl rfl ?_
          refine s_iload_n (pc := 94) (dc dl_X11_text 56 rfl) rfl rfl ?_
          refine s_iload_n (pc := 95) (dc dl_X11_text 57 rfl) rfl rfl ?_
          refine s_callv (pc := 96) (rest := []) hG (calls_V (mi := mX11_text) (o := 0) (As := [.int x1, .int a3]) (rest := []) hG (dc dl_X11_text 58 rfl) mo_X11_takesOther mv_X11_takesOther ml_X11_320 ⟨Nat.le_of_ble_eq_true rfl, Nat.le_of_ble_eq_true rfl⟩ rfl rfl (Nat.le_of_ble_eq_true rfl) lk_Mo_0 rfl) (cn_X11_takesOther l G hG ad x1 a3) rfl (fun r6 => ?_)
          exact s_wk (hj4 ()) rfl
  · refine s_if_eq (pc := 39) (tgt := 69) (dc dl_X11_text 25 rfl) rfl ?_ ?_
    · exact s_wk (hj2 ((-1))) rfl
    · refine s_aload_n (pc := 42) (dc dl_X11_text 26 rfl) rfl rfl ?_
      refine s_iload_n (pc := 43) (dc dl_X11_text 27 rfl) rfl rfl ?_
      refine s_call (pc := 44) (rest := []) hG (calls_V (mi := mX11_text) (o := 0) (As := [.int x1]) (rest := []) hG (dc dl_X11_text 28 rfl) mo_X11_readsText mv_X11_readsText ml_X11_314 ⟨Nat.le_of_ble_eq_true rfl, Nat.le_of_ble_eq_true rfl⟩ rfl rfl (Nat.le_of_ble_eq_true rfl) lk_Mo_0 rfl) (cn_X11_readsText l G hG ad x1) rfl (fun r8 => ?_)
      refine s_istore_n (pc := 47) (lv' := [some (.ref (ad 0)), some (.int x1), some (.int r8)]) (dc dl_X11_text 29 rfl) rfl (Nat.le_of_ble_eq_true rfl) rfl ?_
      refine s_iload_n (pc := 48) (dc dl_X11_text 30 rfl) rfl rfl ?_
      refine s_iconst (pc := 49) (v := (-1)) (dc dl_X11_text 31 rfl) ic_m1 ?_
      refine s_icmp_ne (pc := 50) (tgt := 69) (dc dl_X11_text 32 rfl) rfl ?_ ?_
      · refine s_aload_n (pc := 53) (dc dl_X11_text 33 rfl) rfl rfl ?_
        refine s_aload_n (pc := 54) (dc dl_X11_text 34 rfl) rfl rfl ?_
        refine s_getI (pc := 55) fl_X11_208 lk_Mo_0 kk_Mo_0_31 (dc dl_X11_text 35 rfl) (fun v9 => ?_)
        refine s_putI (pc := 58) fw_X11_311 lk_Mo_0 kk_Mo_0_33 (dc dl_X11_text 36 rfl) ?_
        refine s_aload_n (pc := 61) (dc dl_X11_text 37 rfl) rfl rfl ?_
        refine s_aload_n (pc := 62) (dc dl_X11_text 38 rfl) rfl rfl ?_
        refine s_getI (pc := 63) fl_X11_211 lk_Mo_0 kk_Mo_0_32 (dc dl_X11_text 39 rfl) (fun v10 => ?_)
        refine s_putI (pc := 66) fw_X11_58 lk_Mo_0 kk_Mo_0_34 (dc dl_X11_text 40 rfl) ?_
        exact s_wk (hj2 r8) rfl
      · exact s_wk (hj2 r8) rfl
def gX11_fault (x1 : Int32) : MM Int32 :=
  bd (sv 0 0 0) fun _ =>
  jn (fun (a2 : Int32) =>
  pr a2) (fun j1 =>
  (if x1 = 0 then
  bd (ld 0 33) fun v4 =>
  j1 v4
  else
  (if x1 = 1 then
  bd (ld 0 34) fun v3 =>
  j1 v3
  else
  j1 ((-1)))))
set_option maxHeartbeats 4000000 in
theorem cn_X11_fault (l : Launch) (G : Gl) (hG : gOk G) (ad : Nat → Nat) (x1 : Int32) : Cn l G mX11_fault 0 lay_Mo ad [.ref (ad 0), .int x1] (gX11_fault x1) := by
  refine cn_of (lv := [some (.ref (ad 0)), some (.int x1)]) (by decide +kernel) rfl (Nat.le_of_ble_eq_true rfl) rfl ?_
  unfold gX11_fault
  refine s_aload_n (pc := 0) (dc dl_X11_fault 0 rfl) rfl rfl ?_
  refine s_iconst (pc := 1) (v := 0) (dc dl_X11_fault 1 rfl) ic_0 ?_
  refine s_putI (pc := 2) fw_X11_125 lk_Mo_0 kk_Mo_0_0 (dc dl_X11_fault 2 rfl) ?_
  refine s_iload_n (pc := 5) (dc dl_X11_fault 3 rfl) rfl rfl ?_
  refine s_jn (pj := 29) (fun a2 : Int32 => [none, none]) (fun a2 : Int32 => [.int a2]) (fun a2 => ?_) (fun j1 hj1 => ?_)
  · exact s_ireturn (pc := 29) rfl (dc dl_X11_fault 15 rfl)
  · refine s_if_ne (pc := 6) (tgt := 16) (dc dl_X11_fault 4 rfl) rfl ?_ ?_
    · refine s_aload_n (pc := 9) (dc dl_X11_fault 5 rfl) rfl rfl ?_
      refine s_getI (pc := 10) fl_X11_311 lk_Mo_0 kk_Mo_0_33 (dc dl_X11_fault 6 rfl) (fun v4 => ?_)
      refine s_goto (pc := 13) (tgt := 29) (dc dl_X11_fault 7 rfl) rfl ?_
      exact s_wk (hj1 v4) rfl
    · refine s_iload_n (pc := 16) (dc dl_X11_fault 8 rfl) rfl rfl ?_
      refine s_iconst (pc := 17) (v := 1) (dc dl_X11_fault 9 rfl) ic_1 ?_
      refine s_icmp_ne (pc := 18) (tgt := 28) (dc dl_X11_fault 10 rfl) rfl ?_ ?_
      · refine s_aload_n (pc := 21) (dc dl_X11_fault 11 rfl) rfl rfl ?_
        refine s_getI (pc := 22) fl_X11_58 lk_Mo_0 kk_Mo_0_34 (dc dl_X11_fault 12 rfl) (fun v3 => ?_)
        refine s_goto (pc := 25) (tgt := 29) (dc dl_X11_fault 13 rfl) rfl ?_
        exact s_wk (hj1 v3) rfl
      · refine s_iconst (pc := 28) (v := (-1)) (dc dl_X11_fault 14 rfl) ic_m1 ?_
        exact s_wk (hj1 ((-1))) rfl
def gX11_twoOf (x1 x2 x3 : Int32) : MM Int32 :=
  (if x1 = 2 then
  pr (x2 + x3)
  else
  (if x1 = 3 then
  pr (x2 - x3)
  else
  (if x1 = 4 then
  pr (x2 * x3)
  else
  (if x1 = 5 then
  nz x3 (
  pr (x2 / x3))
  else
  (if x1 = 6 then
  jn (fun (a8 : Int32) =>
  pr a8) (fun j7 =>
  (if x3 ≤ x2 then
  j7 0
  else
  j7 1))
  else
  (if x1 = 7 then
  jn (fun (a6 : Int32) =>
  pr a6) (fun j5 =>
  (if x2 = x3 then
  j5 1
  else
  j5 0))
  else
  (if x1 = 8 then
  jn (fun (a4 : Int32) =>
  pr a4) (fun j3 =>
  (if x2 ≤ x3 then
  j3 0
  else
  j3 1))
  else
  jn (fun (a2 : Int32) =>
  pr a2) (fun j1 =>
  (if x1 = 10 then
  j1 (x2 * x3)
  else
  (if (x2 + x3) ≤ 0 then
  j1 0
  else
  j1 1))))))))))
set_option maxHeartbeats 4000000 in
theorem cn_X11_twoOf (l : Launch) (G : Gl) (hG : gOk G) (ad : Nat → Nat) (x1 x2 x3 : Int32) : Cn l G mX11_twoOf 0 lay_Mo ad [.ref (ad 0), .int x1, .int x2, .int x3] (gX11_twoOf x1 x2 x3) := by
  refine cn_of (lv := [some (.ref (ad 0)), some (.int x1), some (.int x2), some (.int x3)]) (by decide +kernel) rfl (Nat.le_of_ble_eq_true rfl) rfl ?_
  unfold gX11_twoOf
  refine s_iload_n (pc := 0) (dc dl_X11_twoOf 0 rfl) rfl rfl ?_
  refine s_iconst (pc := 1) (v := 2) (dc dl_X11_twoOf 1 rfl) ic_2 ?_
  refine s_icmp_ne (pc := 2) (tgt := 9) (dc dl_X11_twoOf 2 rfl) rfl ?_ ?_
  · refine s_iload_n (pc := 5) (dc dl_X11_twoOf 3 rfl) rfl rfl ?_
    refine s_iload_n (pc := 6) (dc dl_X11_twoOf 4 rfl) rfl rfl ?_
    refine s_iadd (pc := 7) (dc dl_X11_twoOf 5 rfl) ?_
    exact s_ireturn (pc := 8) rfl (dc dl_X11_twoOf 6 rfl)
  · refine s_iload_n (pc := 9) (dc dl_X11_twoOf 7 rfl) rfl rfl ?_
    refine s_iconst (pc := 10) (v := 3) (dc dl_X11_twoOf 8 rfl) ic_3 ?_
    refine s_icmp_ne (pc := 11) (tgt := 18) (dc dl_X11_twoOf 9 rfl) rfl ?_ ?_
    · refine s_iload_n (pc := 14) (dc dl_X11_twoOf 10 rfl) rfl rfl ?_
      refine s_iload_n (pc := 15) (dc dl_X11_twoOf 11 rfl) rfl rfl ?_
      refine s_isub (pc := 16) (dc dl_X11_twoOf 12 rfl) ?_
      exact s_ireturn (pc := 17) rfl (dc dl_X11_twoOf 13 rfl)
    · refine s_iload_n (pc := 18) (dc dl_X11_twoOf 14 rfl) rfl rfl ?_
      refine s_iconst (pc := 19) (v := 4) (dc dl_X11_twoOf 15 rfl) ic_4 ?_
      refine s_icmp_ne (pc := 20) (tgt := 27) (dc dl_X11_twoOf 16 rfl) rfl ?_ ?_
      · refine s_iload_n (pc := 23) (dc dl_X11_twoOf 17 rfl) rfl rfl ?_
        refine s_iload_n (pc := 24) (dc dl_X11_twoOf 18 rfl) rfl rfl ?_
        refine s_imul (pc := 25) (dc dl_X11_twoOf 19 rfl) ?_
        exact s_ireturn (pc := 26) rfl (dc dl_X11_twoOf 20 rfl)
      · refine s_iload_n (pc := 27) (dc dl_X11_twoOf 21 rfl) rfl rfl ?_
        refine s_iconst (pc := 28) (v := 5) (dc dl_X11_twoOf 22 rfl) ic_5 ?_
        refine s_icmp_ne (pc := 29) (tgt := 36) (dc dl_X11_twoOf 23 rfl) rfl ?_ ?_
        · refine s_iload_n (pc := 32) (dc dl_X11_twoOf 24 rfl) rfl rfl ?_
          refine s_iload_n (pc := 33) (dc dl_X11_twoOf 25 rfl) rfl rfl ?_
          refine s_idiv (pc := 34) (dc dl_X11_twoOf 26 rfl) ?_
          exact s_ireturn (pc := 35) rfl (dc dl_X11_twoOf 27 rfl)
        · refine s_iload_n (pc := 36) (dc dl_X11_twoOf 28 rfl) rfl rfl ?_
          refine s_bipush (pc := 37) (v := 6) (dc dl_X11_twoOf 29 rfl) bi_6 ?_
          refine s_icmp_ne (pc := 39) (tgt := 53) (dc dl_X11_twoOf 30 rfl) rfl ?_ ?_
          · refine s_iload_n (pc := 42) (dc dl_X11_twoOf 31 rfl) rfl rfl ?_
            refine s_iload_n (pc := 43) (dc dl_X11_twoOf 32 rfl) rfl rfl ?_
            refine s_jn (pj := 52) (fun a8 : Int32 => [none, none, none, none]) (fun a8 : Int32 => [.int a8]) (fun a8 => ?_) (fun j7 hj7 => ?_)
            · exact s_ireturn (pc := 52) rfl (dc dl_X11_twoOf 37 rfl)
            · refine s_icmp_ge (pc := 44) (tgt := 51) (dc dl_X11_twoOf 33 rfl) rfl ?_ ?_
              · refine s_iconst (pc := 51) (v := 0) (dc dl_X11_twoOf 36 rfl) ic_0 ?_
                exact s_wk (hj7 0) rfl
              · refine s_iconst (pc := 47) (v := 1) (dc dl_X11_twoOf 34 rfl) ic_1 ?_
                refine s_goto (pc := 48) (tgt := 52) (dc dl_X11_twoOf 35 rfl) rfl ?_
                exact s_wk (hj7 1) rfl
          · refine s_iload_n (pc := 53) (dc dl_X11_twoOf 38 rfl) rfl rfl ?_
            refine s_bipush (pc := 54) (v := 7) (dc dl_X11_twoOf 39 rfl) bi_7 ?_
            refine s_icmp_ne (pc := 56) (tgt := 70) (dc dl_X11_twoOf 40 rfl) rfl ?_ ?_
            · refine s_iload_n (pc := 59) (dc dl_X11_twoOf 41 rfl) rfl rfl ?_
              refine s_iload_n (pc := 60) (dc dl_X11_twoOf 42 rfl) rfl rfl ?_
              refine s_jn (pj := 69) (fun a6 : Int32 => [none, none, none, none]) (fun a6 : Int32 => [.int a6]) (fun a6 => ?_) (fun j5 hj5 => ?_)
              · exact s_ireturn (pc := 69) rfl (dc dl_X11_twoOf 47 rfl)
              · refine s_icmp_ne (pc := 61) (tgt := 68) (dc dl_X11_twoOf 43 rfl) rfl ?_ ?_
                · refine s_iconst (pc := 64) (v := 1) (dc dl_X11_twoOf 44 rfl) ic_1 ?_
                  refine s_goto (pc := 65) (tgt := 69) (dc dl_X11_twoOf 45 rfl) rfl ?_
                  exact s_wk (hj5 1) rfl
                · refine s_iconst (pc := 68) (v := 0) (dc dl_X11_twoOf 46 rfl) ic_0 ?_
                  exact s_wk (hj5 0) rfl
            · refine s_iload_n (pc := 70) (dc dl_X11_twoOf 48 rfl) rfl rfl ?_
              refine s_bipush (pc := 71) (v := 8) (dc dl_X11_twoOf 49 rfl) bi_8 ?_
              refine s_icmp_ne (pc := 73) (tgt := 87) (dc dl_X11_twoOf 50 rfl) rfl ?_ ?_
              · refine s_iload_n (pc := 76) (dc dl_X11_twoOf 51 rfl) rfl rfl ?_
                refine s_iload_n (pc := 77) (dc dl_X11_twoOf 52 rfl) rfl rfl ?_
                refine s_jn (pj := 86) (fun a4 : Int32 => [none, none, none, none]) (fun a4 : Int32 => [.int a4]) (fun a4 => ?_) (fun j3 hj3 => ?_)
                · exact s_ireturn (pc := 86) rfl (dc dl_X11_twoOf 57 rfl)
                · refine s_icmp_le (pc := 78) (tgt := 85) (dc dl_X11_twoOf 53 rfl) rfl ?_ ?_
                  · refine s_iconst (pc := 85) (v := 0) (dc dl_X11_twoOf 56 rfl) ic_0 ?_
                    exact s_wk (hj3 0) rfl
                  · refine s_iconst (pc := 81) (v := 1) (dc dl_X11_twoOf 54 rfl) ic_1 ?_
                    refine s_goto (pc := 82) (tgt := 86) (dc dl_X11_twoOf 55 rfl) rfl ?_
                    exact s_wk (hj3 1) rfl
              · refine s_iload_n (pc := 87) (dc dl_X11_twoOf 58 rfl) rfl rfl ?_
                refine s_bipush (pc := 88) (v := 10) (dc dl_X11_twoOf 59 rfl) bi_10 ?_
                refine s_jn (pj := 110) (fun a2 : Int32 => [none, none, none, none]) (fun a2 : Int32 => [.int a2]) (fun a2 => ?_) (fun j1 hj1 => ?_)
                · exact s_ireturn (pc := 110) rfl (dc dl_X11_twoOf 72 rfl)
                · refine s_icmp_ne (pc := 90) (tgt := 99) (dc dl_X11_twoOf 60 rfl) rfl ?_ ?_
                  · refine s_iload_n (pc := 93) (dc dl_X11_twoOf 61 rfl) rfl rfl ?_
                    refine s_iload_n (pc := 94) (dc dl_X11_twoOf 62 rfl) rfl rfl ?_
                    refine s_imul (pc := 95) (dc dl_X11_twoOf 63 rfl) ?_
                    refine s_goto (pc := 96) (tgt := 110) (dc dl_X11_twoOf 64 rfl) rfl ?_
                    exact s_wk (hj1 (x2 * x3)) rfl
                  · refine s_iload_n (pc := 99) (dc dl_X11_twoOf 65 rfl) rfl rfl ?_
                    refine s_iload_n (pc := 100) (dc dl_X11_twoOf 66 rfl) rfl rfl ?_
                    refine s_iadd (pc := 101) (dc dl_X11_twoOf 67 rfl) ?_
                    refine s_if_le (pc := 102) (tgt := 109) (dc dl_X11_twoOf 68 rfl) rfl ?_ ?_
                    · refine s_iconst (pc := 109) (v := 0) (dc dl_X11_twoOf 71 rfl) ic_0 ?_
                      exact s_wk (hj1 0) rfl
                    · refine s_iconst (pc := 105) (v := 1) (dc dl_X11_twoOf 69 rfl) ic_1 ?_
                      refine s_goto (pc := 106) (tgt := 110) (dc dl_X11_twoOf 70 rfl) rfl ?_
                      exact s_wk (hj1 1) rfl
def gX11_runs (x1 x2 x3 : Int32) : MM Int32 :=
  lt ((400 * x1) + x2) fun y1 =>
  loopC 100000 (fun (self2 : (Int32 × Int32) → MM Int32) (s3 : Int32 × Int32) =>
  (if ((400 * x1) + x3) ≤ s3.2 then
  bd (la 21 0) fun v4 =>
  pr v4
  else
  bd (la 14 s3.2) fun v5 =>
  jn (fun (a7 : Int32) =>
  lt (s3.2 + 1) fun y8 =>
  self2 (a7, y8)) (fun j6 =>
  jn (fun (a10 : Unit) =>
  bd (la 14 s3.2) fun v11 =>
  jn (fun (a13 : Int32) =>
  bd (sa 21 s3.1 a13) fun _ =>
  lt (s3.1 + 1) fun y14 =>
  j6 y14) (fun j12 =>
  (if v11 = 0 then
  bd (la 15 s3.2) fun v17 =>
  j12 v17
  else
  bd (la 15 s3.2) fun v15 =>
  bd (la 20 v15) fun v16 =>
  j12 v16))) (fun j9 =>
  (if v5 = 0 then
  j9 ()
  else
  bd (la 14 s3.2) fun v18 =>
  (if v18 = 1 then
  j9 ()
  else
  bd (la 14 s3.2) fun v19 =>
  (if v19 = 9 then
  bd (la 21 (s3.1 - 1)) fun v25 =>
  bd (sa 21 (s3.1 - 1) (1 - v25)) fun _ =>
  j6 s3.1
  else
  lt (s3.1 - 1) fun y20 =>
  bd (la 14 s3.2) fun v21 =>
  bd (la 21 (y20 - 1)) fun v22 =>
  bd (la 21 y20) fun v23 =>
  bd (gX11_twoOf v21 v22 v23) fun r24 =>
  bd (sa 21 (y20 - 1) r24) fun _ =>
  j6 y20))))))) (0, y1)
set_option maxHeartbeats 4000000 in
theorem cn_X11_runs (l : Launch) (G : Gl) (hG : gOk G) (ad : Nat → Nat) (x1 x2 x3 : Int32) : Cn l G mX11_runs 1 lay_Mo ad [.ref (ad 0), .int x1, .int x2, .int x3] (gX11_runs x1 x2 x3) := by
  refine cn_of (lv := [some (.ref (ad 0)), some (.int x1), some (.int x2), some (.int x3), none, none]) (by decide +kernel) rfl (Nat.le_of_ble_eq_true rfl) rfl ?_
  unfold gX11_runs
  refine s_iconst (pc := 0) (v := 0) (dc dl_X11_runs 0 rfl) ic_0 ?_
  refine s_istore (pc := 1) (lv' := [some (.ref (ad 0)), some (.int x1), some (.int x2), some (.int x3), some (.int 0), none]) (dc dl_X11_runs 1 rfl) (Nat.le_of_ble_eq_true rfl) rfl ?_
  refine s_sipush (pc := 3) (v := 400) (dc dl_X11_runs 2 rfl) si_400 ?_
  refine s_iload_n (pc := 6) (dc dl_X11_runs 3 rfl) rfl rfl ?_
  refine s_imul (pc := 7) (dc dl_X11_runs 4 rfl) ?_
  refine s_iload_n (pc := 8) (dc dl_X11_runs 5 rfl) rfl rfl ?_
  refine s_iadd (pc := 9) (dc dl_X11_runs 6 rfl) ?_
  refine s_istoreL (pc := 10) (lf' := fun y1 => [some (.ref (ad 0)), some (.int x1), some (.int x2), some (.int x3), some (.int 0), some (.int y1)]) (dc dl_X11_runs 7 rfl) (Nat.le_of_ble_eq_true rfl) (fun _ => rfl) (fun y1 => ?_)
  refine s_weak (lv' := [some (.ref (ad 0)), some (.int x1), none, some (.int x3), some (.int 0), some (.int y1)]) rfl ?_
  refine s_loop (pc := 12) (fun s3 : Int32 × Int32 => [some (.ref (ad 0)), some (.int x1), none, some (.int x3), some (.int s3.1), some (.int s3.2)]) [] (fun self2 hself2 s3 => ?_) _ (0, y1)
  refine s_iload (pc := 12) (dc dl_X11_runs 8 rfl) rfl ?_
  refine s_sipush (pc := 14) (v := 400) (dc dl_X11_runs 9 rfl) si_400 ?_
  refine s_iload_n (pc := 17) (dc dl_X11_runs 10 rfl) rfl rfl ?_
  refine s_imul (pc := 18) (dc dl_X11_runs 11 rfl) ?_
  refine s_iload_n (pc := 19) (dc dl_X11_runs 12 rfl) rfl rfl ?_
  refine s_iadd (pc := 20) (dc dl_X11_runs 13 rfl) ?_
  refine s_icmp_ge (pc := 21) (tgt := 176) (dc dl_X11_runs 14 rfl) rfl ?_ ?_
  · refine s_aload_n (pc := 176) (dc dl_X11_runs 101 rfl) rfl rfl ?_
    refine s_getR (pc := 177) fl_X11_74 lk_Mo_0 kk_Mo_0_42 (dc dl_X11_runs 102 rfl) ?_
    refine s_iconst (pc := 180) (v := 0) (dc dl_X11_runs 103 rfl) ic_0 ?_
    refine s_iald (pc := 181) lk_Mo_21 (dc dl_X11_runs 104 rfl) (fun v4 => ?_)
    exact s_ireturn (pc := 182) rfl (dc dl_X11_runs 105 rfl)
  · refine s_aload_n (pc := 24) (dc dl_X11_runs 15 rfl) rfl rfl ?_
    refine s_getR (pc := 25) fl_X11_49 lk_Mo_0 kk_Mo_0_24 (dc dl_X11_runs 16 rfl) ?_
    refine s_iload (pc := 28) (dc dl_X11_runs 17 rfl) rfl ?_
    refine s_iald (pc := 30) lk_Mo_14 (dc dl_X11_runs 18 rfl) (fun v5 => ?_)
    refine s_jn (pj := 170) (fun a7 : Int32 => [some (.ref (ad 0)), some (.int x1), none, some (.int x3), some (.int a7), some (.int s3.2)]) (fun a7 : Int32 => []) (fun a7 => ?_) (fun j6 hj6 => ?_)
    · refine s_iincL (pc := 170) (lf' := fun y8 => [some (.ref (ad 0)), some (.int x1), none, some (.int x3), some (.int a7), some (.int y8)]) (dc dl_X11_runs 99 rfl) rfl rfl (Nat.le_of_ble_eq_true rfl) (fun _ => rfl) (fun y8 => ?_)
      refine s_goto (pc := 173) (tgt := 12) (dc dl_X11_runs 100 rfl) rfl ?_
      exact s_wk (hself2 (a7, y8)) rfl
    · refine s_jn (pj := 45) (fun a10 : Unit => [some (.ref (ad 0)), some (.int x1), none, some (.int x3), some (.int s3.1), some (.int s3.2)]) (fun a10 : Unit => []) (fun a10 => ?_) (fun j9 hj9 => ?_)
      · refine s_aload_n (pc := 45) (dc dl_X11_runs 26 rfl) rfl rfl ?_
        refine s_getR (pc := 46) fl_X11_74 lk_Mo_0 kk_Mo_0_42 (dc dl_X11_runs 27 rfl) ?_
        refine s_iload (pc := 49) (dc dl_X11_runs 28 rfl) rfl ?_
        refine s_aload_n (pc := 51) (dc dl_X11_runs 29 rfl) rfl rfl ?_
        refine s_getR (pc := 52) fl_X11_49 lk_Mo_0 kk_Mo_0_24 (dc dl_X11_runs 30 rfl) ?_
        refine s_iload (pc := 55) (dc dl_X11_runs 31 rfl) rfl ?_
        refine s_iald (pc := 57) lk_Mo_14 (dc dl_X11_runs 32 rfl) (fun v11 => ?_)
        refine s_jn (pj := 83) (fun a13 : Int32 => [some (.ref (ad 0)), some (.int x1), none, some (.int x3), some (.int s3.1), some (.int s3.2)]) (fun a13 : Int32 => [.int a13, .int s3.1, .ref (ad 21)]) (fun a13 => ?_) (fun j12 hj12 => ?_)
        · refine s_iast (pc := 83) lk_Mo_21 (dc dl_X11_runs 46 rfl) ?_
          refine s_iload (pc := 84) (dc dl_X11_runs 47 rfl) rfl ?_
          refine s_iconst (pc := 86) (v := 1) (dc dl_X11_runs 48 rfl) ic_1 ?_
          refine s_iadd (pc := 87) (dc dl_X11_runs 49 rfl) ?_
          refine s_istoreL (pc := 88) (lf' := fun y14 => [some (.ref (ad 0)), some (.int x1), none, some (.int x3), some (.int y14), some (.int s3.2)]) (dc dl_X11_runs 50 rfl) (Nat.le_of_ble_eq_true rfl) (fun _ => rfl) (fun y14 => ?_)
          refine s_goto (pc := 90) (tgt := 170) (dc dl_X11_runs 51 rfl) rfl ?_
          exact s_wk (hj6 y14) rfl
        · refine s_if_ne (pc := 58) (tgt := 71) (dc dl_X11_runs 33 rfl) rfl ?_ ?_
          · refine s_aload_n (pc := 61) (dc dl_X11_runs 34 rfl) rfl rfl ?_
            refine s_getR (pc := 62) fl_X11_52 lk_Mo_0 kk_Mo_0_25 (dc dl_X11_runs 35 rfl) ?_
            refine s_iload (pc := 65) (dc dl_X11_runs 36 rfl) rfl ?_
            refine s_iald (pc := 67) lk_Mo_15 (dc dl_X11_runs 37 rfl) (fun v17 => ?_)
            refine s_goto (pc := 68) (tgt := 83) (dc dl_X11_runs 38 rfl) rfl ?_
            exact s_wk (hj12 v17) rfl
          · refine s_aload_n (pc := 71) (dc dl_X11_runs 39 rfl) rfl rfl ?_
            refine s_getR (pc := 72) fl_X11_71 lk_Mo_0 kk_Mo_0_41 (dc dl_X11_runs 40 rfl) ?_
            refine s_aload_n (pc := 75) (dc dl_X11_runs 41 rfl) rfl rfl ?_
            refine s_getR (pc := 76) fl_X11_52 lk_Mo_0 kk_Mo_0_25 (dc dl_X11_runs 42 rfl) ?_
            refine s_iload (pc := 79) (dc dl_X11_runs 43 rfl) rfl ?_
            refine s_iald (pc := 81) lk_Mo_15 (dc dl_X11_runs 44 rfl) (fun v15 => ?_)
            refine s_iald (pc := 82) lk_Mo_20 (dc dl_X11_runs 45 rfl) (fun v16 => ?_)
            exact s_wk (hj12 v16) rfl
      · refine s_if_eq (pc := 31) (tgt := 45) (dc dl_X11_runs 19 rfl) rfl ?_ ?_
        · exact s_wk (hj9 ()) rfl
        · refine s_aload_n (pc := 34) (dc dl_X11_runs 20 rfl) rfl rfl ?_
          refine s_getR (pc := 35) fl_X11_49 lk_Mo_0 kk_Mo_0_24 (dc dl_X11_runs 21 rfl) ?_
          refine s_iload (pc := 38) (dc dl_X11_runs 22 rfl) rfl ?_
          refine s_iald (pc := 40) lk_Mo_14 (dc dl_X11_runs 23 rfl) (fun v18 => ?_)
          refine s_iconst (pc := 41) (v := 1) (dc dl_X11_runs 24 rfl) ic_1 ?_
          refine s_icmp_ne (pc := 42) (tgt := 93) (dc dl_X11_runs 25 rfl) rfl ?_ ?_
          · exact s_wk (hj9 ()) rfl
          · refine s_aload_n (pc := 93) (dc dl_X11_runs 52 rfl) rfl rfl ?_
            refine s_getR (pc := 94) fl_X11_49 lk_Mo_0 kk_Mo_0_24 (dc dl_X11_runs 53 rfl) ?_
            refine s_iload (pc := 97) (dc dl_X11_runs 54 rfl) rfl ?_
            refine s_iald (pc := 99) lk_Mo_14 (dc dl_X11_runs 55 rfl) (fun v19 => ?_)
            refine s_bipush (pc := 100) (v := 9) (dc dl_X11_runs 56 rfl) bi_9 ?_
            refine s_icmp_ne (pc := 102) (tgt := 128) (dc dl_X11_runs 57 rfl) rfl ?_ ?_
            · refine s_aload_n (pc := 105) (dc dl_X11_runs 58 rfl) rfl rfl ?_
              refine s_getR (pc := 106) fl_X11_74 lk_Mo_0 kk_Mo_0_42 (dc dl_X11_runs 59 rfl) ?_
              refine s_iload (pc := 109) (dc dl_X11_runs 60 rfl) rfl ?_
              refine s_iconst (pc := 111) (v := 1) (dc dl_X11_runs 61 rfl) ic_1 ?_
              refine s_isub (pc := 112) (dc dl_X11_runs 62 rfl) ?_
              refine s_iconst (pc := 113) (v := 1) (dc dl_X11_runs 63 rfl) ic_1 ?_
              refine s_aload_n (pc := 114) (dc dl_X11_runs 64 rfl) rfl rfl ?_
              refine s_getR (pc := 115) fl_X11_74 lk_Mo_0 kk_Mo_0_42 (dc dl_X11_runs 65 rfl) ?_
              refine s_iload (pc := 118) (dc dl_X11_runs 66 rfl) rfl ?_
              refine s_iconst (pc := 120) (v := 1) (dc dl_X11_runs 67 rfl) ic_1 ?_
              refine s_isub (pc := 121) (dc dl_X11_runs 68 rfl) ?_
              refine s_iald (pc := 122) lk_Mo_21 (dc dl_X11_runs 69 rfl) (fun v25 => ?_)
              refine s_isub (pc := 123) (dc dl_X11_runs 70 rfl) ?_
              refine s_iast (pc := 124) lk_Mo_21 (dc dl_X11_runs 71 rfl) ?_
              refine s_goto (pc := 125) (tgt := 170) (dc dl_X11_runs 72 rfl) rfl ?_
              exact s_wk (hj6 s3.1) rfl
            · refine s_iload (pc := 128) (dc dl_X11_runs 73 rfl) rfl ?_
              refine s_iconst (pc := 130) (v := 1) (dc dl_X11_runs 74 rfl) ic_1 ?_
              refine s_isub (pc := 131) (dc dl_X11_runs 75 rfl) ?_
              refine s_istoreL (pc := 132) (lf' := fun y20 => [some (.ref (ad 0)), some (.int x1), none, some (.int x3), some (.int y20), some (.int s3.2)]) (dc dl_X11_runs 76 rfl) (Nat.le_of_ble_eq_true rfl) (fun _ => rfl) (fun y20 => ?_)
              refine s_aload_n (pc := 134) (dc dl_X11_runs 77 rfl) rfl rfl ?_
              refine s_getR (pc := 135) fl_X11_74 lk_Mo_0 kk_Mo_0_42 (dc dl_X11_runs 78 rfl) ?_
              refine s_iload (pc := 138) (dc dl_X11_runs 79 rfl) rfl ?_
              refine s_iconst (pc := 140) (v := 1) (dc dl_X11_runs 80 rfl) ic_1 ?_
              refine s_isub (pc := 141) (dc dl_X11_runs 81 rfl) ?_
              refine s_aload_n (pc := 142) (dc dl_X11_runs 82 rfl) rfl rfl ?_
              refine s_aload_n (pc := 143) (dc dl_X11_runs 83 rfl) rfl rfl ?_
              refine s_getR (pc := 144) fl_X11_49 lk_Mo_0 kk_Mo_0_24 (dc dl_X11_runs 84 rfl) ?_
              refine s_iload (pc := 147) (dc dl_X11_runs 85 rfl) rfl ?_
              refine s_iald (pc := 149) lk_Mo_14 (dc dl_X11_runs 86 rfl) (fun v21 => ?_)
              refine s_aload_n (pc := 150) (dc dl_X11_runs 87 rfl) rfl rfl ?_
              refine s_getR (pc := 151) fl_X11_74 lk_Mo_0 kk_Mo_0_42 (dc dl_X11_runs 88 rfl) ?_
              refine s_iload (pc := 154) (dc dl_X11_runs 89 rfl) rfl ?_
              refine s_iconst (pc := 156) (v := 1) (dc dl_X11_runs 90 rfl) ic_1 ?_
              refine s_isub (pc := 157) (dc dl_X11_runs 91 rfl) ?_
              refine s_iald (pc := 158) lk_Mo_21 (dc dl_X11_runs 92 rfl) (fun v22 => ?_)
              refine s_aload_n (pc := 159) (dc dl_X11_runs 93 rfl) rfl rfl ?_
              refine s_getR (pc := 160) fl_X11_74 lk_Mo_0 kk_Mo_0_42 (dc dl_X11_runs 94 rfl) ?_
              refine s_iload (pc := 163) (dc dl_X11_runs 95 rfl) rfl ?_
              refine s_iald (pc := 165) lk_Mo_21 (dc dl_X11_runs 96 rfl) (fun v23 => ?_)
              refine s_call (pc := 166) (rest := [.int (y20 - 1), .ref (ad 21)]) hG (calls_V (mi := mX11_runs) (o := 0) (As := [.int v21, .int v22, .int v23]) (rest := [.int (y20 - 1), .ref (ad 21)]) hG (dc dl_X11_runs 97 rfl) mo_X11_twoOf mv_X11_twoOf ml_X11_323 ⟨Nat.le_of_ble_eq_true rfl, Nat.le_of_ble_eq_true rfl⟩ rfl rfl (Nat.le_of_ble_eq_true rfl) lk_Mo_0 rfl) (cn_X11_twoOf l G hG ad v21 v22 v23) rfl (fun r24 => ?_)
              refine s_iast (pc := 169) lk_Mo_21 (dc dl_X11_runs 98 rfl) ?_
              exact s_wk (hj6 y20) rfl
def gX11_lineOf (x1 : Int32) : MM Int32 :=
  loopC 100000 (fun (self1 : Int32 → MM Int32) (s2 : Int32) =>
  bd (la 9 0) fun v3 =>
  (if v3 ≤ s2 then
  pr ((-1))
  else
  bd (la 10 s2) fun v4 =>
  jn (fun (a6 : Unit) =>
  lt (s2 + 1) fun y7 =>
  self1 y7) (fun j5 =>
  (if v4 = x1 then
  bd (la 12 s2) fun v8 =>
  bd (la 13 s2) fun v9 =>
  jn (fun (a11 : Unit) =>
  pr s2) (fun j10 =>
  (if v8 = v9 then
  j10 ()
  else
  bd (la 12 s2) fun v12 =>
  bd (la 13 s2) fun v13 =>
  bd (gX11_runs 0 v12 v13) fun r14 =>
  (if r14 = 0 then
  j5 ()
  else
  j10 ())))
  else
  j5 ())))) 0
set_option maxHeartbeats 4000000 in
theorem cn_X11_lineOf (l : Launch) (G : Gl) (hG : gOk G) (ad : Nat → Nat) (x1 : Int32) : Cn l G mX11_lineOf 2 lay_Mo ad [.ref (ad 0), .int x1] (gX11_lineOf x1) := by
  refine cn_of (lv := [some (.ref (ad 0)), some (.int x1), none]) (by decide +kernel) rfl (Nat.le_of_ble_eq_true rfl) rfl ?_
  unfold gX11_lineOf
  refine s_iconst (pc := 0) (v := 0) (dc dl_X11_lineOf 0 rfl) ic_0 ?_
  refine s_istore_n (pc := 1) (lv' := [some (.ref (ad 0)), some (.int x1), some (.int 0)]) (dc dl_X11_lineOf 1 rfl) rfl (Nat.le_of_ble_eq_true rfl) rfl ?_
  refine s_weak (lv' := [some (.ref (ad 0)), some (.int x1), some (.int 0)]) rfl ?_
  refine s_loop (pc := 2) (fun s2 : Int32 => [some (.ref (ad 0)), some (.int x1), some (.int s2)]) [] (fun self1 hself1 s2 => ?_) _ 0
  refine s_iload_n (pc := 2) (dc dl_X11_lineOf 2 rfl) rfl rfl ?_
  refine s_aload_n (pc := 3) (dc dl_X11_lineOf 3 rfl) rfl rfl ?_
  refine s_getR (pc := 4) fl_X11_34 lk_Mo_0 kk_Mo_0_19 (dc dl_X11_lineOf 4 rfl) ?_
  refine s_iconst (pc := 7) (v := 0) (dc dl_X11_lineOf 5 rfl) ic_0 ?_
  refine s_iald (pc := 8) lk_Mo_9 (dc dl_X11_lineOf 6 rfl) (fun v3 => ?_)
  refine s_icmp_ge (pc := 9) (tgt := 65) (dc dl_X11_lineOf 7 rfl) rfl ?_ ?_
  · refine s_iconst (pc := 65) (v := (-1)) (dc dl_X11_lineOf 39 rfl) ic_m1 ?_
    exact s_ireturn (pc := 66) rfl (dc dl_X11_lineOf 40 rfl)
  · refine s_aload_n (pc := 12) (dc dl_X11_lineOf 8 rfl) rfl rfl ?_
    refine s_getR (pc := 13) fl_X11_37 lk_Mo_0 kk_Mo_0_20 (dc dl_X11_lineOf 9 rfl) ?_
    refine s_iload_n (pc := 16) (dc dl_X11_lineOf 10 rfl) rfl rfl ?_
    refine s_iald (pc := 17) lk_Mo_10 (dc dl_X11_lineOf 11 rfl) (fun v4 => ?_)
    refine s_iload_n (pc := 18) (dc dl_X11_lineOf 12 rfl) rfl rfl ?_
    refine s_jn (pj := 59) (fun a6 : Unit => [some (.ref (ad 0)), some (.int x1), some (.int s2)]) (fun a6 : Unit => []) (fun a6 => ?_) (fun j5 hj5 => ?_)
    · refine s_iincL (pc := 59) (lf' := fun y7 => [some (.ref (ad 0)), some (.int x1), some (.int y7)]) (dc dl_X11_lineOf 37 rfl) rfl rfl (Nat.le_of_ble_eq_true rfl) (fun _ => rfl) (fun y7 => ?_)
      refine s_goto (pc := 62) (tgt := 2) (dc dl_X11_lineOf 38 rfl) rfl ?_
      exact s_wk (hself1 y7) rfl
    · refine s_icmp_ne (pc := 19) (tgt := 59) (dc dl_X11_lineOf 13 rfl) rfl ?_ ?_
      · refine s_aload_n (pc := 22) (dc dl_X11_lineOf 14 rfl) rfl rfl ?_
        refine s_getR (pc := 23) fl_X11_43 lk_Mo_0 kk_Mo_0_22 (dc dl_X11_lineOf 15 rfl) ?_
        refine s_iload_n (pc := 26) (dc dl_X11_lineOf 16 rfl) rfl rfl ?_
        refine s_iald (pc := 27) lk_Mo_12 (dc dl_X11_lineOf 17 rfl) (fun v8 => ?_)
        refine s_aload_n (pc := 28) (dc dl_X11_lineOf 18 rfl) rfl rfl ?_
        refine s_getR (pc := 29) fl_X11_46 lk_Mo_0 kk_Mo_0_23 (dc dl_X11_lineOf 19 rfl) ?_
        refine s_iload_n (pc := 32) (dc dl_X11_lineOf 20 rfl) rfl rfl ?_
        refine s_iald (pc := 33) lk_Mo_13 (dc dl_X11_lineOf 21 rfl) (fun v9 => ?_)
        refine s_jn (pj := 57) (fun a11 : Unit => [none, none, some (.int s2)]) (fun a11 : Unit => []) (fun a11 => ?_) (fun j10 hj10 => ?_)
        · refine s_iload_n (pc := 57) (dc dl_X11_lineOf 35 rfl) rfl rfl ?_
          exact s_ireturn (pc := 58) rfl (dc dl_X11_lineOf 36 rfl)
        · refine s_icmp_eq (pc := 34) (tgt := 57) (dc dl_X11_lineOf 22 rfl) rfl ?_ ?_
          · exact s_wk (hj10 ()) rfl
          · refine s_aload_n (pc := 37) (dc dl_X11_lineOf 23 rfl) rfl rfl ?_
            refine s_iconst (pc := 38) (v := 0) (dc dl_X11_lineOf 24 rfl) ic_0 ?_
            refine s_aload_n (pc := 39) (dc dl_X11_lineOf 25 rfl) rfl rfl ?_
            refine s_getR (pc := 40) fl_X11_43 lk_Mo_0 kk_Mo_0_22 (dc dl_X11_lineOf 26 rfl) ?_
            refine s_iload_n (pc := 43) (dc dl_X11_lineOf 27 rfl) rfl rfl ?_
            refine s_iald (pc := 44) lk_Mo_12 (dc dl_X11_lineOf 28 rfl) (fun v12 => ?_)
            refine s_aload_n (pc := 45) (dc dl_X11_lineOf 29 rfl) rfl rfl ?_
            refine s_getR (pc := 46) fl_X11_46 lk_Mo_0 kk_Mo_0_23 (dc dl_X11_lineOf 30 rfl) ?_
            refine s_iload_n (pc := 49) (dc dl_X11_lineOf 31 rfl) rfl rfl ?_
            refine s_iald (pc := 50) lk_Mo_13 (dc dl_X11_lineOf 32 rfl) (fun v13 => ?_)
            refine s_call (pc := 51) (rest := []) hG (calls_V (mi := mX11_lineOf) (o := 0) (As := [.int 0, .int v12, .int v13]) (rest := []) hG (dc dl_X11_lineOf 33 rfl) mo_X11_runs mv_X11_runs ml_X11_326 ⟨Nat.le_of_ble_eq_true rfl, Nat.le_of_ble_eq_true rfl⟩ rfl rfl (Nat.le_of_ble_eq_true rfl) lk_Mo_0 rfl) (cn_X11_runs l G hG ad 0 v12 v13) rfl (fun r14 => ?_)
            refine s_if_eq (pc := 54) (tgt := 59) (dc dl_X11_lineOf 34 rfl) rfl ?_ ?_
            · exact s_wk (hj5 ()) rfl
            · exact s_wk (hj10 ()) rfl
      · exact s_wk (hj5 ()) rfl
def gX11_openMany : MM Int32 :=
  loopC 100000 (fun (self1 : (Int32 × Int32) → MM Int32) (s2 : Int32 × Int32) =>
  bd (ld 0 8) fun v3 =>
  (if v3 ≤ s2.2 then
  pr s2.1
  else
  bd (gX11_isOpen s2.2) fun r4 =>
  jn (fun (a6 : Int32) =>
  lt (s2.2 + 1) fun y7 =>
  self1 (a6, y7)) (fun j5 =>
  (if r4 = 0 then
  j5 s2.1
  else
  lt (s2.1 + 1) fun y8 =>
  j5 y8)))) (0, 0)
set_option maxHeartbeats 4000000 in
theorem cn_X11_openMany (l : Launch) (G : Gl) (hG : gOk G) (ad : Nat → Nat) : Cn l G mX11_openMany 1 lay_Mo ad [.ref (ad 0)] (gX11_openMany) := by
  refine cn_of (lv := [some (.ref (ad 0)), none, none]) (by decide +kernel) rfl (Nat.le_of_ble_eq_true rfl) rfl ?_
  unfold gX11_openMany
  refine s_iconst (pc := 0) (v := 0) (dc dl_X11_openMany 0 rfl) ic_0 ?_
  refine s_istore_n (pc := 1) (lv' := [some (.ref (ad 0)), some (.int 0), none]) (dc dl_X11_openMany 1 rfl) rfl (Nat.le_of_ble_eq_true rfl) rfl ?_
  refine s_iconst (pc := 2) (v := 0) (dc dl_X11_openMany 2 rfl) ic_0 ?_
  refine s_istore_n (pc := 3) (lv' := [some (.ref (ad 0)), some (.int 0), some (.int 0)]) (dc dl_X11_openMany 3 rfl) rfl (Nat.le_of_ble_eq_true rfl) rfl ?_
  refine s_weak (lv' := [some (.ref (ad 0)), some (.int 0), some (.int 0)]) rfl ?_
  refine s_loop (pc := 4) (fun s2 : Int32 × Int32 => [some (.ref (ad 0)), some (.int s2.1), some (.int s2.2)]) [] (fun self1 hself1 s2 => ?_) _ (0, 0)
  refine s_iload_n (pc := 4) (dc dl_X11_openMany 4 rfl) rfl rfl ?_
  refine s_aload_n (pc := 5) (dc dl_X11_openMany 5 rfl) rfl rfl ?_
  refine s_getI (pc := 6) fl_X11_143 lk_Mo_0 kk_Mo_0_8 (dc dl_X11_openMany 6 rfl) (fun v3 => ?_)
  refine s_icmp_ge (pc := 9) (tgt := 30) (dc dl_X11_openMany 7 rfl) rfl ?_ ?_
  · refine s_iload_n (pc := 30) (dc dl_X11_openMany 18 rfl) rfl rfl ?_
    exact s_ireturn (pc := 31) rfl (dc dl_X11_openMany 19 rfl)
  · refine s_aload_n (pc := 12) (dc dl_X11_openMany 8 rfl) rfl rfl ?_
    refine s_iload_n (pc := 13) (dc dl_X11_openMany 9 rfl) rfl rfl ?_
    refine s_call (pc := 14) (rest := []) hG (calls_V (mi := mX11_openMany) (o := 0) (As := [.int s2.2]) (rest := []) hG (dc dl_X11_openMany 10 rfl) mo_X11_isOpen mv_X11_isOpen ml_X11_164 ⟨Nat.le_of_ble_eq_true rfl, Nat.le_of_ble_eq_true rfl⟩ rfl rfl (Nat.le_of_ble_eq_true rfl) lk_Mo_0 rfl) (cn_X11_isOpen l G hG ad s2.2) rfl (fun r4 => ?_)
    refine s_jn (pj := 24) (fun a6 : Int32 => [some (.ref (ad 0)), some (.int a6), some (.int s2.2)]) (fun a6 : Int32 => []) (fun a6 => ?_) (fun j5 hj5 => ?_)
    · refine s_iincL (pc := 24) (lf' := fun y7 => [some (.ref (ad 0)), some (.int a6), some (.int y7)]) (dc dl_X11_openMany 16 rfl) rfl rfl (Nat.le_of_ble_eq_true rfl) (fun _ => rfl) (fun y7 => ?_)
      refine s_goto (pc := 27) (tgt := 4) (dc dl_X11_openMany 17 rfl) rfl ?_
      exact s_wk (hself1 (a6, y7)) rfl
    · refine s_if_eq (pc := 17) (tgt := 24) (dc dl_X11_openMany 11 rfl) rfl ?_ ?_
      · exact s_wk (hj5 s2.1) rfl
      · refine s_iload_n (pc := 20) (dc dl_X11_openMany 12 rfl) rfl rfl ?_
        refine s_iconst (pc := 21) (v := 1) (dc dl_X11_openMany 13 rfl) ic_1 ?_
        refine s_iadd (pc := 22) (dc dl_X11_openMany 14 rfl) ?_
        refine s_istore_nL (pc := 23) (lf' := fun y8 => [some (.ref (ad 0)), some (.int y8), some (.int s2.2)]) (dc dl_X11_openMany 15 rfl) rfl (Nat.le_of_ble_eq_true rfl) (fun _ => rfl) (fun y8 => ?_)
        exact s_wk (hj5 y8) rfl
def gX11_asks (x1 x2 : Int32) : MM Int32 :=
  bd (la 1 (39 + x2)) fun v1 =>
  bd (la 4 x1) fun v2 =>
  bd (la 1 (3 + v1)) fun v3 =>
  bd (sa 20 0 v3) fun _ =>
  bd (la 1 (143 + x1)) fun v4 =>
  bd (sa 20 1 v4) fun _ =>
  bd (la 1 (53 + x2)) fun v5 =>
  bd (sa 20 2 v5) fun _ =>
  bd (gX11_knotsOf x2) fun r6 =>
  bd (sa 20 3 r6) fun _ =>
  jn (fun (a8 : Int32) =>
  bd (sa 20 4 a8) fun _ =>
  bd (la 1 (15 + v2)) fun v9 =>
  bd (sa 20 5 v9) fun _ =>
  bd (la 1 (27 + v2)) fun v10 =>
  bd (sa 20 6 v10) fun _ =>
  bd gX11_openMany fun r11 =>
  bd (sa 20 7 r11) fun _ =>
  bd (la 1 0) fun v12 =>
  bd (sa 20 8 v12) fun _ =>
  pr 0) (fun j7 =>
  (if v1 = v2 then
  j7 2
  else
  bd (la 19 v1) fun v13 =>
  bd (gX11_has v13 v2) fun r14 =>
  (if r14 = 0 then
  j7 0
  else
  j7 1)))
set_option maxHeartbeats 4000000 in
theorem cn_X11_asks (l : Launch) (G : Gl) (hG : gOk G) (ad : Nat → Nat) (x1 x2 : Int32) : Cn l G mX11_asks 2 lay_Mo ad [.ref (ad 0), .int x1, .int x2] (gX11_asks x1 x2) := by
  refine cn_of (lv := [some (.ref (ad 0)), some (.int x1), some (.int x2), none, none]) (by decide +kernel) rfl (Nat.le_of_ble_eq_true rfl) rfl ?_
  unfold gX11_asks
  refine s_aload_n (pc := 0) (dc dl_X11_asks 0 rfl) rfl rfl ?_
  refine s_getR (pc := 1) fl_X11_7 lk_Mo_0 kk_Mo_0_1 (dc dl_X11_asks 1 rfl) ?_
  refine s_bipush (pc := 4) (v := 39) (dc dl_X11_asks 2 rfl) bi_39 ?_
  refine s_iload_n (pc := 6) (dc dl_X11_asks 3 rfl) rfl rfl ?_
  refine s_iadd (pc := 7) (dc dl_X11_asks 4 rfl) ?_
  refine s_iald (pc := 8) lk_Mo_1 (dc dl_X11_asks 5 rfl) (fun v1 => ?_)
  refine s_istore_n (pc := 9) (lv' := [some (.ref (ad 0)), some (.int x1), some (.int x2), some (.int v1), none]) (dc dl_X11_asks 6 rfl) rfl (Nat.le_of_ble_eq_true rfl) rfl ?_
  refine s_aload_n (pc := 10) (dc dl_X11_asks 7 rfl) rfl rfl ?_
  refine s_getR (pc := 11) fl_X11_19 lk_Mo_0 kk_Mo_0_9 (dc dl_X11_asks 8 rfl) ?_
  refine s_iload_n (pc := 14) (dc dl_X11_asks 9 rfl) rfl rfl ?_
  refine s_iald (pc := 15) lk_Mo_4 (dc dl_X11_asks 10 rfl) (fun v2 => ?_)
  refine s_istore (pc := 16) (lv' := [some (.ref (ad 0)), some (.int x1), some (.int x2), some (.int v1), some (.int v2)]) (dc dl_X11_asks 11 rfl) (Nat.le_of_ble_eq_true rfl) rfl ?_
  refine s_aload_n (pc := 18) (dc dl_X11_asks 12 rfl) rfl rfl ?_
  refine s_getR (pc := 19) fl_X11_71 lk_Mo_0 kk_Mo_0_41 (dc dl_X11_asks 13 rfl) ?_
  refine s_iconst (pc := 22) (v := 0) (dc dl_X11_asks 14 rfl) ic_0 ?_
  refine s_aload_n (pc := 23) (dc dl_X11_asks 15 rfl) rfl rfl ?_
  refine s_getR (pc := 24) fl_X11_7 lk_Mo_0 kk_Mo_0_1 (dc dl_X11_asks 16 rfl) ?_
  refine s_iconst (pc := 27) (v := 3) (dc dl_X11_asks 17 rfl) ic_3 ?_
  refine s_iload_n (pc := 28) (dc dl_X11_asks 18 rfl) rfl rfl ?_
  refine s_iadd (pc := 29) (dc dl_X11_asks 19 rfl) ?_
  refine s_iald (pc := 30) lk_Mo_1 (dc dl_X11_asks 20 rfl) (fun v3 => ?_)
  refine s_iast (pc := 31) lk_Mo_20 (dc dl_X11_asks 21 rfl) ?_
  refine s_aload_n (pc := 32) (dc dl_X11_asks 22 rfl) rfl rfl ?_
  refine s_getR (pc := 33) fl_X11_71 lk_Mo_0 kk_Mo_0_41 (dc dl_X11_asks 23 rfl) ?_
  refine s_iconst (pc := 36) (v := 1) (dc dl_X11_asks 24 rfl) ic_1 ?_
  refine s_aload_n (pc := 37) (dc dl_X11_asks 25 rfl) rfl rfl ?_
  refine s_getR (pc := 38) fl_X11_7 lk_Mo_0 kk_Mo_0_1 (dc dl_X11_asks 26 rfl) ?_
  refine s_sipush (pc := 41) (v := 143) (dc dl_X11_asks 27 rfl) si_143 ?_
  refine s_iload_n (pc := 44) (dc dl_X11_asks 28 rfl) rfl rfl ?_
  refine s_iadd (pc := 45) (dc dl_X11_asks 29 rfl) ?_
  refine s_iald (pc := 46) lk_Mo_1 (dc dl_X11_asks 30 rfl) (fun v4 => ?_)
  refine s_iast (pc := 47) lk_Mo_20 (dc dl_X11_asks 31 rfl) ?_
  refine s_aload_n (pc := 48) (dc dl_X11_asks 32 rfl) rfl rfl ?_
  refine s_getR (pc := 49) fl_X11_71 lk_Mo_0 kk_Mo_0_41 (dc dl_X11_asks 33 rfl) ?_
  refine s_iconst (pc := 52) (v := 2) (dc dl_X11_asks 34 rfl) ic_2 ?_
  refine s_aload_n (pc := 53) (dc dl_X11_asks 35 rfl) rfl rfl ?_
  refine s_getR (pc := 54) fl_X11_7 lk_Mo_0 kk_Mo_0_1 (dc dl_X11_asks 36 rfl) ?_
  refine s_bipush (pc := 57) (v := 53) (dc dl_X11_asks 37 rfl) bi_53 ?_
  refine s_iload_n (pc := 59) (dc dl_X11_asks 38 rfl) rfl rfl ?_
  refine s_iadd (pc := 60) (dc dl_X11_asks 39 rfl) ?_
  refine s_iald (pc := 61) lk_Mo_1 (dc dl_X11_asks 40 rfl) (fun v5 => ?_)
  refine s_iast (pc := 62) lk_Mo_20 (dc dl_X11_asks 41 rfl) ?_
  refine s_aload_n (pc := 63) (dc dl_X11_asks 42 rfl) rfl rfl ?_
  refine s_getR (pc := 64) fl_X11_71 lk_Mo_0 kk_Mo_0_41 (dc dl_X11_asks 43 rfl) ?_
  refine s_iconst (pc := 67) (v := 3) (dc dl_X11_asks 44 rfl) ic_3 ?_
  refine s_aload_n (pc := 68) (dc dl_X11_asks 45 rfl) rfl rfl ?_
  refine s_iload_n (pc := 69) (dc dl_X11_asks 46 rfl) rfl rfl ?_
  refine s_call (pc := 70) (rest := [.int 3, .ref (ad 20)]) hG (calls_V (mi := mX11_asks) (o := 0) (As := [.int x2]) (rest := [.int 3, .ref (ad 20)]) hG (dc dl_X11_asks 47 rfl) mo_X11_knotsOf mv_X11_knotsOf ml_X11_329 ⟨Nat.le_of_ble_eq_true rfl, Nat.le_of_ble_eq_true rfl⟩ rfl rfl (Nat.le_of_ble_eq_true rfl) lk_Mo_0 rfl) (cn_X11_knotsOf l G hG ad x2) rfl (fun r6 => ?_)
  refine s_iast (pc := 73) lk_Mo_20 (dc dl_X11_asks 48 rfl) ?_
  refine s_aload_n (pc := 74) (dc dl_X11_asks 49 rfl) rfl rfl ?_
  refine s_getR (pc := 75) fl_X11_71 lk_Mo_0 kk_Mo_0_41 (dc dl_X11_asks 50 rfl) ?_
  refine s_iconst (pc := 78) (v := 4) (dc dl_X11_asks 51 rfl) ic_4 ?_
  refine s_iload_n (pc := 79) (dc dl_X11_asks 52 rfl) rfl rfl ?_
  refine s_iload (pc := 80) (dc dl_X11_asks 53 rfl) rfl ?_
  refine s_jn (pj := 109) (fun a8 : Int32 => [some (.ref (ad 0)), none, none, none, some (.int v2)]) (fun a8 : Int32 => [.int a8, .int 4, .ref (ad 20)]) (fun a8 => ?_) (fun j7 hj7 => ?_)
  · refine s_iast (pc := 109) lk_Mo_20 (dc dl_X11_asks 68 rfl) ?_
    refine s_aload_n (pc := 110) (dc dl_X11_asks 69 rfl) rfl rfl ?_
    refine s_getR (pc := 111) fl_X11_71 lk_Mo_0 kk_Mo_0_41 (dc dl_X11_asks 70 rfl) ?_
    refine s_iconst (pc := 114) (v := 5) (dc dl_X11_asks 71 rfl) ic_5 ?_
    refine s_aload_n (pc := 115) (dc dl_X11_asks 72 rfl) rfl rfl ?_
    refine s_getR (pc := 116) fl_X11_7 lk_Mo_0 kk_Mo_0_1 (dc dl_X11_asks 73 rfl) ?_
    refine s_bipush (pc := 119) (v := 15) (dc dl_X11_asks 74 rfl) bi_15 ?_
    refine s_iload (pc := 121) (dc dl_X11_asks 75 rfl) rfl ?_
    refine s_iadd (pc := 123) (dc dl_X11_asks 76 rfl) ?_
    refine s_iald (pc := 124) lk_Mo_1 (dc dl_X11_asks 77 rfl) (fun v9 => ?_)
    refine s_iast (pc := 125) lk_Mo_20 (dc dl_X11_asks 78 rfl) ?_
    refine s_aload_n (pc := 126) (dc dl_X11_asks 79 rfl) rfl rfl ?_
    refine s_getR (pc := 127) fl_X11_71 lk_Mo_0 kk_Mo_0_41 (dc dl_X11_asks 80 rfl) ?_
    refine s_bipush (pc := 130) (v := 6) (dc dl_X11_asks 81 rfl) bi_6 ?_
    refine s_aload_n (pc := 132) (dc dl_X11_asks 82 rfl) rfl rfl ?_
    refine s_getR (pc := 133) fl_X11_7 lk_Mo_0 kk_Mo_0_1 (dc dl_X11_asks 83 rfl) ?_
    refine s_bipush (pc := 136) (v := 27) (dc dl_X11_asks 84 rfl) bi_27 ?_
    refine s_iload (pc := 138) (dc dl_X11_asks 85 rfl) rfl ?_
    refine s_iadd (pc := 140) (dc dl_X11_asks 86 rfl) ?_
    refine s_iald (pc := 141) lk_Mo_1 (dc dl_X11_asks 87 rfl) (fun v10 => ?_)
    refine s_iast (pc := 142) lk_Mo_20 (dc dl_X11_asks 88 rfl) ?_
    refine s_aload_n (pc := 143) (dc dl_X11_asks 89 rfl) rfl rfl ?_
    refine s_getR (pc := 144) fl_X11_71 lk_Mo_0 kk_Mo_0_41 (dc dl_X11_asks 90 rfl) ?_
    refine s_bipush (pc := 147) (v := 7) (dc dl_X11_asks 91 rfl) bi_7 ?_
    refine s_aload_n (pc := 149) (dc dl_X11_asks 92 rfl) rfl rfl ?_
    refine s_call (pc := 150) (rest := [.int 7, .ref (ad 20)]) hG (calls_V (mi := mX11_asks) (o := 0) (As := []) (rest := [.int 7, .ref (ad 20)]) hG (dc dl_X11_asks 93 rfl) mo_X11_openMany mv_X11_openMany ml_X11_336 ⟨Nat.le_of_ble_eq_true rfl, Nat.le_of_ble_eq_true rfl⟩ rfl rfl (Nat.le_of_ble_eq_true rfl) lk_Mo_0 rfl) (cn_X11_openMany l G hG ad) rfl (fun r11 => ?_)
    refine s_iast (pc := 153) lk_Mo_20 (dc dl_X11_asks 94 rfl) ?_
    refine s_aload_n (pc := 154) (dc dl_X11_asks 95 rfl) rfl rfl ?_
    refine s_getR (pc := 155) fl_X11_71 lk_Mo_0 kk_Mo_0_41 (dc dl_X11_asks 96 rfl) ?_
    refine s_bipush (pc := 158) (v := 8) (dc dl_X11_asks 97 rfl) bi_8 ?_
    refine s_aload_n (pc := 160) (dc dl_X11_asks 98 rfl) rfl rfl ?_
    refine s_getR (pc := 161) fl_X11_7 lk_Mo_0 kk_Mo_0_1 (dc dl_X11_asks 99 rfl) ?_
    refine s_iconst (pc := 164) (v := 0) (dc dl_X11_asks 100 rfl) ic_0 ?_
    refine s_iald (pc := 165) lk_Mo_1 (dc dl_X11_asks 101 rfl) (fun v12 => ?_)
    refine s_iast (pc := 166) lk_Mo_20 (dc dl_X11_asks 102 rfl) ?_
    exact s_return (pc := 167) rfl (dc dl_X11_asks 103 rfl)
  · refine s_icmp_ne (pc := 82) (tgt := 89) (dc dl_X11_asks 54 rfl) rfl ?_ ?_
    · refine s_iconst (pc := 85) (v := 2) (dc dl_X11_asks 55 rfl) ic_2 ?_
      refine s_goto (pc := 86) (tgt := 109) (dc dl_X11_asks 56 rfl) rfl ?_
      exact s_wk (hj7 2) rfl
    · refine s_aload_n (pc := 89) (dc dl_X11_asks 57 rfl) rfl rfl ?_
      refine s_aload_n (pc := 90) (dc dl_X11_asks 58 rfl) rfl rfl ?_
      refine s_getR (pc := 91) fl_X11_68 lk_Mo_0 kk_Mo_0_40 (dc dl_X11_asks 59 rfl) ?_
      refine s_iload_n (pc := 94) (dc dl_X11_asks 60 rfl) rfl rfl ?_
      refine s_iald (pc := 95) lk_Mo_19 (dc dl_X11_asks 61 rfl) (fun v13 => ?_)
      refine s_iload (pc := 96) (dc dl_X11_asks 62 rfl) rfl ?_
      refine s_call (pc := 98) (rest := [.int 4, .ref (ad 20)]) hG (calls_V (mi := mX11_asks) (o := 0) (As := [.int v13, .int v2]) (rest := [.int 4, .ref (ad 20)]) hG (dc dl_X11_asks 63 rfl) mo_X11_has mv_X11_has ml_X11_332 ⟨Nat.le_of_ble_eq_true rfl, Nat.le_of_ble_eq_true rfl⟩ rfl rfl (Nat.le_of_ble_eq_true rfl) lk_Mo_0 rfl) (cn_X11_has l G hG ad v13 v2) rfl (fun r14 => ?_)
      refine s_if_eq (pc := 101) (tgt := 108) (dc dl_X11_asks 64 rfl) rfl ?_ ?_
      · refine s_iconst (pc := 108) (v := 0) (dc dl_X11_asks 67 rfl) ic_0 ?_
        exact s_wk (hj7 0) rfl
      · refine s_iconst (pc := 104) (v := 1) (dc dl_X11_asks 65 rfl) ic_1 ?_
        refine s_goto (pc := 105) (tgt := 109) (dc dl_X11_asks 66 rfl) rfl ?_
        exact s_wk (hj7 1) rfl
def gX11_lawTells (x1 x2 x3 x4 : Int32) : MM Int32 :=
  bd (gX11_lineOf x1) fun r1 =>
  jn (fun (a3 : Int32) =>
  bd (gX11_held a3 x3 x4) fun r4 =>
  pr r4) (fun j2 =>
  (if r1 = ((-1)) then
  j2 x2
  else
  bd (la 11 r1) fun v5 =>
  bd (la 12 r1) fun v6 =>
  bd (gX11_runs 0 v5 v6) fun r7 =>
  j2 r7))
set_option maxHeartbeats 4000000 in
theorem cn_X11_lawTells (l : Launch) (G : Gl) (hG : gOk G) (ad : Nat → Nat) (x1 x2 x3 x4 : Int32) : Cn l G mX11_lawTells 3 lay_Mo ad [.ref (ad 0), .int x1, .int x2, .int x3, .int x4] (gX11_lawTells x1 x2 x3 x4) := by
  refine cn_of (lv := [some (.ref (ad 0)), some (.int x1), some (.int x2), some (.int x3), some (.int x4), none]) (by decide +kernel) rfl (Nat.le_of_ble_eq_true rfl) rfl ?_
  unfold gX11_lawTells
  refine s_aload_n (pc := 0) (dc dl_X11_lawTells 0 rfl) rfl rfl ?_
  refine s_iload_n (pc := 1) (dc dl_X11_lawTells 1 rfl) rfl rfl ?_
  refine s_call (pc := 2) (rest := []) hG (calls_V (mi := mX11_lawTells) (o := 0) (As := [.int x1]) (rest := []) hG (dc dl_X11_lawTells 2 rfl) mo_X11_lineOf mv_X11_lineOf ml_X11_339 ⟨Nat.le_of_ble_eq_true rfl, Nat.le_of_ble_eq_true rfl⟩ rfl rfl (Nat.le_of_ble_eq_true rfl) lk_Mo_0 rfl) (cn_X11_lineOf l G hG ad x1) rfl (fun r1 => ?_)
  refine s_istore (pc := 5) (lv' := [some (.ref (ad 0)), some (.int x1), some (.int x2), some (.int x3), some (.int x4), some (.int r1)]) (dc dl_X11_lawTells 3 rfl) (Nat.le_of_ble_eq_true rfl) rfl ?_
  refine s_aload_n (pc := 7) (dc dl_X11_lawTells 4 rfl) rfl rfl ?_
  refine s_iload (pc := 8) (dc dl_X11_lawTells 5 rfl) rfl ?_
  refine s_iconst (pc := 10) (v := (-1)) (dc dl_X11_lawTells 6 rfl) ic_m1 ?_
  refine s_jn (pj := 37) (fun a3 : Int32 => [none, none, none, some (.int x3), some (.int x4), none]) (fun a3 : Int32 => [.int a3, .ref (ad 0)]) (fun a3 => ?_) (fun j2 hj2 => ?_)
  · refine s_iload_n (pc := 37) (dc dl_X11_lawTells 21 rfl) rfl rfl ?_
    refine s_iload (pc := 38) (dc dl_X11_lawTells 22 rfl) rfl ?_
    refine s_call (pc := 40) (rest := []) hG (calls_V (mi := mX11_lawTells) (o := 0) (As := [.int a3, .int x3, .int x4]) (rest := []) hG (dc dl_X11_lawTells 23 rfl) mo_X11_held mv_X11_held ml_X11_342 ⟨Nat.le_of_ble_eq_true rfl, Nat.le_of_ble_eq_true rfl⟩ rfl rfl (Nat.le_of_ble_eq_true rfl) lk_Mo_0 rfl) (cn_X11_held l G hG ad a3 x3 x4) rfl (fun r4 => ?_)
    exact s_ireturn (pc := 43) rfl (dc dl_X11_lawTells 24 rfl)
  · refine s_icmp_ne (pc := 11) (tgt := 18) (dc dl_X11_lawTells 7 rfl) rfl ?_ ?_
    · refine s_iload_n (pc := 14) (dc dl_X11_lawTells 8 rfl) rfl rfl ?_
      refine s_goto (pc := 15) (tgt := 37) (dc dl_X11_lawTells 9 rfl) rfl ?_
      exact s_wk (hj2 x2) rfl
    · refine s_aload_n (pc := 18) (dc dl_X11_lawTells 10 rfl) rfl rfl ?_
      refine s_iconst (pc := 19) (v := 0) (dc dl_X11_lawTells 11 rfl) ic_0 ?_
      refine s_aload_n (pc := 20) (dc dl_X11_lawTells 12 rfl) rfl rfl ?_
      refine s_getR (pc := 21) fl_X11_40 lk_Mo_0 kk_Mo_0_21 (dc dl_X11_lawTells 13 rfl) ?_
      refine s_iload (pc := 24) (dc dl_X11_lawTells 14 rfl) rfl ?_
      refine s_iald (pc := 26) lk_Mo_11 (dc dl_X11_lawTells 15 rfl) (fun v5 => ?_)
      refine s_aload_n (pc := 27) (dc dl_X11_lawTells 16 rfl) rfl rfl ?_
      refine s_getR (pc := 28) fl_X11_43 lk_Mo_0 kk_Mo_0_22 (dc dl_X11_lawTells 17 rfl) ?_
      refine s_iload (pc := 31) (dc dl_X11_lawTells 18 rfl) rfl ?_
      refine s_iald (pc := 33) lk_Mo_12 (dc dl_X11_lawTells 19 rfl) (fun v6 => ?_)
      refine s_call (pc := 34) (rest := [.ref (ad 0)]) hG (calls_V (mi := mX11_lawTells) (o := 0) (As := [.int 0, .int v5, .int v6]) (rest := [.ref (ad 0)]) hG (dc dl_X11_lawTells 20 rfl) mo_X11_runs mv_X11_runs ml_X11_326 ⟨Nat.le_of_ble_eq_true rfl, Nat.le_of_ble_eq_true rfl⟩ rfl rfl (Nat.le_of_ble_eq_true rfl) lk_Mo_0 rfl) (cn_X11_runs l G hG ad 0 v5 v6) rfl (fun r7 => ?_)
      exact s_wk (hj2 r7) rfl
def gX11_tiesOf (x1 x2 : Int32) : MM Int32 :=
  bd (gX11_asks x1 x2) fun r1 =>
  bd (la 20 0) fun v2 =>
  nz 2 (
  bd (gX11_lawTells 0 (1 + (v2 / 2)) 1 9) fun r3 =>
  pr r3)
set_option maxHeartbeats 4000000 in
theorem cn_X11_tiesOf (l : Launch) (G : Gl) (hG : gOk G) (ad : Nat → Nat) (x1 x2 : Int32) : Cn l G mX11_tiesOf 4 lay_Mo ad [.ref (ad 0), .int x1, .int x2] (gX11_tiesOf x1 x2) := by
  refine cn_of (lv := [some (.ref (ad 0)), some (.int x1), some (.int x2)]) (by decide +kernel) rfl (Nat.le_of_ble_eq_true rfl) rfl ?_
  unfold gX11_tiesOf
  refine s_aload_n (pc := 0) (dc dl_X11_tiesOf 0 rfl) rfl rfl ?_
  refine s_iload_n (pc := 1) (dc dl_X11_tiesOf 1 rfl) rfl rfl ?_
  refine s_iload_n (pc := 2) (dc dl_X11_tiesOf 2 rfl) rfl rfl ?_
  refine s_callv (pc := 3) (rest := []) hG (calls_V (mi := mX11_tiesOf) (o := 0) (As := [.int x1, .int x2]) (rest := []) hG (dc dl_X11_tiesOf 3 rfl) mo_X11_asks mv_X11_asks ml_X11_345 ⟨Nat.le_of_ble_eq_true rfl, Nat.le_of_ble_eq_true rfl⟩ rfl rfl (Nat.le_of_ble_eq_true rfl) lk_Mo_0 rfl) (cn_X11_asks l G hG ad x1 x2) rfl (fun r1 => ?_)
  refine s_aload_n (pc := 6) (dc dl_X11_tiesOf 4 rfl) rfl rfl ?_
  refine s_iconst (pc := 7) (v := 0) (dc dl_X11_tiesOf 5 rfl) ic_0 ?_
  refine s_iconst (pc := 8) (v := 1) (dc dl_X11_tiesOf 6 rfl) ic_1 ?_
  refine s_aload_n (pc := 9) (dc dl_X11_tiesOf 7 rfl) rfl rfl ?_
  refine s_getR (pc := 10) fl_X11_71 lk_Mo_0 kk_Mo_0_41 (dc dl_X11_tiesOf 8 rfl) ?_
  refine s_iconst (pc := 13) (v := 0) (dc dl_X11_tiesOf 9 rfl) ic_0 ?_
  refine s_iald (pc := 14) lk_Mo_20 (dc dl_X11_tiesOf 10 rfl) (fun v2 => ?_)
  refine s_iconst (pc := 15) (v := 2) (dc dl_X11_tiesOf 11 rfl) ic_2 ?_
  refine s_idiv (pc := 16) (dc dl_X11_tiesOf 12 rfl) ?_
  refine s_iadd (pc := 17) (dc dl_X11_tiesOf 13 rfl) ?_
  refine s_iconst (pc := 18) (v := 1) (dc dl_X11_tiesOf 14 rfl) ic_1 ?_
  refine s_bipush (pc := 19) (v := 9) (dc dl_X11_tiesOf 15 rfl) bi_9 ?_
  refine s_call (pc := 21) (rest := []) hG (calls_V (mi := mX11_tiesOf) (o := 0) (As := [.int 0, .int (1 + (v2 / 2)), .int 1, .int 9]) (rest := []) hG (dc dl_X11_tiesOf 16 rfl) mo_X11_lawTells mv_X11_lawTells ml_X11_348 ⟨Nat.le_of_ble_eq_true rfl, Nat.le_of_ble_eq_true rfl⟩ rfl rfl (Nat.le_of_ble_eq_true rfl) lk_Mo_0 rfl) (cn_X11_lawTells l G hG ad 0 (1 + (v2 / 2)) 1 9) rfl (fun r3 => ?_)
  exact s_ireturn (pc := 24) rfl (dc dl_X11_tiesOf 17 rfl)
def gX11_slipsOf (x1 : Int32) : MM Int32 :=
  bd (gX11_inCloth x1) fun r1 =>
  bd (gX11_asks x1 r1) fun r2 =>
  bd (la 20 1) fun v3 =>
  bd (gX11_lawTells 1 (900 - (100 * v3)) 0 1000) fun r4 =>
  pr r4
set_option maxHeartbeats 4000000 in
theorem cn_X11_slipsOf (l : Launch) (G : Gl) (hG : gOk G) (ad : Nat → Nat) (x1 : Int32) : Cn l G mX11_slipsOf 4 lay_Mo ad [.ref (ad 0), .int x1] (gX11_slipsOf x1) := by
  refine cn_of (lv := [some (.ref (ad 0)), some (.int x1)]) (by decide +kernel) rfl (Nat.le_of_ble_eq_true rfl) rfl ?_
  unfold gX11_slipsOf
  refine s_aload_n (pc := 0) (dc dl_X11_slipsOf 0 rfl) rfl rfl ?_
  refine s_iload_n (pc := 1) (dc dl_X11_slipsOf 1 rfl) rfl rfl ?_
  refine s_aload_n (pc := 2) (dc dl_X11_slipsOf 2 rfl) rfl rfl ?_
  refine s_iload_n (pc := 3) (dc dl_X11_slipsOf 3 rfl) rfl rfl ?_
  refine s_call (pc := 4) (rest := [.int x1, .ref (ad 0)]) hG (calls_V (mi := mX11_slipsOf) (o := 0) (As := [.int x1]) (rest := [.int x1, .ref (ad 0)]) hG (dc dl_X11_slipsOf 4 rfl) mo_X11_inCloth mv_X11_inCloth ml_X11_167 ⟨Nat.le_of_ble_eq_true rfl, Nat.le_of_ble_eq_true rfl⟩ rfl rfl (Nat.le_of_ble_eq_true rfl) lk_Mo_0 rfl) (cn_X11_inCloth l G hG ad x1) rfl (fun r1 => ?_)
  refine s_callv (pc := 7) (rest := []) hG (calls_V (mi := mX11_slipsOf) (o := 0) (As := [.int x1, .int r1]) (rest := []) hG (dc dl_X11_slipsOf 5 rfl) mo_X11_asks mv_X11_asks ml_X11_345 ⟨Nat.le_of_ble_eq_true rfl, Nat.le_of_ble_eq_true rfl⟩ rfl rfl (Nat.le_of_ble_eq_true rfl) lk_Mo_0 rfl) (cn_X11_asks l G hG ad x1 r1) rfl (fun r2 => ?_)
  refine s_aload_n (pc := 10) (dc dl_X11_slipsOf 6 rfl) rfl rfl ?_
  refine s_iconst (pc := 11) (v := 1) (dc dl_X11_slipsOf 7 rfl) ic_1 ?_
  refine s_sipush (pc := 12) (v := 900) (dc dl_X11_slipsOf 8 rfl) si_900 ?_
  refine s_bipush (pc := 15) (v := 100) (dc dl_X11_slipsOf 9 rfl) bi_100 ?_
  refine s_aload_n (pc := 17) (dc dl_X11_slipsOf 10 rfl) rfl rfl ?_
  refine s_getR (pc := 18) fl_X11_71 lk_Mo_0 kk_Mo_0_41 (dc dl_X11_slipsOf 11 rfl) ?_
  refine s_iconst (pc := 21) (v := 1) (dc dl_X11_slipsOf 12 rfl) ic_1 ?_
  refine s_iald (pc := 22) lk_Mo_20 (dc dl_X11_slipsOf 13 rfl) (fun v3 => ?_)
  refine s_imul (pc := 23) (dc dl_X11_slipsOf 14 rfl) ?_
  refine s_isub (pc := 24) (dc dl_X11_slipsOf 15 rfl) ?_
  refine s_iconst (pc := 25) (v := 0) (dc dl_X11_slipsOf 16 rfl) ic_0 ?_
  refine s_sipush (pc := 26) (v := 1000) (dc dl_X11_slipsOf 17 rfl) si_1000 ?_
  refine s_call (pc := 29) (rest := []) hG (calls_V (mi := mX11_slipsOf) (o := 0) (As := [.int 1, .int (900 - (100 * v3)), .int 0, .int 1000]) (rest := []) hG (dc dl_X11_slipsOf 18 rfl) mo_X11_lawTells mv_X11_lawTells ml_X11_348 ⟨Nat.le_of_ble_eq_true rfl, Nat.le_of_ble_eq_true rfl⟩ rfl rfl (Nat.le_of_ble_eq_true rfl) lk_Mo_0 rfl) (cn_X11_lawTells l G hG ad 1 (900 - (100 * v3)) 0 1000) rfl (fun r4 => ?_)
  exact s_ireturn (pc := 32) rfl (dc dl_X11_slipsOf 19 rfl)
