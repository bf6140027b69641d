def gX11_isIn (x1 x2 x3 : Int32) : MM Int32 :=
  jn (fun (a2 : Int32) =>
  rz a2) (fun j1 =>
  jn (fun (a4 : Unit) =>
  j1 0) (fun j3 =>
  (if x1 < x2 then
  j3 ()
  else
  (if x3 < x1 then
  j3 ()
  else
  j1 1))))
set_option maxHeartbeats 4000000 in
theorem cn_X11_isIn (l : Launch) (G : Gl) (hG : gOk G) (ad : Nat → Nat) (x1 x2 x3 : Int32) : Cn l G mX11_isIn 0 lay_Mo ad [.ref (ad 0), .int x1, .int x2, .int x3] (gX11_isIn x1 x2 x3) := by
  refine cn_of (lv := [some (.ref (ad 0)), some (.int x1), some (.int x2), some (.int x3)]) (by decide +kernel) rfl (Nat.le_of_ble_eq_true rfl) rfl ?_
  unfold gX11_isIn
  refine s_iload_n (pc := 0) (dc dl_X11_isIn 0 rfl) rfl rfl ?_
  refine s_iload_n (pc := 1) (dc dl_X11_isIn 1 rfl) rfl rfl ?_
  refine s_jn (pj := 15) (fun a2 : Int32 => [none, none, none, none]) (fun a2 : Int32 => [.int a2]) (fun a2 => ?_) (fun j1 hj1 => ?_)
  · exact s_zreturn (pc := 15) rfl (dc dl_X11_isIn 9 rfl)
  · refine s_jn (pj := 14) (fun a4 : Unit => [none, none, none, none]) (fun a4 : Unit => []) (fun a4 => ?_) (fun j3 hj3 => ?_)
    · refine s_iconst (pc := 14) (v := 0) (dc dl_X11_isIn 8 rfl) ic_0 ?_
      exact s_wk (hj1 0) rfl
    · refine s_icmp_lt (pc := 2) (tgt := 14) (dc dl_X11_isIn 2 rfl) rfl ?_ ?_
      · exact s_wk (hj3 ()) rfl
      · refine s_iload_n (pc := 5) (dc dl_X11_isIn 3 rfl) rfl rfl ?_
        refine s_iload_n (pc := 6) (dc dl_X11_isIn 4 rfl) rfl rfl ?_
        refine s_icmp_gt (pc := 7) (tgt := 14) (dc dl_X11_isIn 5 rfl) rfl ?_ ?_
        · exact s_wk (hj3 ()) rfl
        · refine s_iconst (pc := 10) (v := 1) (dc dl_X11_isIn 6 rfl) ic_1 ?_
          refine s_goto (pc := 11) (tgt := 15) (dc dl_X11_isIn 7 rfl) rfl ?_
          exact s_wk (hj1 1) rfl
def gX11_held (x1 x2 x3 : Int32) : MM Int32 :=
  jn (fun (a2 : Int32) =>
  pr a2) (fun j1 =>
  (if x2 ≤ x1 then
  (if x1 ≤ x3 then
  j1 x1
  else
  j1 x3)
  else
  j1 x2))
set_option maxHeartbeats 4000000 in
theorem cn_X11_held (l : Launch) (G : Gl) (hG : gOk G) (ad : Nat → Nat) (x1 x2 x3 : Int32) : Cn l G mX11_held 0 lay_Mo ad [.ref (ad 0), .int x1, .int x2, .int x3] (gX11_held x1 x2 x3) := by
  refine cn_of (lv := [some (.ref (ad 0)), some (.int x1), some (.int x2), some (.int x3)]) (by decide +kernel) rfl (Nat.le_of_ble_eq_true rfl) rfl ?_
  unfold gX11_held
  refine s_iload_n (pc := 0) (dc dl_X11_held 0 rfl) rfl rfl ?_
  refine s_iload_n (pc := 1) (dc dl_X11_held 1 rfl) rfl rfl ?_
  refine s_jn (pj := 19) (fun a2 : Int32 => [none, none, none, none]) (fun a2 : Int32 => [.int a2]) (fun a2 => ?_) (fun j1 hj1 => ?_)
  · exact s_ireturn (pc := 19) rfl (dc dl_X11_held 11 rfl)
  · refine s_icmp_ge (pc := 2) (tgt := 9) (dc dl_X11_held 2 rfl) rfl ?_ ?_
    · refine s_iload_n (pc := 9) (dc dl_X11_held 5 rfl) rfl rfl ?_
      refine s_iload_n (pc := 10) (dc dl_X11_held 6 rfl) rfl rfl ?_
      refine s_icmp_le (pc := 11) (tgt := 18) (dc dl_X11_held 7 rfl) rfl ?_ ?_
      · refine s_iload_n (pc := 18) (dc dl_X11_held 10 rfl) rfl rfl ?_
        exact s_wk (hj1 x1) rfl
      · refine s_iload_n (pc := 14) (dc dl_X11_held 8 rfl) rfl rfl ?_
        refine s_goto (pc := 15) (tgt := 19) (dc dl_X11_held 9 rfl) rfl ?_
        exact s_wk (hj1 x3) rfl
    · refine s_iload_n (pc := 5) (dc dl_X11_held 3 rfl) rfl rfl ?_
      refine s_goto (pc := 6) (tgt := 19) (dc dl_X11_held 4 rfl) rfl ?_
      exact s_wk (hj1 x2) rfl
def gX11_lesser (x1 x2 : Int32) : MM Int32 :=
  jn (fun (a2 : Int32) =>
  pr a2) (fun j1 =>
  (if x2 ≤ x1 then
  j1 x2
  else
  j1 x1))
set_option maxHeartbeats 4000000 in
theorem cn_X11_lesser (l : Launch) (G : Gl) (hG : gOk G) (ad : Nat → Nat) (x1 x2 : Int32) : Cn l G mX11_lesser 0 lay_Mo ad [.ref (ad 0), .int x1, .int x2] (gX11_lesser x1 x2) := by
  refine cn_of (lv := [some (.ref (ad 0)), some (.int x1), some (.int x2)]) (by decide +kernel) rfl (Nat.le_of_ble_eq_true rfl) rfl ?_
  unfold gX11_lesser
  refine s_iload_n (pc := 0) (dc dl_X11_lesser 0 rfl) rfl rfl ?_
  refine s_iload_n (pc := 1) (dc dl_X11_lesser 1 rfl) rfl rfl ?_
  refine s_jn (pj := 10) (fun a2 : Int32 => [none, none, none]) (fun a2 : Int32 => [.int a2]) (fun a2 => ?_) (fun j1 hj1 => ?_)
  · exact s_ireturn (pc := 10) rfl (dc dl_X11_lesser 6 rfl)
  · refine s_icmp_ge (pc := 2) (tgt := 9) (dc dl_X11_lesser 2 rfl) rfl ?_ ?_
    · refine s_iload_n (pc := 9) (dc dl_X11_lesser 5 rfl) rfl rfl ?_
      exact s_wk (hj1 x2) rfl
    · refine s_iload_n (pc := 5) (dc dl_X11_lesser 3 rfl) rfl rfl ?_
      refine s_goto (pc := 6) (tgt := 10) (dc dl_X11_lesser 4 rfl) rfl ?_
      exact s_wk (hj1 x1) rfl
def gX11_onesOf (x1 : Int32) : MM Int32 :=
  loopC 100000 (fun (self1 : (Int32 × Int32) → MM Int32) (s2 : Int32 × Int32) =>
  (if s2.2 = 0 then
  pr s2.1
  else
  lt (s2.1 + 1) fun y3 =>
  lt (s2.2 &&& (s2.2 - 1)) fun y4 =>
  self1 (y3, y4))) (0, x1)
set_option maxHeartbeats 4000000 in
theorem cn_X11_onesOf (l : Launch) (G : Gl) (hG : gOk G) (ad : Nat → Nat) (x1 : Int32) : Cn l G mX11_onesOf 0 lay_Mo ad [.ref (ad 0), .int x1] (gX11_onesOf x1) := by
  refine cn_of (lv := [some (.ref (ad 0)), some (.int x1), none, none]) (by decide +kernel) rfl (Nat.le_of_ble_eq_true rfl) rfl ?_
  unfold gX11_onesOf
  refine s_iconst (pc := 0) (v := 0) (dc dl_X11_onesOf 0 rfl) ic_0 ?_
  refine s_istore_n (pc := 1) (lv' := [some (.ref (ad 0)), some (.int x1), some (.int 0), none]) (dc dl_X11_onesOf 1 rfl) rfl (Nat.le_of_ble_eq_true rfl) rfl ?_
  refine s_iload_n (pc := 2) (dc dl_X11_onesOf 2 rfl) rfl rfl ?_
  refine s_istore_n (pc := 3) (lv' := [some (.ref (ad 0)), some (.int x1), some (.int 0), some (.int x1)]) (dc dl_X11_onesOf 3 rfl) rfl (Nat.le_of_ble_eq_true rfl) rfl ?_
  refine s_weak (lv' := [none, none, some (.int 0), some (.int x1)]) rfl ?_
  refine s_loop (pc := 4) (fun s2 : Int32 × Int32 => [none, none, some (.int s2.1), some (.int s2.2)]) [] (fun self1 hself1 s2 => ?_) _ (0, x1)
  refine s_iload_n (pc := 4) (dc dl_X11_onesOf 4 rfl) rfl rfl ?_
  refine s_if_eq (pc := 5) (tgt := 21) (dc dl_X11_onesOf 5 rfl) rfl ?_ ?_
  · refine s_iload_n (pc := 21) (dc dl_X11_onesOf 17 rfl) rfl rfl ?_
    exact s_ireturn (pc := 22) rfl (dc dl_X11_onesOf 18 rfl)
  · refine s_iload_n (pc := 8) (dc dl_X11_onesOf 6 rfl) rfl rfl ?_
    refine s_iconst (pc := 9) (v := 1) (dc dl_X11_onesOf 7 rfl) ic_1 ?_
    refine s_iadd (pc := 10) (dc dl_X11_onesOf 8 rfl) ?_
    refine s_istore_nL (pc := 11) (lf' := fun y3 => [none, none, some (.int y3), some (.int s2.2)]) (dc dl_X11_onesOf 9 rfl) rfl (Nat.le_of_ble_eq_true rfl) (fun _ => rfl) (fun y3 => ?_)
    refine s_iload_n (pc := 12) (dc dl_X11_onesOf 10 rfl) rfl rfl ?_
    refine s_iload_n (pc := 13) (dc dl_X11_onesOf 11 rfl) rfl rfl ?_
    refine s_iconst (pc := 14) (v := 1) (dc dl_X11_onesOf 12 rfl) ic_1 ?_
    refine s_isub (pc := 15) (dc dl_X11_onesOf 13 rfl) ?_
    refine s_iand (pc := 16) (dc dl_X11_onesOf 14 rfl) ?_
    refine s_istore_nL (pc := 17) (lf' := fun y4 => [none, none, some (.int y3), some (.int y4)]) (dc dl_X11_onesOf 15 rfl) rfl (Nat.le_of_ble_eq_true rfl) (fun _ => rfl) (fun y4 => ?_)
    refine s_goto (pc := 18) (tgt := 4) (dc dl_X11_onesOf 16 rfl) rfl ?_
    exact s_wk (hself1 (y3, y4)) rfl
def gX11_has (x1 x2 : Int32) : MM Int32 :=
  jn (fun (a2 : Int32) =>
  rz a2) (fun j1 =>
  (if ((x1 >>> (x2 &&& 31)) &&& 1) = 1 then
  j1 1
  else
  j1 0))
set_option maxHeartbeats 4000000 in
theorem cn_X11_has (l : Launch) (G : Gl) (hG : gOk G) (ad : Nat → Nat) (x1 x2 : Int32) : Cn l G mX11_has 0 lay_Mo ad [.ref (ad 0), .int x1, .int x2] (gX11_has x1 x2) := by
  refine cn_of (lv := [some (.ref (ad 0)), some (.int x1), some (.int x2)]) (by decide +kernel) rfl (Nat.le_of_ble_eq_true rfl) rfl ?_
  unfold gX11_has
  refine s_iload_n (pc := 0) (dc dl_X11_has 0 rfl) rfl rfl ?_
  refine s_iload_n (pc := 1) (dc dl_X11_has 1 rfl) rfl rfl ?_
  refine s_ishr (pc := 2) (dc dl_X11_has 2 rfl) ?_
  refine s_iconst (pc := 3) (v := 1) (dc dl_X11_has 3 rfl) ic_1 ?_
  refine s_iand (pc := 4) (dc dl_X11_has 4 rfl) ?_
  refine s_iconst (pc := 5) (v := 1) (dc dl_X11_has 5 rfl) ic_1 ?_
  refine s_jn (pj := 14) (fun a2 : Int32 => [none, none, none]) (fun a2 : Int32 => [.int a2]) (fun a2 => ?_) (fun j1 hj1 => ?_)
  · exact s_zreturn (pc := 14) rfl (dc dl_X11_has 10 rfl)
  · refine s_icmp_ne (pc := 6) (tgt := 13) (dc dl_X11_has 6 rfl) rfl ?_ ?_
    · refine s_iconst (pc := 9) (v := 1) (dc dl_X11_has 7 rfl) ic_1 ?_
      refine s_goto (pc := 10) (tgt := 14) (dc dl_X11_has 8 rfl) rfl ?_
      exact s_wk (hj1 1) rfl
    · refine s_iconst (pc := 13) (v := 0) (dc dl_X11_has 9 rfl) ic_0 ?_
      exact s_wk (hj1 0) rfl
def gX11_keepsAhead : MM Int32 :=
  bd (ld 0 3) fun v1 =>
  jn (fun (a3 : Unit) =>
  loopC 100000 (fun (self4 : Int32 → MM Int32) (s5 : Int32) =>
  (if 183 ≤ s5 then
  bd (ld 0 3) fun v6 =>
  bd (sv 0 3 (v6 + 1)) fun _ =>
  pr 0
  else
  bd (ld 0 3) fun v7 =>
  bd (la 1 s5) fun v8 =>
  bd (sa 2 ((183 * v7) + s5) v8) fun _ =>
  lt (s5 + 1) fun y9 =>
  self4 y9)) 0) (fun j2 =>
  (if v1 = 6 then
  bd (ld 0 3) fun v10 =>
  bd (sv 0 3 (v10 - 1)) fun _ =>
  loopC 100000 (fun (self11 : Int32 → MM Int32) (s12 : Int32) =>
  bd (ld 0 3) fun v13 =>
  (if (183 * v13) ≤ s12 then
  j2 ()
  else
  bd (la 2 (s12 + 183)) fun v14 =>
  bd (sa 2 s12 v14) fun _ =>
  lt (s12 + 1) fun y15 =>
  self11 y15)) 0
  else
  j2 ()))
set_option maxHeartbeats 4000000 in
theorem cn_X11_keepsAhead (l : Launch) (G : Gl) (hG : gOk G) (ad : Nat → Nat) : Cn l G mX11_keepsAhead 0 lay_Mo ad [.ref (ad 0)] (gX11_keepsAhead) := by
  refine cn_of (lv := [some (.ref (ad 0)), none]) (by decide +kernel) rfl (Nat.le_of_ble_eq_true rfl) rfl ?_
  unfold gX11_keepsAhead
  refine s_aload_n (pc := 0) (dc dl_X11_keepsAhead 0 rfl) rfl rfl ?_
  refine s_getI (pc := 1) fl_X11_128 lk_Mo_0 kk_Mo_0_3 (dc dl_X11_keepsAhead 1 rfl) (fun v1 => ?_)
  refine s_bipush (pc := 4) (v := 6) (dc dl_X11_keepsAhead 2 rfl) bi_6 ?_
  refine s_jn (pj := 55) (fun a3 : Unit => [some (.ref (ad 0)), none]) (fun a3 : Unit => []) (fun a3 => ?_) (fun j2 hj2 => ?_)
  · refine s_iconst (pc := 55) (v := 0) (dc dl_X11_keepsAhead 30 rfl) ic_0 ?_
    refine s_istore_n (pc := 56) (lv' := [some (.ref (ad 0)), some (.int 0)]) (dc dl_X11_keepsAhead 31 rfl) rfl (Nat.le_of_ble_eq_true rfl) rfl ?_
    refine s_weak (lv' := [some (.ref (ad 0)), some (.int 0)]) rfl ?_
    refine s_loop (pc := 57) (fun s5 : Int32 => [some (.ref (ad 0)), some (.int s5)]) [] (fun self4 hself4 s5 => ?_) _ 0
    refine s_iload_n (pc := 57) (dc dl_X11_keepsAhead 32 rfl) rfl rfl ?_
    refine s_sipush (pc := 58) (v := 183) (dc dl_X11_keepsAhead 33 rfl) si_183 ?_
    refine s_icmp_ge (pc := 61) (tgt := 91) (dc dl_X11_keepsAhead 34 rfl) rfl ?_ ?_
    · refine s_aload_n (pc := 91) (dc dl_X11_keepsAhead 50 rfl) rfl rfl ?_
      refine s_aload_n (pc := 92) (dc dl_X11_keepsAhead 51 rfl) rfl rfl ?_
      refine s_getI (pc := 93) fl_X11_128 lk_Mo_0 kk_Mo_0_3 (dc dl_X11_keepsAhead 52 rfl) (fun v6 => ?_)
      refine s_iconst (pc := 96) (v := 1) (dc dl_X11_keepsAhead 53 rfl) ic_1 ?_
      refine s_iadd (pc := 97) (dc dl_X11_keepsAhead 54 rfl) ?_
      refine s_putI (pc := 98) fw_X11_128 lk_Mo_0 kk_Mo_0_3 (dc dl_X11_keepsAhead 55 rfl) ?_
      exact s_return (pc := 101) rfl (dc dl_X11_keepsAhead 56 rfl)
    · refine s_aload_n (pc := 64) (dc dl_X11_keepsAhead 35 rfl) rfl rfl ?_
      refine s_getR (pc := 65) fl_X11_13 lk_Mo_0 kk_Mo_0_2 (dc dl_X11_keepsAhead 36 rfl) ?_
      refine s_sipush (pc := 68) (v := 183) (dc dl_X11_keepsAhead 37 rfl) si_183 ?_
      refine s_aload_n (pc := 71) (dc dl_X11_keepsAhead 38 rfl) rfl rfl ?_
      refine s_getI (pc := 72) fl_X11_128 lk_Mo_0 kk_Mo_0_3 (dc dl_X11_keepsAhead 39 rfl) (fun v7 => ?_)
      refine s_imul (pc := 75) (dc dl_X11_keepsAhead 40 rfl) ?_
      refine s_iload_n (pc := 76) (dc dl_X11_keepsAhead 41 rfl) rfl rfl ?_
      refine s_iadd (pc := 77) (dc dl_X11_keepsAhead 42 rfl) ?_
      refine s_aload_n (pc := 78) (dc dl_X11_keepsAhead 43 rfl) rfl rfl ?_
      refine s_getR (pc := 79) fl_X11_7 lk_Mo_0 kk_Mo_0_1 (dc dl_X11_keepsAhead 44 rfl) ?_
      refine s_iload_n (pc := 82) (dc dl_X11_keepsAhead 45 rfl) rfl rfl ?_
      refine s_iald (pc := 83) lk_Mo_1 (dc dl_X11_keepsAhead 46 rfl) (fun v8 => ?_)
      refine s_iast (pc := 84) lk_Mo_2 (dc dl_X11_keepsAhead 47 rfl) ?_
      refine s_iincL (pc := 85) (lf' := fun y9 => [some (.ref (ad 0)), some (.int y9)]) (dc dl_X11_keepsAhead 48 rfl) rfl rfl (Nat.le_of_ble_eq_true rfl) (fun _ => rfl) (fun y9 => ?_)
      refine s_goto (pc := 88) (tgt := 57) (dc dl_X11_keepsAhead 49 rfl) rfl ?_
      exact s_wk (hself4 y9) rfl
  · refine s_icmp_ne (pc := 6) (tgt := 55) (dc dl_X11_keepsAhead 3 rfl) rfl ?_ ?_
    · refine s_aload_n (pc := 9) (dc dl_X11_keepsAhead 4 rfl) rfl rfl ?_
      refine s_aload_n (pc := 10) (dc dl_X11_keepsAhead 5 rfl) rfl rfl ?_
      refine s_getI (pc := 11) fl_X11_128 lk_Mo_0 kk_Mo_0_3 (dc dl_X11_keepsAhead 6 rfl) (fun v10 => ?_)
      refine s_iconst (pc := 14) (v := 1) (dc dl_X11_keepsAhead 7 rfl) ic_1 ?_
      refine s_isub (pc := 15) (dc dl_X11_keepsAhead 8 rfl) ?_
      refine s_putI (pc := 16) fw_X11_128 lk_Mo_0 kk_Mo_0_3 (dc dl_X11_keepsAhead 9 rfl) ?_
      refine s_iconst (pc := 19) (v := 0) (dc dl_X11_keepsAhead 10 rfl) ic_0 ?_
      refine s_istore_n (pc := 20) (lv' := [some (.ref (ad 0)), some (.int 0)]) (dc dl_X11_keepsAhead 11 rfl) rfl (Nat.le_of_ble_eq_true rfl) rfl ?_
      refine s_weak (lv' := [some (.ref (ad 0)), some (.int 0)]) rfl ?_
      refine s_loop (pc := 21) (fun s12 : Int32 => [some (.ref (ad 0)), some (.int s12)]) [] (fun self11 hself11 s12 => ?_) _ 0
      refine s_iload_n (pc := 21) (dc dl_X11_keepsAhead 12 rfl) rfl rfl ?_
      refine s_sipush (pc := 22) (v := 183) (dc dl_X11_keepsAhead 13 rfl) si_183 ?_
      refine s_aload_n (pc := 25) (dc dl_X11_keepsAhead 14 rfl) rfl rfl ?_
      refine s_getI (pc := 26) fl_X11_128 lk_Mo_0 kk_Mo_0_3 (dc dl_X11_keepsAhead 15 rfl) (fun v13 => ?_)
      refine s_imul (pc := 29) (dc dl_X11_keepsAhead 16 rfl) ?_
      refine s_icmp_ge (pc := 30) (tgt := 55) (dc dl_X11_keepsAhead 17 rfl) rfl ?_ ?_
      · exact s_wk (hj2 ()) rfl
      · refine s_aload_n (pc := 33) (dc dl_X11_keepsAhead 18 rfl) rfl rfl ?_
        refine s_getR (pc := 34) fl_X11_13 lk_Mo_0 kk_Mo_0_2 (dc dl_X11_keepsAhead 19 rfl) ?_
        refine s_iload_n (pc := 37) (dc dl_X11_keepsAhead 20 rfl) rfl rfl ?_
        refine s_aload_n (pc := 38) (dc dl_X11_keepsAhead 21 rfl) rfl rfl ?_
        refine s_getR (pc := 39) fl_X11_13 lk_Mo_0 kk_Mo_0_2 (dc dl_X11_keepsAhead 22 rfl) ?_
        refine s_iload_n (pc := 42) (dc dl_X11_keepsAhead 23 rfl) rfl rfl ?_
        refine s_sipush (pc := 43) (v := 183) (dc dl_X11_keepsAhead 24 rfl) si_183 ?_
        refine s_iadd (pc := 46) (dc dl_X11_keepsAhead 25 rfl) ?_
        refine s_iald (pc := 47) lk_Mo_2 (dc dl_X11_keepsAhead 26 rfl) (fun v14 => ?_)
        refine s_iast (pc := 48) lk_Mo_2 (dc dl_X11_keepsAhead 27 rfl) ?_
        refine s_iincL (pc := 49) (lf' := fun y15 => [some (.ref (ad 0)), some (.int y15)]) (dc dl_X11_keepsAhead 28 rfl) rfl rfl (Nat.le_of_ble_eq_true rfl) (fun _ => rfl) (fun y15 => ?_)
        refine s_goto (pc := 52) (tgt := 21) (dc dl_X11_keepsAhead 29 rfl) rfl ?_
        exact s_wk (hself11 y15) rfl
    · exact s_wk (hj2 ()) rfl
def gX11_undo : MM Int32 :=
  bd (sv 0 0 0) fun _ =>
  bd (ld 0 3) fun v1 =>
  (if v1 = 0 then
  rz 0
  else
  bd (ld 0 3) fun v2 =>
  bd (sv 0 3 (v2 - 1)) fun _ =>
  loopC 100000 (fun (self3 : Int32 → MM Int32) (s4 : Int32) =>
  (if 183 ≤ s4 then
  rz 1
  else
  bd (ld 0 3) fun v5 =>
  bd (la 2 ((183 * v5) + s4)) fun v6 =>
  bd (sa 1 s4 v6) fun _ =>
  lt (s4 + 1) fun y7 =>
  self3 y7)) 0)
set_option maxHeartbeats 4000000 in
theorem cn_X11_undo (l : Launch) (G : Gl) (hG : gOk G) (ad : Nat → Nat) : Cn l G mX11_undo 0 lay_Mo ad [.ref (ad 0)] (gX11_undo) := by
  refine cn_of (lv := [some (.ref (ad 0)), none]) (by decide +kernel) rfl (Nat.le_of_ble_eq_true rfl) rfl ?_
  unfold gX11_undo
  refine s_aload_n (pc := 0) (dc dl_X11_undo 0 rfl) rfl rfl ?_
  refine s_iconst (pc := 1) (v := 0) (dc dl_X11_undo 1 rfl) ic_0 ?_
  refine s_putI (pc := 2) fw_X11_125 lk_Mo_0 kk_Mo_0_0 (dc dl_X11_undo 2 rfl) ?_
  refine s_aload_n (pc := 5) (dc dl_X11_undo 3 rfl) rfl rfl ?_
  refine s_getI (pc := 6) fl_X11_128 lk_Mo_0 kk_Mo_0_3 (dc dl_X11_undo 4 rfl) (fun v1 => ?_)
  refine s_if_ne (pc := 9) (tgt := 14) (dc dl_X11_undo 5 rfl) rfl ?_ ?_
  · refine s_iconst (pc := 12) (v := 0) (dc dl_X11_undo 6 rfl) ic_0 ?_
    exact s_zreturn (pc := 13) rfl (dc dl_X11_undo 7 rfl)
  · refine s_aload_n (pc := 14) (dc dl_X11_undo 8 rfl) rfl rfl ?_
    refine s_aload_n (pc := 15) (dc dl_X11_undo 9 rfl) rfl rfl ?_
    refine s_getI (pc := 16) fl_X11_128 lk_Mo_0 kk_Mo_0_3 (dc dl_X11_undo 10 rfl) (fun v2 => ?_)
    refine s_iconst (pc := 19) (v := 1) (dc dl_X11_undo 11 rfl) ic_1 ?_
    refine s_isub (pc := 20) (dc dl_X11_undo 12 rfl) ?_
    refine s_putI (pc := 21) fw_X11_128 lk_Mo_0 kk_Mo_0_3 (dc dl_X11_undo 13 rfl) ?_
    refine s_iconst (pc := 24) (v := 0) (dc dl_X11_undo 14 rfl) ic_0 ?_
    refine s_istore_n (pc := 25) (lv' := [some (.ref (ad 0)), some (.int 0)]) (dc dl_X11_undo 15 rfl) rfl (Nat.le_of_ble_eq_true rfl) rfl ?_
    refine s_weak (lv' := [some (.ref (ad 0)), some (.int 0)]) rfl ?_
    refine s_loop (pc := 26) (fun s4 : Int32 => [some (.ref (ad 0)), some (.int s4)]) [] (fun self3 hself3 s4 => ?_) _ 0
    refine s_iload_n (pc := 26) (dc dl_X11_undo 16 rfl) rfl rfl ?_
    refine s_sipush (pc := 27) (v := 183) (dc dl_X11_undo 17 rfl) si_183 ?_
    refine s_icmp_ge (pc := 30) (tgt := 60) (dc dl_X11_undo 18 rfl) rfl ?_ ?_
    · refine s_iconst (pc := 60) (v := 1) (dc dl_X11_undo 34 rfl) ic_1 ?_
      exact s_zreturn (pc := 61) rfl (dc dl_X11_undo 35 rfl)
    · refine s_aload_n (pc := 33) (dc dl_X11_undo 19 rfl) rfl rfl ?_
      refine s_getR (pc := 34) fl_X11_7 lk_Mo_0 kk_Mo_0_1 (dc dl_X11_undo 20 rfl) ?_
      refine s_iload_n (pc := 37) (dc dl_X11_undo 21 rfl) rfl rfl ?_
      refine s_aload_n (pc := 38) (dc dl_X11_undo 22 rfl) rfl rfl ?_
      refine s_getR (pc := 39) fl_X11_13 lk_Mo_0 kk_Mo_0_2 (dc dl_X11_undo 23 rfl) ?_
      refine s_sipush (pc := 42) (v := 183) (dc dl_X11_undo 24 rfl) si_183 ?_
      refine s_aload_n (pc := 45) (dc dl_X11_undo 25 rfl) rfl rfl ?_
      refine s_getI (pc := 46) fl_X11_128 lk_Mo_0 kk_Mo_0_3 (dc dl_X11_undo 26 rfl) (fun v5 => ?_)
      refine s_imul (pc := 49) (dc dl_X11_undo 27 rfl) ?_
      refine s_iload_n (pc := 50) (dc dl_X11_undo 28 rfl) rfl rfl ?_
      refine s_iadd (pc := 51) (dc dl_X11_undo 29 rfl) ?_
      refine s_iald (pc := 52) lk_Mo_2 (dc dl_X11_undo 30 rfl) (fun v6 => ?_)
      refine s_iast (pc := 53) lk_Mo_1 (dc dl_X11_undo 31 rfl) ?_
      refine s_iincL (pc := 54) (lf' := fun y7 => [some (.ref (ad 0)), some (.int y7)]) (dc dl_X11_undo 32 rfl) rfl rfl (Nat.le_of_ble_eq_true rfl) (fun _ => rfl) (fun y7 => ?_)
      refine s_goto (pc := 57) (tgt := 26) (dc dl_X11_undo 33 rfl) rfl ?_
      exact s_wk (hself3 y7) rfl
def gX11_thinks : MM Int32 :=
  loopC 100000 (fun (self1 : Int32 → MM Int32) (s2 : Int32) =>
  (if 183 ≤ s2 then
  bd (svz 0 5 1) fun _ =>
  pr 0
  else
  bd (la 1 s2) fun v3 =>
  bd (sa 3 s2 v3) fun _ =>
  lt (s2 + 1) fun y4 =>
  self1 y4)) 0
set_option maxHeartbeats 4000000 in
theorem cn_X11_thinks (l : Launch) (G : Gl) (hG : gOk G) (ad : Nat → Nat) : Cn l G mX11_thinks 0 lay_Mo ad [.ref (ad 0)] (gX11_thinks) := by
  refine cn_of (lv := [some (.ref (ad 0)), none]) (by decide +kernel) rfl (Nat.le_of_ble_eq_true rfl) rfl ?_
  unfold gX11_thinks
  refine s_iconst (pc := 0) (v := 0) (dc dl_X11_thinks 0 rfl) ic_0 ?_
  refine s_istore_n (pc := 1) (lv' := [some (.ref (ad 0)), some (.int 0)]) (dc dl_X11_thinks 1 rfl) rfl (Nat.le_of_ble_eq_true rfl) rfl ?_
  refine s_weak (lv' := [some (.ref (ad 0)), some (.int 0)]) rfl ?_
  refine s_loop (pc := 2) (fun s2 : Int32 => [some (.ref (ad 0)), some (.int s2)]) [] (fun self1 hself1 s2 => ?_) _ 0
  refine s_iload_n (pc := 2) (dc dl_X11_thinks 2 rfl) rfl rfl ?_
  refine s_sipush (pc := 3) (v := 183) (dc dl_X11_thinks 3 rfl) si_183 ?_
  refine s_icmp_ge (pc := 6) (tgt := 27) (dc dl_X11_thinks 4 rfl) rfl ?_ ?_
  · refine s_aload_n (pc := 27) (dc dl_X11_thinks 15 rfl) rfl rfl ?_
    refine s_iconst (pc := 28) (v := 1) (dc dl_X11_thinks 16 rfl) ic_1 ?_
    refine s_putZ (pc := 29) fw_X11_131 lk_Mo_0 kk_Mo_0_5 (dc dl_X11_thinks 17 rfl) ?_
    exact s_return (pc := 32) rfl (dc dl_X11_thinks 18 rfl)
  · refine s_aload_n (pc := 9) (dc dl_X11_thinks 5 rfl) rfl rfl ?_
    refine s_getR (pc := 10) fl_X11_16 lk_Mo_0 kk_Mo_0_4 (dc dl_X11_thinks 6 rfl) ?_
    refine s_iload_n (pc := 13) (dc dl_X11_thinks 7 rfl) rfl rfl ?_
    refine s_aload_n (pc := 14) (dc dl_X11_thinks 8 rfl) rfl rfl ?_
    refine s_getR (pc := 15) fl_X11_7 lk_Mo_0 kk_Mo_0_1 (dc dl_X11_thinks 9 rfl) ?_
    refine s_iload_n (pc := 18) (dc dl_X11_thinks 10 rfl) rfl rfl ?_
    refine s_iald (pc := 19) lk_Mo_1 (dc dl_X11_thinks 11 rfl) (fun v3 => ?_)
    refine s_iast (pc := 20) lk_Mo_3 (dc dl_X11_thinks 12 rfl) ?_
    refine s_iincL (pc := 21) (lf' := fun y4 => [some (.ref (ad 0)), some (.int y4)]) (dc dl_X11_thinks 13 rfl) rfl rfl (Nat.le_of_ble_eq_true rfl) (fun _ => rfl) (fun y4 => ?_)
    refine s_goto (pc := 24) (tgt := 2) (dc dl_X11_thinks 14 rfl) rfl ?_
    exact s_wk (hself1 y4) rfl
def gX11_endsThought : MM Int32 :=
  loopC 100000 (fun (self1 : Int32 → MM Int32) (s2 : Int32) =>
  (if 183 ≤ s2 then
  bd (svz 0 5 0) fun _ =>
  pr 0
  else
  bd (la 3 s2) fun v3 =>
  bd (sa 1 s2 v3) fun _ =>
  lt (s2 + 1) fun y4 =>
  self1 y4)) 0
set_option maxHeartbeats 4000000 in
theorem cn_X11_endsThought (l : Launch) (G : Gl) (hG : gOk G) (ad : Nat → Nat) : Cn l G mX11_endsThought 0 lay_Mo ad [.ref (ad 0)] (gX11_endsThought) := by
  refine cn_of (lv := [some (.ref (ad 0)), none]) (by decide +kernel) rfl (Nat.le_of_ble_eq_true rfl) rfl ?_
  unfold gX11_endsThought
  refine s_iconst (pc := 0) (v := 0) (dc dl_X11_endsThought 0 rfl) ic_0 ?_
  refine s_istore_n (pc := 1) (lv' := [some (.ref (ad 0)), some (.int 0)]) (dc dl_X11_endsThought 1 rfl) rfl (Nat.le_of_ble_eq_true rfl) rfl ?_
  refine s_weak (lv' := [some (.ref (ad 0)), some (.int 0)]) rfl ?_
  refine s_loop (pc := 2) (fun s2 : Int32 => [some (.ref (ad 0)), some (.int s2)]) [] (fun self1 hself1 s2 => ?_) _ 0
  refine s_iload_n (pc := 2) (dc dl_X11_endsThought 2 rfl) rfl rfl ?_
  refine s_sipush (pc := 3) (v := 183) (dc dl_X11_endsThought 3 rfl) si_183 ?_
  refine s_icmp_ge (pc := 6) (tgt := 27) (dc dl_X11_endsThought 4 rfl) rfl ?_ ?_
  · refine s_aload_n (pc := 27) (dc dl_X11_endsThought 15 rfl) rfl rfl ?_
    refine s_iconst (pc := 28) (v := 0) (dc dl_X11_endsThought 16 rfl) ic_0 ?_
    refine s_putZ (pc := 29) fw_X11_131 lk_Mo_0 kk_Mo_0_5 (dc dl_X11_endsThought 17 rfl) ?_
    exact s_return (pc := 32) rfl (dc dl_X11_endsThought 18 rfl)
  · refine s_aload_n (pc := 9) (dc dl_X11_endsThought 5 rfl) rfl rfl ?_
    refine s_getR (pc := 10) fl_X11_7 lk_Mo_0 kk_Mo_0_1 (dc dl_X11_endsThought 6 rfl) ?_
    refine s_iload_n (pc := 13) (dc dl_X11_endsThought 7 rfl) rfl rfl ?_
    refine s_aload_n (pc := 14) (dc dl_X11_endsThought 8 rfl) rfl rfl ?_
    refine s_getR (pc := 15) fl_X11_16 lk_Mo_0 kk_Mo_0_4 (dc dl_X11_endsThought 9 rfl) ?_
    refine s_iload_n (pc := 18) (dc dl_X11_endsThought 10 rfl) rfl rfl ?_
    refine s_iald (pc := 19) lk_Mo_3 (dc dl_X11_endsThought 11 rfl) (fun v3 => ?_)
    refine s_iast (pc := 20) lk_Mo_1 (dc dl_X11_endsThought 12 rfl) ?_
    refine s_iincL (pc := 21) (lf' := fun y4 => [some (.ref (ad 0)), some (.int y4)]) (dc dl_X11_endsThought 13 rfl) rfl rfl (Nat.le_of_ble_eq_true rfl) (fun _ => rfl) (fun y4 => ?_)
    refine s_goto (pc := 24) (tgt := 2) (dc dl_X11_endsThought 14 rfl) rfl ?_
    exact s_wk (hself1 y4) rfl
def gX11_state (x1 : Int32) : MM Int32 :=
  bd (sv 0 0 0) fun _ =>
  bd (la 1 1) fun v1 =>
  bd (sa 1 1 x1) fun _ =>
  bd (sv 0 3 0) fun _ =>
  pr v1
set_option maxHeartbeats 4000000 in
theorem cn_X11_state (l : Launch) (G : Gl) (hG : gOk G) (ad : Nat → Nat) (x1 : Int32) : Cn l G mX11_state 0 lay_Mo ad [.ref (ad 0), .int x1] (gX11_state x1) := by
  refine cn_of (lv := [some (.ref (ad 0)), some (.int x1), none]) (by decide +kernel) rfl (Nat.le_of_ble_eq_true rfl) rfl ?_
  unfold gX11_state
  refine s_aload_n (pc := 0) (dc dl_X11_state 0 rfl) rfl rfl ?_
  refine s_iconst (pc := 1) (v := 0) (dc dl_X11_state 1 rfl) ic_0 ?_
  refine s_putI (pc := 2) fw_X11_125 lk_Mo_0 kk_Mo_0_0 (dc dl_X11_state 2 rfl) ?_
  refine s_aload_n (pc := 5) (dc dl_X11_state 3 rfl) rfl rfl ?_
  refine s_getR (pc := 6) fl_X11_7 lk_Mo_0 kk_Mo_0_1 (dc dl_X11_state 4 rfl) ?_
  refine s_iconst (pc := 9) (v := 1) (dc dl_X11_state 5 rfl) ic_1 ?_
  refine s_iald (pc := 10) lk_Mo_1 (dc dl_X11_state 6 rfl) (fun v1 => ?_)
  refine s_istore_n (pc := 11) (lv' := [some (.ref (ad 0)), some (.int x1), some (.int v1)]) (dc dl_X11_state 7 rfl) rfl (Nat.le_of_ble_eq_true rfl) rfl ?_
  refine s_aload_n (pc := 12) (dc dl_X11_state 8 rfl) rfl rfl ?_
  refine s_getR (pc := 13) fl_X11_7 lk_Mo_0 kk_Mo_0_1 (dc dl_X11_state 9 rfl) ?_
  refine s_iconst (pc := 16) (v := 1) (dc dl_X11_state 10 rfl) ic_1 ?_
  refine s_iload_n (pc := 17) (dc dl_X11_state 11 rfl) rfl rfl ?_
  refine s_iast (pc := 18) lk_Mo_1 (dc dl_X11_state 12 rfl) ?_
  refine s_aload_n (pc := 19) (dc dl_X11_state 13 rfl) rfl rfl ?_
  refine s_iconst (pc := 20) (v := 0) (dc dl_X11_state 14 rfl) ic_0 ?_
  refine s_putI (pc := 21) fw_X11_128 lk_Mo_0 kk_Mo_0_3 (dc dl_X11_state 15 rfl) ?_
  refine s_iload_n (pc := 24) (dc dl_X11_state 16 rfl) rfl rfl ?_
  exact s_ireturn (pc := 25) rfl (dc dl_X11_state 17 rfl)
def gX11_draw (x1 : Int32) : MM Int32 :=
  bd (la 1 1) fun v1 =>
  bd (sa 1 1 ((1664525 * v1) + 1013904223)) fun _ =>
  bd (la 1 1) fun v2 =>
  nz x1 (
  pr (irm (ish v2 8) x1))
set_option maxHeartbeats 4000000 in
theorem cn_X11_draw (l : Launch) (G : Gl) (hG : gOk G) (ad : Nat → Nat) (x1 : Int32) : Cn l G mX11_draw 0 lay_Mo ad [.ref (ad 0), .int x1] (gX11_draw x1) := by
  refine cn_of (lv := [some (.ref (ad 0)), some (.int x1)]) (by decide +kernel) rfl (Nat.le_of_ble_eq_true rfl) rfl ?_
  unfold gX11_draw
  refine s_aload_n (pc := 0) (dc dl_X11_draw 0 rfl) rfl rfl ?_
  refine s_getR (pc := 1) fl_X11_7 lk_Mo_0 kk_Mo_0_1 (dc dl_X11_draw 1 rfl) ?_
  refine s_iconst (pc := 4) (v := 1) (dc dl_X11_draw 2 rfl) ic_1 ?_
  refine s_ldc (pc := 5) (v := 1664525) ct_X11_135 (dc dl_X11_draw 3 rfl) ?_
  refine s_aload_n (pc := 7) (dc dl_X11_draw 4 rfl) rfl rfl ?_
  refine s_getR (pc := 8) fl_X11_7 lk_Mo_0 kk_Mo_0_1 (dc dl_X11_draw 5 rfl) ?_
  refine s_iconst (pc := 11) (v := 1) (dc dl_X11_draw 6 rfl) ic_1 ?_
  refine s_iald (pc := 12) lk_Mo_1 (dc dl_X11_draw 7 rfl) (fun v1 => ?_)
  refine s_imul (pc := 13) (dc dl_X11_draw 8 rfl) ?_
  refine s_ldc (pc := 14) (v := 1013904223) ct_X11_136 (dc dl_X11_draw 9 rfl) ?_
  refine s_iadd (pc := 16) (dc dl_X11_draw 10 rfl) ?_
  refine s_iast (pc := 17) lk_Mo_1 (dc dl_X11_draw 11 rfl) ?_
  refine s_aload_n (pc := 18) (dc dl_X11_draw 12 rfl) rfl rfl ?_
  refine s_getR (pc := 19) fl_X11_7 lk_Mo_0 kk_Mo_0_1 (dc dl_X11_draw 13 rfl) ?_
  refine s_iconst (pc := 22) (v := 1) (dc dl_X11_draw 14 rfl) ic_1 ?_
  refine s_iald (pc := 23) lk_Mo_1 (dc dl_X11_draw 15 rfl) (fun v2 => ?_)
  refine s_bipush (pc := 24) (v := 8) (dc dl_X11_draw 16 rfl) bi_8 ?_
  refine s_iushr (pc := 26) (dc dl_X11_draw 17 rfl) ?_
  refine s_iload_n (pc := 27) (dc dl_X11_draw 18 rfl) rfl rfl ?_
  refine s_irem (pc := 28) (dc dl_X11_draw 19 rfl) ?_
  exact s_ireturn (pc := 29) rfl (dc dl_X11_draw 20 rfl)
def gX11_isPerson (x1 : Int32) : MM Int32 :=
  jn (fun (a2 : Int32) =>
  rz a2) (fun j1 =>
  jn (fun (a4 : Unit) =>
  j1 0) (fun j3 =>
  (if x1 < 0 then
  j3 ()
  else
  bd (ld 0 6) fun v5 =>
  (if v5 ≤ x1 then
  j3 ()
  else
  j1 1))))
set_option maxHeartbeats 4000000 in
theorem cn_X11_isPerson (l : Launch) (G : Gl) (hG : gOk G) (ad : Nat → Nat) (x1 : Int32) : Cn l G mX11_isPerson 0 lay_Mo ad [.ref (ad 0), .int x1] (gX11_isPerson x1) := by
  refine cn_of (lv := [some (.ref (ad 0)), some (.int x1)]) (by decide +kernel) rfl (Nat.le_of_ble_eq_true rfl) rfl ?_
  unfold gX11_isPerson
  refine s_iload_n (pc := 0) (dc dl_X11_isPerson 0 rfl) rfl rfl ?_
  refine s_jn (pj := 17) (fun a2 : Int32 => [none, none]) (fun a2 : Int32 => [.int a2]) (fun a2 => ?_) (fun j1 hj1 => ?_)
  · exact s_zreturn (pc := 17) rfl (dc dl_X11_isPerson 9 rfl)
  · refine s_jn (pj := 16) (fun a4 : Unit => [none, none]) (fun a4 : Unit => []) (fun a4 => ?_) (fun j3 hj3 => ?_)
    · refine s_iconst (pc := 16) (v := 0) (dc dl_X11_isPerson 8 rfl) ic_0 ?_
      exact s_wk (hj1 0) rfl
    · refine s_if_lt (pc := 1) (tgt := 16) (dc dl_X11_isPerson 1 rfl) rfl ?_ ?_
      · exact s_wk (hj3 ()) rfl
      · refine s_iload_n (pc := 4) (dc dl_X11_isPerson 2 rfl) rfl rfl ?_
        refine s_aload_n (pc := 5) (dc dl_X11_isPerson 3 rfl) rfl rfl ?_
        refine s_getI (pc := 6) fl_X11_137 lk_Mo_0 kk_Mo_0_6 (dc dl_X11_isPerson 4 rfl) (fun v5 => ?_)
        refine s_icmp_ge (pc := 9) (tgt := 16) (dc dl_X11_isPerson 5 rfl) rfl ?_ ?_
        · exact s_wk (hj3 ()) rfl
        · refine s_iconst (pc := 12) (v := 1) (dc dl_X11_isPerson 6 rfl) ic_1 ?_
          refine s_goto (pc := 13) (tgt := 17) (dc dl_X11_isPerson 7 rfl) rfl ?_
          exact s_wk (hj1 1) rfl
def gX11_isCloth (x1 : Int32) : MM Int32 :=
  jn (fun (a2 : Int32) =>
  rz a2) (fun j1 =>
  jn (fun (a4 : Unit) =>
  j1 0) (fun j3 =>
  (if x1 < 0 then
  j3 ()
  else
  bd (ld 0 7) fun v5 =>
  (if v5 ≤ x1 then
  j3 ()
  else
  j1 1))))
set_option maxHeartbeats 4000000 in
theorem cn_X11_isCloth (l : Launch) (G : Gl) (hG : gOk G) (ad : Nat → Nat) (x1 : Int32) : Cn l G mX11_isCloth 0 lay_Mo ad [.ref (ad 0), .int x1] (gX11_isCloth x1) := by
  refine cn_of (lv := [some (.ref (ad 0)), some (.int x1)]) (by decide +kernel) rfl (Nat.le_of_ble_eq_true rfl) rfl ?_
  unfold gX11_isCloth
  refine s_iload_n (pc := 0) (dc dl_X11_isCloth 0 rfl) rfl rfl ?_
  refine s_jn (pj := 17) (fun a2 : Int32 => [none, none]) (fun a2 : Int32 => [.int a2]) (fun a2 => ?_) (fun j1 hj1 => ?_)
  · exact s_zreturn (pc := 17) rfl (dc dl_X11_isCloth 9 rfl)
  · refine s_jn (pj := 16) (fun a4 : Unit => [none, none]) (fun a4 : Unit => []) (fun a4 => ?_) (fun j3 hj3 => ?_)
    · refine s_iconst (pc := 16) (v := 0) (dc dl_X11_isCloth 8 rfl) ic_0 ?_
      exact s_wk (hj1 0) rfl
    · refine s_if_lt (pc := 1) (tgt := 16) (dc dl_X11_isCloth 1 rfl) rfl ?_ ?_
      · exact s_wk (hj3 ()) rfl
      · refine s_iload_n (pc := 4) (dc dl_X11_isCloth 2 rfl) rfl rfl ?_
        refine s_aload_n (pc := 5) (dc dl_X11_isCloth 3 rfl) rfl rfl ?_
        refine s_getI (pc := 6) fl_X11_140 lk_Mo_0 kk_Mo_0_7 (dc dl_X11_isCloth 4 rfl) (fun v5 => ?_)
        refine s_icmp_ge (pc := 9) (tgt := 16) (dc dl_X11_isCloth 5 rfl) rfl ?_ ?_
        · exact s_wk (hj3 ()) rfl
        · refine s_iconst (pc := 12) (v := 1) (dc dl_X11_isCloth 6 rfl) ic_1 ?_
          refine s_goto (pc := 13) (tgt := 17) (dc dl_X11_isCloth 7 rfl) rfl ?_
          exact s_wk (hj1 1) rfl
def gX11_isThing (x1 : Int32) : MM Int32 :=
  jn (fun (a2 : Int32) =>
  rz a2) (fun j1 =>
  jn (fun (a4 : Unit) =>
  j1 0) (fun j3 =>
  (if x1 < 0 then
  j3 ()
  else
  bd (ld 0 8) fun v5 =>
  (if v5 ≤ x1 then
  j3 ()
  else
  j1 1))))
set_option maxHeartbeats 4000000 in
theorem cn_X11_isThing (l : Launch) (G : Gl) (hG : gOk G) (ad : Nat → Nat) (x1 : Int32) : Cn l G mX11_isThing 0 lay_Mo ad [.ref (ad 0), .int x1] (gX11_isThing x1) := by
  refine cn_of (lv := [some (.ref (ad 0)), some (.int x1)]) (by decide +kernel) rfl (Nat.le_of_ble_eq_true rfl) rfl ?_
  unfold gX11_isThing
  refine s_iload_n (pc := 0) (dc dl_X11_isThing 0 rfl) rfl rfl ?_
  refine s_jn (pj := 17) (fun a2 : Int32 => [none, none]) (fun a2 : Int32 => [.int a2]) (fun a2 => ?_) (fun j1 hj1 => ?_)
  · exact s_zreturn (pc := 17) rfl (dc dl_X11_isThing 9 rfl)
  · refine s_jn (pj := 16) (fun a4 : Unit => [none, none]) (fun a4 : Unit => []) (fun a4 => ?_) (fun j3 hj3 => ?_)
    · refine s_iconst (pc := 16) (v := 0) (dc dl_X11_isThing 8 rfl) ic_0 ?_
      exact s_wk (hj1 0) rfl
    · refine s_if_lt (pc := 1) (tgt := 16) (dc dl_X11_isThing 1 rfl) rfl ?_ ?_
      · exact s_wk (hj3 ()) rfl
      · refine s_iload_n (pc := 4) (dc dl_X11_isThing 2 rfl) rfl rfl ?_
        refine s_aload_n (pc := 5) (dc dl_X11_isThing 3 rfl) rfl rfl ?_
        refine s_getI (pc := 6) fl_X11_143 lk_Mo_0 kk_Mo_0_8 (dc dl_X11_isThing 4 rfl) (fun v5 => ?_)
        refine s_icmp_ge (pc := 9) (tgt := 16) (dc dl_X11_isThing 5 rfl) rfl ?_ ?_
        · exact s_wk (hj3 ()) rfl
        · refine s_iconst (pc := 12) (v := 1) (dc dl_X11_isThing 6 rfl) ic_1 ?_
          refine s_goto (pc := 13) (tgt := 17) (dc dl_X11_isThing 7 rfl) rfl ?_
          exact s_wk (hj1 1) rfl
def gX11_isOpen (x1 : Int32) : MM Int32 :=
  bd (la 1 (163 + x1)) fun v1 =>
  jn (fun (a3 : Int32) =>
  rz a3) (fun j2 =>
  (if v1 = 0 then
  j2 1
  else
  j2 0))
set_option maxHeartbeats 4000000 in
theorem cn_X11_isOpen (l : Launch) (G : Gl) (hG : gOk G) (ad : Nat → Nat) (x1 : Int32) : Cn l G mX11_isOpen 0 lay_Mo ad [.ref (ad 0), .int x1] (gX11_isOpen x1) := by
  refine cn_of (lv := [some (.ref (ad 0)), some (.int x1)]) (by decide +kernel) rfl (Nat.le_of_ble_eq_true rfl) rfl ?_
  unfold gX11_isOpen
  refine s_aload_n (pc := 0) (dc dl_X11_isOpen 0 rfl) rfl rfl ?_
  refine s_getR (pc := 1) fl_X11_7 lk_Mo_0 kk_Mo_0_1 (dc dl_X11_isOpen 1 rfl) ?_
  refine s_sipush (pc := 4) (v := 163) (dc dl_X11_isOpen 2 rfl) si_163 ?_
  refine s_iload_n (pc := 7) (dc dl_X11_isOpen 3 rfl) rfl rfl ?_
  refine s_iadd (pc := 8) (dc dl_X11_isOpen 4 rfl) ?_
  refine s_iald (pc := 9) lk_Mo_1 (dc dl_X11_isOpen 5 rfl) (fun v1 => ?_)
  refine s_jn (pj := 18) (fun a3 : Int32 => [none, none]) (fun a3 : Int32 => [.int a3]) (fun a3 => ?_) (fun j2 hj2 => ?_)
  · exact s_zreturn (pc := 18) rfl (dc dl_X11_isOpen 10 rfl)
  · refine s_if_ne (pc := 10) (tgt := 17) (dc dl_X11_isOpen 6 rfl) rfl ?_ ?_
    · refine s_iconst (pc := 13) (v := 1) (dc dl_X11_isOpen 7 rfl) ic_1 ?_
      refine s_goto (pc := 14) (tgt := 18) (dc dl_X11_isOpen 8 rfl) rfl ?_
      exact s_wk (hj2 1) rfl
    · refine s_iconst (pc := 17) (v := 0) (dc dl_X11_isOpen 9 rfl) ic_0 ?_
      exact s_wk (hj2 0) rfl
def gX11_inCloth (x1 : Int32) : MM Int32 :=
  bd (la 1 (123 + x1)) fun v1 =>
  pr (v1 - 1)
set_option maxHeartbeats 4000000 in
theorem cn_X11_inCloth (l : Launch) (G : Gl) (hG : gOk G) (ad : Nat → Nat) (x1 : Int32) : Cn l G mX11_inCloth 0 lay_Mo ad [.ref (ad 0), .int x1] (gX11_inCloth x1) := by
  refine cn_of (lv := [some (.ref (ad 0)), some (.int x1)]) (by decide +kernel) rfl (Nat.le_of_ble_eq_true rfl) rfl ?_
  unfold gX11_inCloth
  refine s_aload_n (pc := 0) (dc dl_X11_inCloth 0 rfl) rfl rfl ?_
  refine s_getR (pc := 1) fl_X11_7 lk_Mo_0 kk_Mo_0_1 (dc dl_X11_inCloth 1 rfl) ?_
  refine s_bipush (pc := 4) (v := 123) (dc dl_X11_inCloth 2 rfl) bi_123 ?_
  refine s_iload_n (pc := 6) (dc dl_X11_inCloth 3 rfl) rfl rfl ?_
  refine s_iadd (pc := 7) (dc dl_X11_inCloth 4 rfl) ?_
  refine s_iald (pc := 8) lk_Mo_1 (dc dl_X11_inCloth 5 rfl) (fun v1 => ?_)
  refine s_iconst (pc := 9) (v := 1) (dc dl_X11_inCloth 6 rfl) ic_1 ?_
  refine s_isub (pc := 10) (dc dl_X11_inCloth 7 rfl) ?_
  exact s_ireturn (pc := 11) rfl (dc dl_X11_inCloth 8 rfl)
def gX11_knotOf (x1 x2 : Int32) : MM Int32 :=
  bd (la 1 ((67 + (4 * x1)) + x2)) fun v1 =>
  pr (v1 - 1)
set_option maxHeartbeats 4000000 in
theorem cn_X11_knotOf (l : Launch) (G : Gl) (hG : gOk G) (ad : Nat → Nat) (x1 x2 : Int32) : Cn l G mX11_knotOf 0 lay_Mo ad [.ref (ad 0), .int x1, .int x2] (gX11_knotOf x1 x2) := by
  refine cn_of (lv := [some (.ref (ad 0)), some (.int x1), some (.int x2)]) (by decide +kernel) rfl (Nat.le_of_ble_eq_true rfl) rfl ?_
  unfold gX11_knotOf
  refine s_aload_n (pc := 0) (dc dl_X11_knotOf 0 rfl) rfl rfl ?_
  refine s_getR (pc := 1) fl_X11_7 lk_Mo_0 kk_Mo_0_1 (dc dl_X11_knotOf 1 rfl) ?_
  refine s_bipush (pc := 4) (v := 67) (dc dl_X11_knotOf 2 rfl) bi_67 ?_
  refine s_iconst (pc := 6) (v := 4) (dc dl_X11_knotOf 3 rfl) ic_4 ?_
  refine s_iload_n (pc := 7) (dc dl_X11_knotOf 4 rfl) rfl rfl ?_
  refine s_imul (pc := 8) (dc dl_X11_knotOf 5 rfl) ?_
  refine s_iadd (pc := 9) (dc dl_X11_knotOf 6 rfl) ?_
  refine s_iload_n (pc := 10) (dc dl_X11_knotOf 7 rfl) rfl rfl ?_
  refine s_iadd (pc := 11) (dc dl_X11_knotOf 8 rfl) ?_
  refine s_iald (pc := 12) lk_Mo_1 (dc dl_X11_knotOf 9 rfl) (fun v1 => ?_)
  refine s_iconst (pc := 13) (v := 1) (dc dl_X11_knotOf 10 rfl) ic_1 ?_
  refine s_isub (pc := 14) (dc dl_X11_knotOf 11 rfl) ?_
  exact s_ireturn (pc := 15) rfl (dc dl_X11_knotOf 12 rfl)
def gX11_knotsOf (x1 : Int32) : MM Int32 :=
  loopC 100000 (fun (self1 : Int32 → MM Int32) (s2 : Int32) =>
  jn (fun (a4 : Unit) =>
  pr s2) (fun j3 =>
  (if 4 ≤ s2 then
  j3 ()
  else
  bd (gX11_knotOf x1 s2) fun r5 =>
  (if r5 = ((-1)) then
  j3 ()
  else
  lt (s2 + 1) fun y6 =>
  self1 y6)))) 0
set_option maxHeartbeats 4000000 in
theorem cn_X11_knotsOf (l : Launch) (G : Gl) (hG : gOk G) (ad : Nat → Nat) (x1 : Int32) : Cn l G mX11_knotsOf 1 lay_Mo ad [.ref (ad 0), .int x1] (gX11_knotsOf x1) := by
  refine cn_of (lv := [some (.ref (ad 0)), some (.int x1), none]) (by decide +kernel) rfl (Nat.le_of_ble_eq_true rfl) rfl ?_
  unfold gX11_knotsOf
  refine s_iconst (pc := 0) (v := 0) (dc dl_X11_knotsOf 0 rfl) ic_0 ?_
  refine s_istore_n (pc := 1) (lv' := [some (.ref (ad 0)), some (.int x1), some (.int 0)]) (dc dl_X11_knotsOf 1 rfl) rfl (Nat.le_of_ble_eq_true rfl) rfl ?_
  refine s_weak (lv' := [some (.ref (ad 0)), some (.int x1), some (.int 0)]) rfl ?_
  refine s_loop (pc := 2) (fun s2 : Int32 => [some (.ref (ad 0)), some (.int x1), some (.int s2)]) [] (fun self1 hself1 s2 => ?_) _ 0
  refine s_iload_n (pc := 2) (dc dl_X11_knotsOf 2 rfl) rfl rfl ?_
  refine s_iconst (pc := 3) (v := 4) (dc dl_X11_knotsOf 3 rfl) ic_4 ?_
  refine s_jn (pj := 24) (fun a4 : Unit => [none, none, some (.int s2)]) (fun a4 : Unit => []) (fun a4 => ?_) (fun j3 hj3 => ?_)
  · refine s_iload_n (pc := 24) (dc dl_X11_knotsOf 16 rfl) rfl rfl ?_
    exact s_ireturn (pc := 25) rfl (dc dl_X11_knotsOf 17 rfl)
  · refine s_icmp_ge (pc := 4) (tgt := 24) (dc dl_X11_knotsOf 4 rfl) rfl ?_ ?_
    · exact s_wk (hj3 ()) rfl
    · refine s_aload_n (pc := 7) (dc dl_X11_knotsOf 5 rfl) rfl rfl ?_
      refine s_iload_n (pc := 8) (dc dl_X11_knotsOf 6 rfl) rfl rfl ?_
      refine s_iload_n (pc := 9) (dc dl_X11_knotsOf 7 rfl) rfl rfl ?_
      refine s_call (pc := 10) (rest := []) hG (calls_V (mi := mX11_knotsOf) (o := 0) (As := [.int x1, .int s2]) (rest := []) hG (dc dl_X11_knotsOf 8 rfl) mo_X11_knotOf mv_X11_knotOf ml_X11_146 ⟨Nat.le_of_ble_eq_true rfl, Nat.le_of_ble_eq_true rfl⟩ rfl rfl (Nat.le_of_ble_eq_true rfl) lk_Mo_0 rfl) (cn_X11_knotOf l G hG ad x1 s2) rfl (fun r5 => ?_)
      refine s_iconst (pc := 13) (v := (-1)) (dc dl_X11_knotsOf 9 rfl) ic_m1 ?_
      refine s_icmp_eq (pc := 14) (tgt := 24) (dc dl_X11_knotsOf 10 rfl) rfl ?_ ?_
      · exact s_wk (hj3 ()) rfl
      · refine s_iload_n (pc := 17) (dc dl_X11_knotsOf 11 rfl) rfl rfl ?_
        refine s_iconst (pc := 18) (v := 1) (dc dl_X11_knotsOf 12 rfl) ic_1 ?_
        refine s_iadd (pc := 19) (dc dl_X11_knotsOf 13 rfl) ?_
        refine s_istore_nL (pc := 20) (lf' := fun y6 => [some (.ref (ad 0)), some (.int x1), some (.int y6)]) (dc dl_X11_knotsOf 14 rfl) rfl (Nat.le_of_ble_eq_true rfl) (fun _ => rfl) (fun y6 => ?_)
        refine s_goto (pc := 21) (tgt := 2) (dc dl_X11_knotsOf 15 rfl) rfl ?_
        exact s_wk (hself1 y6) rfl
def gX11_person (x1 : Int32) : MM Int32 :=
  bd (sv 0 0 0) fun _ =>
  bd (gX11_isIn x1 0 9) fun r1 =>
  jn (fun (a3 : Unit) =>
  pr ((-1))) (fun j2 =>
  (if r1 = 0 then
  j2 ()
  else
  bd (ld 0 6) fun v4 =>
  (if v4 = 12 then
  j2 ()
  else
  bd (ld 0 6) fun v5 =>
  bd (sa 1 (3 + v5) x1) fun _ =>
  bd (ld 0 6) fun v6 =>
  bd (sa 1 (15 + v6) 0) fun _ =>
  bd (ld 0 6) fun v7 =>
  bd (sa 1 (27 + v7) 0) fun _ =>
  bd (ld 0 6) fun v8 =>
  bd (sv 0 6 (v8 + 1)) fun _ =>
  bd (sv 0 3 0) fun _ =>
  bd (ld 0 6) fun v9 =>
  pr (v9 - 1))))
set_option maxHeartbeats 4000000 in
theorem cn_X11_person (l : Launch) (G : Gl) (hG : gOk G) (ad : Nat → Nat) (x1 : Int32) : Cn l G mX11_person 1 lay_Mo ad [.ref (ad 0), .int x1] (gX11_person x1) := by
  refine cn_of (lv := [some (.ref (ad 0)), some (.int x1)]) (by decide +kernel) rfl (Nat.le_of_ble_eq_true rfl) rfl ?_
  unfold gX11_person
  refine s_aload_n (pc := 0) (dc dl_X11_person 0 rfl) rfl rfl ?_
  refine s_iconst (pc := 1) (v := 0) (dc dl_X11_person 1 rfl) ic_0 ?_
  refine s_putI (pc := 2) fw_X11_125 lk_Mo_0 kk_Mo_0_0 (dc dl_X11_person 2 rfl) ?_
  refine s_aload_n (pc := 5) (dc dl_X11_person 3 rfl) rfl rfl ?_
  refine s_iload_n (pc := 6) (dc dl_X11_person 4 rfl) rfl rfl ?_
  refine s_iconst (pc := 7) (v := 0) (dc dl_X11_person 5 rfl) ic_0 ?_
  refine s_bipush (pc := 8) (v := 9) (dc dl_X11_person 6 rfl) bi_9 ?_
  refine s_call (pc := 10) (rest := []) hG (calls_V (mi := mX11_person) (o := 0) (As := [.int x1, .int 0, .int 9]) (rest := []) hG (dc dl_X11_person 7 rfl) mo_X11_isIn mv_X11_isIn ml_X11_150 ⟨Nat.le_of_ble_eq_true rfl, Nat.le_of_ble_eq_true rfl⟩ rfl rfl (Nat.le_of_ble_eq_true rfl) lk_Mo_0 rfl) (cn_X11_isIn l G hG ad x1 0 9) rfl (fun r1 => ?_)
  refine s_jn (pj := 25) (fun a3 : Unit => [none, none]) (fun a3 : Unit => []) (fun a3 => ?_) (fun j2 hj2 => ?_)
  · refine s_iconst (pc := 25) (v := (-1)) (dc dl_X11_person 13 rfl) ic_m1 ?_
    exact s_ireturn (pc := 26) rfl (dc dl_X11_person 14 rfl)
  · refine s_if_eq (pc := 13) (tgt := 25) (dc dl_X11_person 8 rfl) rfl ?_ ?_
    · exact s_wk (hj2 ()) rfl
    · refine s_aload_n (pc := 16) (dc dl_X11_person 9 rfl) rfl rfl ?_
      refine s_getI (pc := 17) fl_X11_137 lk_Mo_0 kk_Mo_0_6 (dc dl_X11_person 10 rfl) (fun v4 => ?_)
      refine s_bipush (pc := 20) (v := 12) (dc dl_X11_person 11 rfl) bi_12 ?_
      refine s_icmp_ne (pc := 22) (tgt := 27) (dc dl_X11_person 12 rfl) rfl ?_ ?_
      · exact s_wk (hj2 ()) rfl
      · refine s_aload_n (pc := 27) (dc dl_X11_person 15 rfl) rfl rfl ?_
        refine s_getR (pc := 28) fl_X11_7 lk_Mo_0 kk_Mo_0_1 (dc dl_X11_person 16 rfl) ?_
        refine s_iconst (pc := 31) (v := 3) (dc dl_X11_person 17 rfl) ic_3 ?_
        refine s_aload_n (pc := 32) (dc dl_X11_person 18 rfl) rfl rfl ?_
        refine s_getI (pc := 33) fl_X11_137 lk_Mo_0 kk_Mo_0_6 (dc dl_X11_person 19 rfl) (fun v5 => ?_)
        refine s_iadd (pc := 36) (dc dl_X11_person 20 rfl) ?_
        refine s_iload_n (pc := 37) (dc dl_X11_person 21 rfl) rfl rfl ?_
        refine s_iast (pc := 38) lk_Mo_1 (dc dl_X11_person 22 rfl) ?_
        refine s_aload_n (pc := 39) (dc dl_X11_person 23 rfl) rfl rfl ?_
        refine s_getR (pc := 40) fl_X11_7 lk_Mo_0 kk_Mo_0_1 (dc dl_X11_person 24 rfl) ?_
        refine s_bipush (pc := 43) (v := 15) (dc dl_X11_person 25 rfl) bi_15 ?_
        refine s_aload_n (pc := 45) (dc dl_X11_person 26 rfl) rfl rfl ?_
        refine s_getI (pc := 46) fl_X11_137 lk_Mo_0 kk_Mo_0_6 (dc dl_X11_person 27 rfl) (fun v6 => ?_)
        refine s_iadd (pc := 49) (dc dl_X11_person 28 rfl) ?_
        refine s_iconst (pc := 50) (v := 0) (dc dl_X11_person 29 rfl) ic_0 ?_
        refine s_iast (pc := 51) lk_Mo_1 (dc dl_X11_person 30 rfl) ?_
        refine s_aload_n (pc := 52) (dc dl_X11_person 31 rfl) rfl rfl ?_
        refine s_getR (pc := 53) fl_X11_7 lk_Mo_0 kk_Mo_0_1 (dc dl_X11_person 32 rfl) ?_
        refine s_bipush (pc := 56) (v := 27) (dc dl_X11_person 33 rfl) bi_27 ?_
        refine s_aload_n (pc := 58) (dc dl_X11_person 34 rfl) rfl rfl ?_
        refine s_getI (pc := 59) fl_X11_137 lk_Mo_0 kk_Mo_0_6 (dc dl_X11_person 35 rfl) (fun v7 => ?_)
        refine s_iadd (pc := 62) (dc dl_X11_person 36 rfl) ?_
        refine s_iconst (pc := 63) (v := 0) (dc dl_X11_person 37 rfl) ic_0 ?_
        refine s_iast (pc := 64) lk_Mo_1 (dc dl_X11_person 38 rfl) ?_
        refine s_aload_n (pc := 65) (dc dl_X11_person 39 rfl) rfl rfl ?_
        refine s_aload_n (pc := 66) (dc dl_X11_person 40 rfl) rfl rfl ?_
        refine s_getI (pc := 67) fl_X11_137 lk_Mo_0 kk_Mo_0_6 (dc dl_X11_person 41 rfl) (fun v8 => ?_)
        refine s_iconst (pc := 70) (v := 1) (dc dl_X11_person 42 rfl) ic_1 ?_
        refine s_iadd (pc := 71) (dc dl_X11_person 43 rfl) ?_
        refine s_putI (pc := 72) fw_X11_137 lk_Mo_0 kk_Mo_0_6 (dc dl_X11_person 44 rfl) ?_
        refine s_aload_n (pc := 75) (dc dl_X11_person 45 rfl) rfl rfl ?_
        refine s_iconst (pc := 76) (v := 0) (dc dl_X11_person 46 rfl) ic_0 ?_
        refine s_putI (pc := 77) fw_X11_128 lk_Mo_0 kk_Mo_0_3 (dc dl_X11_person 47 rfl) ?_
        refine s_aload_n (pc := 80) (dc dl_X11_person 48 rfl) rfl rfl ?_
        refine s_getI (pc := 81) fl_X11_137 lk_Mo_0 kk_Mo_0_6 (dc dl_X11_person 49 rfl) (fun v9 => ?_)
        refine s_iconst (pc := 84) (v := 1) (dc dl_X11_person 50 rfl) ic_1 ?_
        refine s_isub (pc := 85) (dc dl_X11_person 51 rfl) ?_
        exact s_ireturn (pc := 86) rfl (dc dl_X11_person 52 rfl)
def gX11_cloth (x1 : Int32) : MM Int32 :=
  bd (sv 0 0 0) fun _ =>
  bd (gX11_isPerson x1) fun r1 =>
  jn (fun (a3 : Unit) =>
  pr ((-1))) (fun j2 =>
  (if r1 = 0 then
  j2 ()
  else
  bd (ld 0 7) fun v4 =>
  (if v4 = 14 then
  j2 ()
  else
  bd (ld 0 7) fun v5 =>
  bd (sa 1 (39 + v5) x1) fun _ =>
  bd (ld 0 7) fun v6 =>
  bd (sa 1 (53 + v6) 0) fun _ =>
  loopC 100000 (fun (self7 : Int32 → MM Int32) (s8 : Int32) =>
  (if 4 ≤ s8 then
  bd (ld 0 7) fun v9 =>
  bd (sv 0 7 (v9 + 1)) fun _ =>
  bd (sv 0 3 0) fun _ =>
  bd (ld 0 7) fun v10 =>
  pr (v10 - 1)
  else
  bd (ld 0 7) fun v11 =>
  bd (sa 1 ((67 + (4 * v11)) + s8) 0) fun _ =>
  lt (s8 + 1) fun y12 =>
  self7 y12)) 0)))
set_option maxHeartbeats 4000000 in
theorem cn_X11_cloth (l : Launch) (G : Gl) (hG : gOk G) (ad : Nat → Nat) (x1 : Int32) : Cn l G mX11_cloth 1 lay_Mo ad [.ref (ad 0), .int x1] (gX11_cloth x1) := by
  refine cn_of (lv := [some (.ref (ad 0)), some (.int x1), none]) (by decide +kernel) rfl (Nat.le_of_ble_eq_true rfl) rfl ?_
  unfold gX11_cloth
  refine s_aload_n (pc := 0) (dc dl_X11_cloth 0 rfl) rfl rfl ?_
  refine s_iconst (pc := 1) (v := 0) (dc dl_X11_cloth 1 rfl) ic_0 ?_
  refine s_putI (pc := 2) fw_X11_125 lk_Mo_0 kk_Mo_0_0 (dc dl_X11_cloth 2 rfl) ?_
  refine s_aload_n (pc := 5) (dc dl_X11_cloth 3 rfl) rfl rfl ?_
  refine s_iload_n (pc := 6) (dc dl_X11_cloth 4 rfl) rfl rfl ?_
  refine s_call (pc := 7) (rest := []) hG (calls_V (mi := mX11_cloth) (o := 0) (As := [.int x1]) (rest := []) hG (dc dl_X11_cloth 5 rfl) mo_X11_isPerson mv_X11_isPerson ml_X11_154 ⟨Nat.le_of_ble_eq_true rfl, Nat.le_of_ble_eq_true rfl⟩ rfl rfl (Nat.le_of_ble_eq_true rfl) lk_Mo_0 rfl) (cn_X11_isPerson l G hG ad x1) rfl (fun r1 => ?_)
  refine s_jn (pj := 22) (fun a3 : Unit => [none, none, none]) (fun a3 : Unit => []) (fun a3 => ?_) (fun j2 hj2 => ?_)
  · refine s_iconst (pc := 22) (v := (-1)) (dc dl_X11_cloth 11 rfl) ic_m1 ?_
    exact s_ireturn (pc := 23) rfl (dc dl_X11_cloth 12 rfl)
  · refine s_if_eq (pc := 10) (tgt := 22) (dc dl_X11_cloth 6 rfl) rfl ?_ ?_
    · exact s_wk (hj2 ()) rfl
    · refine s_aload_n (pc := 13) (dc dl_X11_cloth 7 rfl) rfl rfl ?_
      refine s_getI (pc := 14) fl_X11_140 lk_Mo_0 kk_Mo_0_7 (dc dl_X11_cloth 8 rfl) (fun v4 => ?_)
      refine s_bipush (pc := 17) (v := 14) (dc dl_X11_cloth 9 rfl) bi_14 ?_
      refine s_icmp_ne (pc := 19) (tgt := 24) (dc dl_X11_cloth 10 rfl) rfl ?_ ?_
      · exact s_wk (hj2 ()) rfl
      · refine s_aload_n (pc := 24) (dc dl_X11_cloth 13 rfl) rfl rfl ?_
        refine s_getR (pc := 25) fl_X11_7 lk_Mo_0 kk_Mo_0_1 (dc dl_X11_cloth 14 rfl) ?_
        refine s_bipush (pc := 28) (v := 39) (dc dl_X11_cloth 15 rfl) bi_39 ?_
        refine s_aload_n (pc := 30) (dc dl_X11_cloth 16 rfl) rfl rfl ?_
        refine s_getI (pc := 31) fl_X11_140 lk_Mo_0 kk_Mo_0_7 (dc dl_X11_cloth 17 rfl) (fun v5 => ?_)
        refine s_iadd (pc := 34) (dc dl_X11_cloth 18 rfl) ?_
        refine s_iload_n (pc := 35) (dc dl_X11_cloth 19 rfl) rfl rfl ?_
        refine s_iast (pc := 36) lk_Mo_1 (dc dl_X11_cloth 20 rfl) ?_
        refine s_aload_n (pc := 37) (dc dl_X11_cloth 21 rfl) rfl rfl ?_
        refine s_getR (pc := 38) fl_X11_7 lk_Mo_0 kk_Mo_0_1 (dc dl_X11_cloth 22 rfl) ?_
        refine s_bipush (pc := 41) (v := 53) (dc dl_X11_cloth 23 rfl) bi_53 ?_
        refine s_aload_n (pc := 43) (dc dl_X11_cloth 24 rfl) rfl rfl ?_
        refine s_getI (pc := 44) fl_X11_140 lk_Mo_0 kk_Mo_0_7 (dc dl_X11_cloth 25 rfl) (fun v6 => ?_)
        refine s_iadd (pc := 47) (dc dl_X11_cloth 26 rfl) ?_
        refine s_iconst (pc := 48) (v := 0) (dc dl_X11_cloth 27 rfl) ic_0 ?_
        refine s_iast (pc := 49) lk_Mo_1 (dc dl_X11_cloth 28 rfl) ?_
        refine s_iconst (pc := 50) (v := 0) (dc dl_X11_cloth 29 rfl) ic_0 ?_
        refine s_istore_n (pc := 51) (lv' := [some (.ref (ad 0)), some (.int x1), some (.int 0)]) (dc dl_X11_cloth 30 rfl) rfl (Nat.le_of_ble_eq_true rfl) rfl ?_
        refine s_weak (lv' := [some (.ref (ad 0)), none, some (.int 0)]) rfl ?_
        refine s_loop (pc := 52) (fun s8 : Int32 => [some (.ref (ad 0)), none, some (.int s8)]) [] (fun self7 hself7 s8 => ?_) _ 0
        refine s_iload_n (pc := 52) (dc dl_X11_cloth 31 rfl) rfl rfl ?_
        refine s_iconst (pc := 53) (v := 4) (dc dl_X11_cloth 32 rfl) ic_4 ?_
        refine s_icmp_ge (pc := 54) (tgt := 80) (dc dl_X11_cloth 33 rfl) rfl ?_ ?_
        · refine s_aload_n (pc := 80) (dc dl_X11_cloth 48 rfl) rfl rfl ?_
          refine s_aload_n (pc := 81) (dc dl_X11_cloth 49 rfl) rfl rfl ?_
          refine s_getI (pc := 82) fl_X11_140 lk_Mo_0 kk_Mo_0_7 (dc dl_X11_cloth 50 rfl) (fun v9 => ?_)
          refine s_iconst (pc := 85) (v := 1) (dc dl_X11_cloth 51 rfl) ic_1 ?_
          refine s_iadd (pc := 86) (dc dl_X11_cloth 52 rfl) ?_
          refine s_putI (pc := 87) fw_X11_140 lk_Mo_0 kk_Mo_0_7 (dc dl_X11_cloth 53 rfl) ?_
          refine s_aload_n (pc := 90) (dc dl_X11_cloth 54 rfl) rfl rfl ?_
          refine s_iconst (pc := 91) (v := 0) (dc dl_X11_cloth 55 rfl) ic_0 ?_
          refine s_putI (pc := 92) fw_X11_128 lk_Mo_0 kk_Mo_0_3 (dc dl_X11_cloth 56 rfl) ?_
          refine s_aload_n (pc := 95) (dc dl_X11_cloth 57 rfl) rfl rfl ?_
          refine s_getI (pc := 96) fl_X11_140 lk_Mo_0 kk_Mo_0_7 (dc dl_X11_cloth 58 rfl) (fun v10 => ?_)
          refine s_iconst (pc := 99) (v := 1) (dc dl_X11_cloth 59 rfl) ic_1 ?_
          refine s_isub (pc := 100) (dc dl_X11_cloth 60 rfl) ?_
          exact s_ireturn (pc := 101) rfl (dc dl_X11_cloth 61 rfl)
        · refine s_aload_n (pc := 57) (dc dl_X11_cloth 34 rfl) rfl rfl ?_
          refine s_getR (pc := 58) fl_X11_7 lk_Mo_0 kk_Mo_0_1 (dc dl_X11_cloth 35 rfl) ?_
          refine s_bipush (pc := 61) (v := 67) (dc dl_X11_cloth 36 rfl) bi_67 ?_
          refine s_iconst (pc := 63) (v := 4) (dc dl_X11_cloth 37 rfl) ic_4 ?_
          refine s_aload_n (pc := 64) (dc dl_X11_cloth 38 rfl) rfl rfl ?_
          refine s_getI (pc := 65) fl_X11_140 lk_Mo_0 kk_Mo_0_7 (dc dl_X11_cloth 39 rfl) (fun v11 => ?_)
          refine s_imul (pc := 68) (dc dl_X11_cloth 40 rfl) ?_
          refine s_iadd (pc := 69) (dc dl_X11_cloth 41 rfl) ?_
          refine s_iload_n (pc := 70) (dc dl_X11_cloth 42 rfl) rfl rfl ?_
          refine s_iadd (pc := 71) (dc dl_X11_cloth 43 rfl) ?_
          refine s_iconst (pc := 72) (v := 0) (dc dl_X11_cloth 44 rfl) ic_0 ?_
          refine s_iast (pc := 73) lk_Mo_1 (dc dl_X11_cloth 45 rfl) ?_
          refine s_iincL (pc := 74) (lf' := fun y12 => [some (.ref (ad 0)), none, some (.int y12)]) (dc dl_X11_cloth 46 rfl) rfl rfl (Nat.le_of_ble_eq_true rfl) (fun _ => rfl) (fun y12 => ?_)
          refine s_goto (pc := 77) (tgt := 52) (dc dl_X11_cloth 47 rfl) rfl ?_
          exact s_wk (hself7 y12) rfl
def gX11_thing (x1 x2 : Int32) : MM Int32 :=
  bd (sv 0 0 0) fun _ =>
  bd (gX11_isPerson x1) fun r1 =>
  jn (fun (a3 : Unit) =>
  pr ((-1))) (fun j2 =>
  (if r1 = 0 then
  j2 ()
  else
  bd (gX11_isIn x2 0 999) fun r4 =>
  (if r4 = 0 then
  j2 ()
  else
  bd (ld 0 8) fun v5 =>
  (if v5 = 20 then
  j2 ()
  else
  bd (ld 0 8) fun v6 =>
  bd (sa 4 v6 x1) fun _ =>
  bd (ld 0 8) fun v7 =>
  bd (sa 5 v7 x2) fun _ =>
  bd (ld 0 8) fun v8 =>
  bd (sa 1 (123 + v8) 0) fun _ =>
  bd (ld 0 8) fun v9 =>
  bd (sa 1 (143 + v9) 0) fun _ =>
  bd (ld 0 8) fun v10 =>
  bd (sa 1 (163 + v10) 0) fun _ =>
  bd (ld 0 8) fun v11 =>
  bd (sv 0 8 (v11 + 1)) fun _ =>
  bd (sv 0 3 0) fun _ =>
  bd (ld 0 8) fun v12 =>
  pr (v12 - 1)))))
set_option maxHeartbeats 4000000 in
theorem cn_X11_thing (l : Launch) (G : Gl) (hG : gOk G) (ad : Nat → Nat) (x1 x2 : Int32) : Cn l G mX11_thing 1 lay_Mo ad [.ref (ad 0), .int x1, .int x2] (gX11_thing x1 x2) := by
  refine cn_of (lv := [some (.ref (ad 0)), some (.int x1), some (.int x2)]) (by decide +kernel) rfl (Nat.le_of_ble_eq_true rfl) rfl ?_
  unfold gX11_thing
  refine s_aload_n (pc := 0) (dc dl_X11_thing 0 rfl) rfl rfl ?_
  refine s_iconst (pc := 1) (v := 0) (dc dl_X11_thing 1 rfl) ic_0 ?_
  refine s_putI (pc := 2) fw_X11_125 lk_Mo_0 kk_Mo_0_0 (dc dl_X11_thing 2 rfl) ?_
  refine s_aload_n (pc := 5) (dc dl_X11_thing 3 rfl) rfl rfl ?_
  refine s_iload_n (pc := 6) (dc dl_X11_thing 4 rfl) rfl rfl ?_
  refine s_call (pc := 7) (rest := []) hG (calls_V (mi := mX11_thing) (o := 0) (As := [.int x1]) (rest := []) hG (dc dl_X11_thing 5 rfl) mo_X11_isPerson mv_X11_isPerson ml_X11_154 ⟨Nat.le_of_ble_eq_true rfl, Nat.le_of_ble_eq_true rfl⟩ rfl rfl (Nat.le_of_ble_eq_true rfl) lk_Mo_0 rfl) (cn_X11_isPerson l G hG ad x1) rfl (fun r1 => ?_)
  refine s_jn (pj := 34) (fun a3 : Unit => [none, none, none]) (fun a3 : Unit => []) (fun a3 => ?_) (fun j2 hj2 => ?_)
  · refine s_iconst (pc := 34) (v := (-1)) (dc dl_X11_thing 17 rfl) ic_m1 ?_
    exact s_ireturn (pc := 35) rfl (dc dl_X11_thing 18 rfl)
  · refine s_if_eq (pc := 10) (tgt := 34) (dc dl_X11_thing 6 rfl) rfl ?_ ?_
    · exact s_wk (hj2 ()) rfl
    · refine s_aload_n (pc := 13) (dc dl_X11_thing 7 rfl) rfl rfl ?_
      refine s_iload_n (pc := 14) (dc dl_X11_thing 8 rfl) rfl rfl ?_
      refine s_iconst (pc := 15) (v := 0) (dc dl_X11_thing 9 rfl) ic_0 ?_
      refine s_sipush (pc := 16) (v := 999) (dc dl_X11_thing 10 rfl) si_999 ?_
      refine s_call (pc := 19) (rest := []) hG (calls_V (mi := mX11_thing) (o := 0) (As := [.int x2, .int 0, .int 999]) (rest := []) hG (dc dl_X11_thing 11 rfl) mo_X11_isIn mv_X11_isIn ml_X11_150 ⟨Nat.le_of_ble_eq_true rfl, Nat.le_of_ble_eq_true rfl⟩ rfl rfl (Nat.le_of_ble_eq_true rfl) lk_Mo_0 rfl) (cn_X11_isIn l G hG ad x2 0 999) rfl (fun r4 => ?_)
      refine s_if_eq (pc := 22) (tgt := 34) (dc dl_X11_thing 12 rfl) rfl ?_ ?_
      · exact s_wk (hj2 ()) rfl
      · refine s_aload_n (pc := 25) (dc dl_X11_thing 13 rfl) rfl rfl ?_
        refine s_getI (pc := 26) fl_X11_143 lk_Mo_0 kk_Mo_0_8 (dc dl_X11_thing 14 rfl) (fun v5 => ?_)
        refine s_bipush (pc := 29) (v := 20) (dc dl_X11_thing 15 rfl) bi_20 ?_
        refine s_icmp_ne (pc := 31) (tgt := 36) (dc dl_X11_thing 16 rfl) rfl ?_ ?_
        · exact s_wk (hj2 ()) rfl
        · refine s_aload_n (pc := 36) (dc dl_X11_thing 19 rfl) rfl rfl ?_
          refine s_getR (pc := 37) fl_X11_19 lk_Mo_0 kk_Mo_0_9 (dc dl_X11_thing 20 rfl) ?_
          refine s_aload_n (pc := 40) (dc dl_X11_thing 21 rfl) rfl rfl ?_
          refine s_getI (pc := 41) fl_X11_143 lk_Mo_0 kk_Mo_0_8 (dc dl_X11_thing 22 rfl) (fun v6 => ?_)
          refine s_iload_n (pc := 44) (dc dl_X11_thing 23 rfl) rfl rfl ?_
          refine s_iast (pc := 45) lk_Mo_4 (dc dl_X11_thing 24 rfl) ?_
          refine s_aload_n (pc := 46) (dc dl_X11_thing 25 rfl) rfl rfl ?_
          refine s_getR (pc := 47) fl_X11_22 lk_Mo_0 kk_Mo_0_10 (dc dl_X11_thing 26 rfl) ?_
          refine s_aload_n (pc := 50) (dc dl_X11_thing 27 rfl) rfl rfl ?_
          refine s_getI (pc := 51) fl_X11_143 lk_Mo_0 kk_Mo_0_8 (dc dl_X11_thing 28 rfl) (fun v7 => ?_)
          refine s_iload_n (pc := 54) (dc dl_X11_thing 29 rfl) rfl rfl ?_
          refine s_iast (pc := 55) lk_Mo_5 (dc dl_X11_thing 30 rfl) ?_
          refine s_aload_n (pc := 56) (dc dl_X11_thing 31 rfl) rfl rfl ?_
          refine s_getR (pc := 57) fl_X11_7 lk_Mo_0 kk_Mo_0_1 (dc dl_X11_thing 32 rfl) ?_
          refine s_bipush (pc := 60) (v := 123) (dc dl_X11_thing 33 rfl) bi_123 ?_
          refine s_aload_n (pc := 62) (dc dl_X11_thing 34 rfl) rfl rfl ?_
          refine s_getI (pc := 63) fl_X11_143 lk_Mo_0 kk_Mo_0_8 (dc dl_X11_thing 35 rfl) (fun v8 => ?_)
          refine s_iadd (pc := 66) (dc dl_X11_thing 36 rfl) ?_
          refine s_iconst (pc := 67) (v := 0) (dc dl_X11_thing 37 rfl) ic_0 ?_
          refine s_iast (pc := 68) lk_Mo_1 (dc dl_X11_thing 38 rfl) ?_
          refine s_aload_n (pc := 69) (dc dl_X11_thing 39 rfl) rfl rfl ?_
          refine s_getR (pc := 70) fl_X11_7 lk_Mo_0 kk_Mo_0_1 (dc dl_X11_thing 40 rfl) ?_
          refine s_sipush (pc := 73) (v := 143) (dc dl_X11_thing 41 rfl) si_143 ?_
          refine s_aload_n (pc := 76) (dc dl_X11_thing 42 rfl) rfl rfl ?_
          refine s_getI (pc := 77) fl_X11_143 lk_Mo_0 kk_Mo_0_8 (dc dl_X11_thing 43 rfl) (fun v9 => ?_)
          refine s_iadd (pc := 80) (dc dl_X11_thing 44 rfl) ?_
          refine s_iconst (pc := 81) (v := 0) (dc dl_X11_thing 45 rfl) ic_0 ?_
          refine s_iast (pc := 82) lk_Mo_1 (dc dl_X11_thing 46 rfl) ?_
          refine s_aload_n (pc := 83) (dc dl_X11_thing 47 rfl) rfl rfl ?_
          refine s_getR (pc := 84) fl_X11_7 lk_Mo_0 kk_Mo_0_1 (dc dl_X11_thing 48 rfl) ?_
          refine s_sipush (pc := 87) (v := 163) (dc dl_X11_thing 49 rfl) si_163 ?_
          refine s_aload_n (pc := 90) (dc dl_X11_thing 50 rfl) rfl rfl ?_
          refine s_getI (pc := 91) fl_X11_143 lk_Mo_0 kk_Mo_0_8 (dc dl_X11_thing 51 rfl) (fun v10 => ?_)
          refine s_iadd (pc := 94) (dc dl_X11_thing 52 rfl) ?_
          refine s_iconst (pc := 95) (v := 0) (dc dl_X11_thing 53 rfl) ic_0 ?_
          refine s_iast (pc := 96) lk_Mo_1 (dc dl_X11_thing 54 rfl) ?_
          refine s_aload_n (pc := 97) (dc dl_X11_thing 55 rfl) rfl rfl ?_
          refine s_aload_n (pc := 98) (dc dl_X11_thing 56 rfl) rfl rfl ?_
          refine s_getI (pc := 99) fl_X11_143 lk_Mo_0 kk_Mo_0_8 (dc dl_X11_thing 57 rfl) (fun v11 => ?_)
          refine s_iconst (pc := 102) (v := 1) (dc dl_X11_thing 58 rfl) ic_1 ?_
          refine s_iadd (pc := 103) (dc dl_X11_thing 59 rfl) ?_
          refine s_putI (pc := 104) fw_X11_143 lk_Mo_0 kk_Mo_0_8 (dc dl_X11_thing 60 rfl) ?_
          refine s_aload_n (pc := 107) (dc dl_X11_thing 61 rfl) rfl rfl ?_
          refine s_iconst (pc := 108) (v := 0) (dc dl_X11_thing 62 rfl) ic_0 ?_
          refine s_putI (pc := 109) fw_X11_128 lk_Mo_0 kk_Mo_0_3 (dc dl_X11_thing 63 rfl) ?_
          refine s_aload_n (pc := 112) (dc dl_X11_thing 64 rfl) rfl rfl ?_
          refine s_getI (pc := 113) fl_X11_143 lk_Mo_0 kk_Mo_0_8 (dc dl_X11_thing 65 rfl) (fun v12 => ?_)
          refine s_iconst (pc := 116) (v := 1) (dc dl_X11_thing 66 rfl) ic_1 ?_
          refine s_isub (pc := 117) (dc dl_X11_thing 67 rfl) ?_
          exact s_ireturn (pc := 118) rfl (dc dl_X11_thing 68 rfl)
def gX11_canSet (x1 x2 x3 : Int32) : MM Int32 :=
  (if x1 = 0 then
  bd (gX11_isPerson x2) fun r21 =>
  jn (fun (a23 : Int32) =>
  rz a23) (fun j22 =>
  jn (fun (a25 : Unit) =>
  j22 0) (fun j24 =>
  (if r21 = 0 then
  j24 ()
  else
  bd (gX11_isIn x3 0 9) fun r26 =>
  (if r26 = 0 then
  j24 ()
  else
  j22 1))))
  else
  (if x1 = 1 then
  bd (gX11_isCloth x2) fun r15 =>
  jn (fun (a17 : Int32) =>
  rz a17) (fun j16 =>
  jn (fun (a19 : Unit) =>
  j16 0) (fun j18 =>
  (if r15 = 0 then
  j18 ()
  else
  bd (gX11_isIn x3 0 99) fun r20 =>
  (if r20 = 0 then
  j18 ()
  else
  j16 1))))
  else
  (if x1 = 2 then
  bd (gX11_isThing x2) fun r8 =>
  jn (fun (a10 : Int32) =>
  rz a10) (fun j9 =>
  jn (fun (a12 : Unit) =>
  j9 0) (fun j11 =>
  (if r8 = 0 then
  j11 ()
  else
  bd (gX11_isOpen x2) fun r13 =>
  (if r13 = 0 then
  j11 ()
  else
  bd (gX11_isIn x3 0 999) fun r14 =>
  (if r14 = 0 then
  j11 ()
  else
  j9 1)))))
  else
  jn (fun (a2 : Int32) =>
  rz a2) (fun j1 =>
  jn (fun (a4 : Unit) =>
  j1 0) (fun j3 =>
  (if x1 = 3 then
  bd (gX11_isThing x2) fun r5 =>
  (if r5 = 0 then
  j3 ()
  else
  bd (gX11_inCloth x2) fun r6 =>
  (if r6 = ((-1)) then
  j3 ()
  else
  bd (gX11_isIn x3 1 9) fun r7 =>
  (if r7 = 0 then
  j3 ()
  else
  j1 1)))
  else
  j3 ()))))))
set_option maxHeartbeats 4000000 in
theorem cn_X11_canSet (l : Launch) (G : Gl) (hG : gOk G) (ad : Nat → Nat) (x1 x2 x3 : Int32) : Cn l G mX11_canSet 1 lay_Mo ad [.ref (ad 0), .int x1, .int x2, .int x3] (gX11_canSet x1 x2 x3) := by
  refine cn_of (lv := [some (.ref (ad 0)), some (.int x1), some (.int x2), some (.int x3)]) (by decide +kernel) rfl (Nat.le_of_ble_eq_true rfl) rfl ?_
  unfold gX11_canSet
  refine s_iload_n (pc := 0) (dc dl_X11_canSet 0 rfl) rfl rfl ?_
  refine s_if_ne (pc := 1) (tgt := 29) (dc dl_X11_canSet 1 rfl) rfl ?_ ?_
  · refine s_aload_n (pc := 4) (dc dl_X11_canSet 2 rfl) rfl rfl ?_
    refine s_iload_n (pc := 5) (dc dl_X11_canSet 3 rfl) rfl rfl ?_
    refine s_call (pc := 6) (rest := []) hG (calls_V (mi := mX11_canSet) (o := 0) (As := [.int x2]) (rest := []) hG (dc dl_X11_canSet 4 rfl) mo_X11_isPerson mv_X11_isPerson ml_X11_154 ⟨Nat.le_of_ble_eq_true rfl, Nat.le_of_ble_eq_true rfl⟩ rfl rfl (Nat.le_of_ble_eq_true rfl) lk_Mo_0 rfl) (cn_X11_isPerson l G hG ad x2) rfl (fun r21 => ?_)
    refine s_jn (pj := 28) (fun a23 : Int32 => [none, none, none, none]) (fun a23 : Int32 => [.int a23]) (fun a23 => ?_) (fun j22 hj22 => ?_)
    · exact s_zreturn (pc := 28) rfl (dc dl_X11_canSet 15 rfl)
    · refine s_jn (pj := 27) (fun a25 : Unit => [none, none, none, none]) (fun a25 : Unit => []) (fun a25 => ?_) (fun j24 hj24 => ?_)
      · refine s_iconst (pc := 27) (v := 0) (dc dl_X11_canSet 14 rfl) ic_0 ?_
        exact s_wk (hj22 0) rfl
      · refine s_if_eq (pc := 9) (tgt := 27) (dc dl_X11_canSet 5 rfl) rfl ?_ ?_
        · exact s_wk (hj24 ()) rfl
        · refine s_aload_n (pc := 12) (dc dl_X11_canSet 6 rfl) rfl rfl ?_
          refine s_iload_n (pc := 13) (dc dl_X11_canSet 7 rfl) rfl rfl ?_
          refine s_iconst (pc := 14) (v := 0) (dc dl_X11_canSet 8 rfl) ic_0 ?_
          refine s_bipush (pc := 15) (v := 9) (dc dl_X11_canSet 9 rfl) bi_9 ?_
          refine s_call (pc := 17) (rest := []) hG (calls_V (mi := mX11_canSet) (o := 0) (As := [.int x3, .int 0, .int 9]) (rest := []) hG (dc dl_X11_canSet 10 rfl) mo_X11_isIn mv_X11_isIn ml_X11_150 ⟨Nat.le_of_ble_eq_true rfl, Nat.le_of_ble_eq_true rfl⟩ rfl rfl (Nat.le_of_ble_eq_true rfl) lk_Mo_0 rfl) (cn_X11_isIn l G hG ad x3 0 9) rfl (fun r26 => ?_)
          refine s_if_eq (pc := 20) (tgt := 27) (dc dl_X11_canSet 11 rfl) rfl ?_ ?_
          · exact s_wk (hj24 ()) rfl
          · refine s_iconst (pc := 23) (v := 1) (dc dl_X11_canSet 12 rfl) ic_1 ?_
            refine s_goto (pc := 24) (tgt := 28) (dc dl_X11_canSet 13 rfl) rfl ?_
            exact s_wk (hj22 1) rfl
  · refine s_iload_n (pc := 29) (dc dl_X11_canSet 16 rfl) rfl rfl ?_
    refine s_iconst (pc := 30) (v := 1) (dc dl_X11_canSet 17 rfl) ic_1 ?_
    refine s_icmp_ne (pc := 31) (tgt := 59) (dc dl_X11_canSet 18 rfl) rfl ?_ ?_
    · refine s_aload_n (pc := 34) (dc dl_X11_canSet 19 rfl) rfl rfl ?_
      refine s_iload_n (pc := 35) (dc dl_X11_canSet 20 rfl) rfl rfl ?_
      refine s_call (pc := 36) (rest := []) hG (calls_V (mi := mX11_canSet) (o := 0) (As := [.int x2]) (rest := []) hG (dc dl_X11_canSet 21 rfl) mo_X11_isCloth mv_X11_isCloth ml_X11_158 ⟨Nat.le_of_ble_eq_true rfl, Nat.le_of_ble_eq_true rfl⟩ rfl rfl (Nat.le_of_ble_eq_true rfl) lk_Mo_0 rfl) (cn_X11_isCloth l G hG ad x2) rfl (fun r15 => ?_)
      refine s_jn (pj := 58) (fun a17 : Int32 => [none, none, none, none]) (fun a17 : Int32 => [.int a17]) (fun a17 => ?_) (fun j16 hj16 => ?_)
      · exact s_zreturn (pc := 58) rfl (dc dl_X11_canSet 32 rfl)
      · refine s_jn (pj := 57) (fun a19 : Unit => [none, none, none, none]) (fun a19 : Unit => []) (fun a19 => ?_) (fun j18 hj18 => ?_)
        · refine s_iconst (pc := 57) (v := 0) (dc dl_X11_canSet 31 rfl) ic_0 ?_
          exact s_wk (hj16 0) rfl
        · refine s_if_eq (pc := 39) (tgt := 57) (dc dl_X11_canSet 22 rfl) rfl ?_ ?_
          · exact s_wk (hj18 ()) rfl
          · refine s_aload_n (pc := 42) (dc dl_X11_canSet 23 rfl) rfl rfl ?_
            refine s_iload_n (pc := 43) (dc dl_X11_canSet 24 rfl) rfl rfl ?_
            refine s_iconst (pc := 44) (v := 0) (dc dl_X11_canSet 25 rfl) ic_0 ?_
            refine s_bipush (pc := 45) (v := 99) (dc dl_X11_canSet 26 rfl) bi_99 ?_
            refine s_call (pc := 47) (rest := []) hG (calls_V (mi := mX11_canSet) (o := 0) (As := [.int x3, .int 0, .int 99]) (rest := []) hG (dc dl_X11_canSet 27 rfl) mo_X11_isIn mv_X11_isIn ml_X11_150 ⟨Nat.le_of_ble_eq_true rfl, Nat.le_of_ble_eq_true rfl⟩ rfl rfl (Nat.le_of_ble_eq_true rfl) lk_Mo_0 rfl) (cn_X11_isIn l G hG ad x3 0 99) rfl (fun r20 => ?_)
            refine s_if_eq (pc := 50) (tgt := 57) (dc dl_X11_canSet 28 rfl) rfl ?_ ?_
            · exact s_wk (hj18 ()) rfl
            · refine s_iconst (pc := 53) (v := 1) (dc dl_X11_canSet 29 rfl) ic_1 ?_
              refine s_goto (pc := 54) (tgt := 58) (dc dl_X11_canSet 30 rfl) rfl ?_
              exact s_wk (hj16 1) rfl
    · refine s_iload_n (pc := 59) (dc dl_X11_canSet 33 rfl) rfl rfl ?_
      refine s_iconst (pc := 60) (v := 2) (dc dl_X11_canSet 34 rfl) ic_2 ?_
      refine s_icmp_ne (pc := 61) (tgt := 98) (dc dl_X11_canSet 35 rfl) rfl ?_ ?_
      · refine s_aload_n (pc := 64) (dc dl_X11_canSet 36 rfl) rfl rfl ?_
        refine s_iload_n (pc := 65) (dc dl_X11_canSet 37 rfl) rfl rfl ?_
        refine s_call (pc := 66) (rest := []) hG (calls_V (mi := mX11_canSet) (o := 0) (As := [.int x2]) (rest := []) hG (dc dl_X11_canSet 38 rfl) mo_X11_isThing mv_X11_isThing ml_X11_161 ⟨Nat.le_of_ble_eq_true rfl, Nat.le_of_ble_eq_true rfl⟩ rfl rfl (Nat.le_of_ble_eq_true rfl) lk_Mo_0 rfl) (cn_X11_isThing l G hG ad x2) rfl (fun r8 => ?_)
        refine s_jn (pj := 97) (fun a10 : Int32 => [none, none, none, none]) (fun a10 : Int32 => [.int a10]) (fun a10 => ?_) (fun j9 hj9 => ?_)
        · exact s_zreturn (pc := 97) rfl (dc dl_X11_canSet 53 rfl)
        · refine s_jn (pj := 96) (fun a12 : Unit => [none, none, none, none]) (fun a12 : Unit => []) (fun a12 => ?_) (fun j11 hj11 => ?_)
          · refine s_iconst (pc := 96) (v := 0) (dc dl_X11_canSet 52 rfl) ic_0 ?_
            exact s_wk (hj9 0) rfl
          · refine s_if_eq (pc := 69) (tgt := 96) (dc dl_X11_canSet 39 rfl) rfl ?_ ?_
            · exact s_wk (hj11 ()) rfl
            · refine s_aload_n (pc := 72) (dc dl_X11_canSet 40 rfl) rfl rfl ?_
              refine s_iload_n (pc := 73) (dc dl_X11_canSet 41 rfl) rfl rfl ?_
              refine s_call (pc := 74) (rest := []) hG (calls_V (mi := mX11_canSet) (o := 0) (As := [.int x2]) (rest := []) hG (dc dl_X11_canSet 42 rfl) mo_X11_isOpen mv_X11_isOpen ml_X11_164 ⟨Nat.le_of_ble_eq_true rfl, Nat.le_of_ble_eq_true rfl⟩ rfl rfl (Nat.le_of_ble_eq_true rfl) lk_Mo_0 rfl) (cn_X11_isOpen l G hG ad x2) rfl (fun r13 => ?_)
              refine s_if_eq (pc := 77) (tgt := 96) (dc dl_X11_canSet 43 rfl) rfl ?_ ?_
              · exact s_wk (hj11 ()) rfl
              · refine s_aload_n (pc := 80) (dc dl_X11_canSet 44 rfl) rfl rfl ?_
                refine s_iload_n (pc := 81) (dc dl_X11_canSet 45 rfl) rfl rfl ?_
                refine s_iconst (pc := 82) (v := 0) (dc dl_X11_canSet 46 rfl) ic_0 ?_
                refine s_sipush (pc := 83) (v := 999) (dc dl_X11_canSet 47 rfl) si_999 ?_
                refine s_call (pc := 86) (rest := []) hG (calls_V (mi := mX11_canSet) (o := 0) (As := [.int x3, .int 0, .int 999]) (rest := []) hG (dc dl_X11_canSet 48 rfl) mo_X11_isIn mv_X11_isIn ml_X11_150 ⟨Nat.le_of_ble_eq_true rfl, Nat.le_of_ble_eq_true rfl⟩ rfl rfl (Nat.le_of_ble_eq_true rfl) lk_Mo_0 rfl) (cn_X11_isIn l G hG ad x3 0 999) rfl (fun r14 => ?_)
                refine s_if_eq (pc := 89) (tgt := 96) (dc dl_X11_canSet 49 rfl) rfl ?_ ?_
                · exact s_wk (hj11 ()) rfl
                · refine s_iconst (pc := 92) (v := 1) (dc dl_X11_canSet 50 rfl) ic_1 ?_
                  refine s_goto (pc := 93) (tgt := 97) (dc dl_X11_canSet 51 rfl) rfl ?_
                  exact s_wk (hj9 1) rfl
      · refine s_iload_n (pc := 98) (dc dl_X11_canSet 54 rfl) rfl rfl ?_
        refine s_iconst (pc := 99) (v := 3) (dc dl_X11_canSet 55 rfl) ic_3 ?_
        refine s_jn (pj := 136) (fun a2 : Int32 => [none, none, none, none]) (fun a2 : Int32 => [.int a2]) (fun a2 => ?_) (fun j1 hj1 => ?_)
        · exact s_zreturn (pc := 136) rfl (dc dl_X11_canSet 75 rfl)
        · refine s_jn (pj := 135) (fun a4 : Unit => [none, none, none, none]) (fun a4 : Unit => []) (fun a4 => ?_) (fun j3 hj3 => ?_)
          · refine s_iconst (pc := 135) (v := 0) (dc dl_X11_canSet 74 rfl) ic_0 ?_
            exact s_wk (hj1 0) rfl
          · refine s_icmp_ne (pc := 100) (tgt := 135) (dc dl_X11_canSet 56 rfl) rfl ?_ ?_
            · refine s_aload_n (pc := 103) (dc dl_X11_canSet 57 rfl) rfl rfl ?_
              refine s_iload_n (pc := 104) (dc dl_X11_canSet 58 rfl) rfl rfl ?_
              refine s_call (pc := 105) (rest := []) hG (calls_V (mi := mX11_canSet) (o := 0) (As := [.int x2]) (rest := []) hG (dc dl_X11_canSet 59 rfl) mo_X11_isThing mv_X11_isThing ml_X11_161 ⟨Nat.le_of_ble_eq_true rfl, Nat.le_of_ble_eq_true rfl⟩ rfl rfl (Nat.le_of_ble_eq_true rfl) lk_Mo_0 rfl) (cn_X11_isThing l G hG ad x2) rfl (fun r5 => ?_)
              refine s_if_eq (pc := 108) (tgt := 135) (dc dl_X11_canSet 60 rfl) rfl ?_ ?_
              · exact s_wk (hj3 ()) rfl
              · refine s_aload_n (pc := 111) (dc dl_X11_canSet 61 rfl) rfl rfl ?_
                refine s_iload_n (pc := 112) (dc dl_X11_canSet 62 rfl) rfl rfl ?_
                refine s_call (pc := 113) (rest := []) hG (calls_V (mi := mX11_canSet) (o := 0) (As := [.int x2]) (rest := []) hG (dc dl_X11_canSet 63 rfl) mo_X11_inCloth mv_X11_inCloth ml_X11_167 ⟨Nat.le_of_ble_eq_true rfl, Nat.le_of_ble_eq_true rfl⟩ rfl rfl (Nat.le_of_ble_eq_true rfl) lk_Mo_0 rfl) (cn_X11_inCloth l G hG ad x2) rfl (fun r6 => ?_)
                refine s_iconst (pc := 116) (v := (-1)) (dc dl_X11_canSet 64 rfl) ic_m1 ?_
                refine s_icmp_eq (pc := 117) (tgt := 135) (dc dl_X11_canSet 65 rfl) rfl ?_ ?_
                · exact s_wk (hj3 ()) rfl
                · refine s_aload_n (pc := 120) (dc dl_X11_canSet 66 rfl) rfl rfl ?_
                  refine s_iload_n (pc := 121) (dc dl_X11_canSet 67 rfl) rfl rfl ?_
                  refine s_iconst (pc := 122) (v := 1) (dc dl_X11_canSet 68 rfl) ic_1 ?_
                  refine s_bipush (pc := 123) (v := 9) (dc dl_X11_canSet 69 rfl) bi_9 ?_
                  refine s_call (pc := 125) (rest := []) hG (calls_V (mi := mX11_canSet) (o := 0) (As := [.int x3, .int 1, .int 9]) (rest := []) hG (dc dl_X11_canSet 70 rfl) mo_X11_isIn mv_X11_isIn ml_X11_150 ⟨Nat.le_of_ble_eq_true rfl, Nat.le_of_ble_eq_true rfl⟩ rfl rfl (Nat.le_of_ble_eq_true rfl) lk_Mo_0 rfl) (cn_X11_isIn l G hG ad x3 1 9) rfl (fun r7 => ?_)
                  refine s_if_eq (pc := 128) (tgt := 135) (dc dl_X11_canSet 71 rfl) rfl ?_ ?_
                  · exact s_wk (hj3 ()) rfl
                  · refine s_iconst (pc := 131) (v := 1) (dc dl_X11_canSet 72 rfl) ic_1 ?_
                    refine s_goto (pc := 132) (tgt := 136) (dc dl_X11_canSet 73 rfl) rfl ?_
                    exact s_wk (hj1 1) rfl
            · exact s_wk (hj3 ()) rfl
def gX11_set (x1 x2 x3 : Int32) : MM Int32 :=
  bd (sv 0 0 0) fun _ =>
  bd (gX11_canSet x1 x2 x3) fun r1 =>
  (if r1 = 0 then
  rz 0
  else
  jn (fun (a3 : Unit) =>
  jn (fun (a5 : Unit) =>
  jn (fun (a7 : Unit) =>
  jn (fun (a9 : Unit) =>
  bd (sv 0 3 0) fun _ =>
  rz 1) (fun j8 =>
  (if x1 = 3 then
  bd (sa 1 (143 + x2) x3) fun _ =>
  j8 ()
  else
  j8 ()))) (fun j6 =>
  (if x1 = 2 then
  bd (sa 5 x2 x3) fun _ =>
  j6 ()
  else
  j6 ()))) (fun j4 =>
  (if x1 = 1 then
  bd (sa 1 (53 + x2) x3) fun _ =>
  j4 ()
  else
  j4 ()))) (fun j2 =>
  (if x1 = 0 then
  bd (sa 1 (3 + x2) x3) fun _ =>
  j2 ()
  else
  j2 ())))
set_option maxHeartbeats 4000000 in
theorem cn_X11_set (l : Launch) (G : Gl) (hG : gOk G) (ad : Nat → Nat) (x1 x2 x3 : Int32) : Cn l G mX11_set 2 lay_Mo ad [.ref (ad 0), .int x1, .int x2, .int x3] (gX11_set x1 x2 x3) := by
  refine cn_of (lv := [some (.ref (ad 0)), some (.int x1), some (.int x2), some (.int x3)]) (by decide +kernel) rfl (Nat.le_of_ble_eq_true rfl) rfl ?_
  unfold gX11_set
  refine s_aload_n (pc := 0) (dc dl_X11_set 0 rfl) rfl rfl ?_
  refine s_iconst (pc := 1) (v := 0) (dc dl_X11_set 1 rfl) ic_0 ?_
  refine s_putI (pc := 2) fw_X11_125 lk_Mo_0 kk_Mo_0_0 (dc dl_X11_set 2 rfl) ?_
  refine s_aload_n (pc := 5) (dc dl_X11_set 3 rfl) rfl rfl ?_
  refine s_iload_n (pc := 6) (dc dl_X11_set 4 rfl) rfl rfl ?_
  refine s_iload_n (pc := 7) (dc dl_X11_set 5 rfl) rfl rfl ?_
  refine s_iload_n (pc := 8) (dc dl_X11_set 6 rfl) rfl rfl ?_
  refine s_call (pc := 9) (rest := []) hG (calls_V (mi := mX11_set) (o := 0) (As := [.int x1, .int x2, .int x3]) (rest := []) hG (dc dl_X11_set 7 rfl) mo_X11_canSet mv_X11_canSet ml_X11_171 ⟨Nat.le_of_ble_eq_true rfl, Nat.le_of_ble_eq_true rfl⟩ rfl rfl (Nat.le_of_ble_eq_true rfl) lk_Mo_0 rfl) (cn_X11_canSet l G hG ad x1 x2 x3) rfl (fun r1 => ?_)
  refine s_if_ne (pc := 12) (tgt := 17) (dc dl_X11_set 8 rfl) rfl ?_ ?_
  · refine s_iconst (pc := 15) (v := 0) (dc dl_X11_set 9 rfl) ic_0 ?_
    exact s_zreturn (pc := 16) rfl (dc dl_X11_set 10 rfl)
  · refine s_iload_n (pc := 17) (dc dl_X11_set 11 rfl) rfl rfl ?_
    refine s_jn (pj := 30) (fun a3 : Unit => [some (.ref (ad 0)), some (.int x1), some (.int x2), some (.int x3)]) (fun a3 : Unit => []) (fun a3 => ?_) (fun j2 hj2 => ?_)
    · refine s_iload_n (pc := 30) (dc dl_X11_set 20 rfl) rfl rfl ?_
      refine s_iconst (pc := 31) (v := 1) (dc dl_X11_set 21 rfl) ic_1 ?_
      refine s_jn (pj := 45) (fun a5 : Unit => [some (.ref (ad 0)), some (.int x1), some (.int x2), some (.int x3)]) (fun a5 : Unit => []) (fun a5 => ?_) (fun j4 hj4 => ?_)
      · refine s_iload_n (pc := 45) (dc dl_X11_set 30 rfl) rfl rfl ?_
        refine s_iconst (pc := 46) (v := 2) (dc dl_X11_set 31 rfl) ic_2 ?_
        refine s_jn (pj := 57) (fun a7 : Unit => [some (.ref (ad 0)), some (.int x1), some (.int x2), some (.int x3)]) (fun a7 : Unit => []) (fun a7 => ?_) (fun j6 hj6 => ?_)
        · refine s_iload_n (pc := 57) (dc dl_X11_set 38 rfl) rfl rfl ?_
          refine s_iconst (pc := 58) (v := 3) (dc dl_X11_set 39 rfl) ic_3 ?_
          refine s_jn (pj := 73) (fun a9 : Unit => [some (.ref (ad 0)), none, none, none]) (fun a9 : Unit => []) (fun a9 => ?_) (fun j8 hj8 => ?_)
          · refine s_aload_n (pc := 73) (dc dl_X11_set 48 rfl) rfl rfl ?_
            refine s_iconst (pc := 74) (v := 0) (dc dl_X11_set 49 rfl) ic_0 ?_
            refine s_putI (pc := 75) fw_X11_128 lk_Mo_0 kk_Mo_0_3 (dc dl_X11_set 50 rfl) ?_
            refine s_iconst (pc := 78) (v := 1) (dc dl_X11_set 51 rfl) ic_1 ?_
            exact s_zreturn (pc := 79) rfl (dc dl_X11_set 52 rfl)
          · refine s_icmp_ne (pc := 59) (tgt := 73) (dc dl_X11_set 40 rfl) rfl ?_ ?_
            · refine s_aload_n (pc := 62) (dc dl_X11_set 41 rfl) rfl rfl ?_
              refine s_getR (pc := 63) fl_X11_7 lk_Mo_0 kk_Mo_0_1 (dc dl_X11_set 42 rfl) ?_
              refine s_sipush (pc := 66) (v := 143) (dc dl_X11_set 43 rfl) si_143 ?_
              refine s_iload_n (pc := 69) (dc dl_X11_set 44 rfl) rfl rfl ?_
              refine s_iadd (pc := 70) (dc dl_X11_set 45 rfl) ?_
              refine s_iload_n (pc := 71) (dc dl_X11_set 46 rfl) rfl rfl ?_
              refine s_iast (pc := 72) lk_Mo_1 (dc dl_X11_set 47 rfl) ?_
              exact s_wk (hj8 ()) rfl
            · exact s_wk (hj8 ()) rfl
        · refine s_icmp_ne (pc := 47) (tgt := 57) (dc dl_X11_set 32 rfl) rfl ?_ ?_
          · refine s_aload_n (pc := 50) (dc dl_X11_set 33 rfl) rfl rfl ?_
            refine s_getR (pc := 51) fl_X11_22 lk_Mo_0 kk_Mo_0_10 (dc dl_X11_set 34 rfl) ?_
            refine s_iload_n (pc := 54) (dc dl_X11_set 35 rfl) rfl rfl ?_
            refine s_iload_n (pc := 55) (dc dl_X11_set 36 rfl) rfl rfl ?_
            refine s_iast (pc := 56) lk_Mo_5 (dc dl_X11_set 37 rfl) ?_
            exact s_wk (hj6 ()) rfl
          · exact s_wk (hj6 ()) rfl
      · refine s_icmp_ne (pc := 32) (tgt := 45) (dc dl_X11_set 22 rfl) rfl ?_ ?_
        · refine s_aload_n (pc := 35) (dc dl_X11_set 23 rfl) rfl rfl ?_
          refine s_getR (pc := 36) fl_X11_7 lk_Mo_0 kk_Mo_0_1 (dc dl_X11_set 24 rfl) ?_
          refine s_bipush (pc := 39) (v := 53) (dc dl_X11_set 25 rfl) bi_53 ?_
          refine s_iload_n (pc := 41) (dc dl_X11_set 26 rfl) rfl rfl ?_
          refine s_iadd (pc := 42) (dc dl_X11_set 27 rfl) ?_
          refine s_iload_n (pc := 43) (dc dl_X11_set 28 rfl) rfl rfl ?_
          refine s_iast (pc := 44) lk_Mo_1 (dc dl_X11_set 29 rfl) ?_
          exact s_wk (hj4 ()) rfl
        · exact s_wk (hj4 ()) rfl
    · refine s_if_ne (pc := 18) (tgt := 30) (dc dl_X11_set 12 rfl) rfl ?_ ?_
      · refine s_aload_n (pc := 21) (dc dl_X11_set 13 rfl) rfl rfl ?_
        refine s_getR (pc := 22) fl_X11_7 lk_Mo_0 kk_Mo_0_1 (dc dl_X11_set 14 rfl) ?_
        refine s_iconst (pc := 25) (v := 3) (dc dl_X11_set 15 rfl) ic_3 ?_
        refine s_iload_n (pc := 26) (dc dl_X11_set 16 rfl) rfl rfl ?_
        refine s_iadd (pc := 27) (dc dl_X11_set 17 rfl) ?_
        refine s_iload_n (pc := 28) (dc dl_X11_set 18 rfl) rfl rfl ?_
        refine s_iast (pc := 29) lk_Mo_1 (dc dl_X11_set 19 rfl) ?_
        exact s_wk (hj2 ()) rfl
      · exact s_wk (hj2 ()) rfl
def gX11_types (x1 : Int32) : MM Int32 :=
  loopC 100000 (fun (self1 : Int32 → MM Int32) (s2 : Int32) =>
  (if s2 < 0 then
  pr 0
  else
  bd (ld 0 13) fun v3 =>
  bd (sa 7 v3 ((x1 >>> (s2 &&& 31)) &&& 255)) fun _ =>
  bd (ld 0 13) fun v4 =>
  bd (sv 0 13 (v4 + 1)) fun _ =>
  lt (s2 + (-8)) fun y5 =>
  self1 y5)) 24
set_option maxHeartbeats 4000000 in
theorem cn_X11_types (l : Launch) (G : Gl) (hG : gOk G) (ad : Nat → Nat) (x1 : Int32) : Cn l G mX11_types 0 lay_Mo ad [.ref (ad 0), .int x1] (gX11_types x1) := by
  refine cn_of (lv := [some (.ref (ad 0)), some (.int x1), none]) (by decide +kernel) rfl (Nat.le_of_ble_eq_true rfl) rfl ?_
  unfold gX11_types
  refine s_bipush (pc := 0) (v := 24) (dc dl_X11_types 0 rfl) bi_24 ?_
  refine s_istore_n (pc := 2) (lv' := [some (.ref (ad 0)), some (.int x1), some (.int 24)]) (dc dl_X11_types 1 rfl) rfl (Nat.le_of_ble_eq_true rfl) rfl ?_
  refine s_weak (lv' := [some (.ref (ad 0)), some (.int x1), some (.int 24)]) rfl ?_
  refine s_loop (pc := 3) (fun s2 : Int32 => [some (.ref (ad 0)), some (.int x1), some (.int s2)]) [] (fun self1 hself1 s2 => ?_) _ 24
  refine s_iload_n (pc := 3) (dc dl_X11_types 2 rfl) rfl rfl ?_
  refine s_if_lt (pc := 4) (tgt := 39) (dc dl_X11_types 3 rfl) rfl ?_ ?_
  · exact s_return (pc := 39) rfl (dc dl_X11_types 22 rfl)
  · refine s_aload_n (pc := 7) (dc dl_X11_types 4 rfl) rfl rfl ?_
    refine s_getR (pc := 8) fl_X11_28 lk_Mo_0 kk_Mo_0_12 (dc dl_X11_types 5 rfl) ?_
    refine s_aload_n (pc := 11) (dc dl_X11_types 6 rfl) rfl rfl ?_
    refine s_getI (pc := 12) fl_X11_174 lk_Mo_0 kk_Mo_0_13 (dc dl_X11_types 7 rfl) (fun v3 => ?_)
    refine s_iload_n (pc := 15) (dc dl_X11_types 8 rfl) rfl rfl ?_
    refine s_iload_n (pc := 16) (dc dl_X11_types 9 rfl) rfl rfl ?_
    refine s_ishr (pc := 17) (dc dl_X11_types 10 rfl) ?_
    refine s_sipush (pc := 18) (v := 255) (dc dl_X11_types 11 rfl) si_255 ?_
    refine s_iand (pc := 21) (dc dl_X11_types 12 rfl) ?_
    refine s_iast (pc := 22) lk_Mo_7 (dc dl_X11_types 13 rfl) ?_
    refine s_aload_n (pc := 23) (dc dl_X11_types 14 rfl) rfl rfl ?_
    refine s_aload_n (pc := 24) (dc dl_X11_types 15 rfl) rfl rfl ?_
    refine s_getI (pc := 25) fl_X11_174 lk_Mo_0 kk_Mo_0_13 (dc dl_X11_types 16 rfl) (fun v4 => ?_)
    refine s_iconst (pc := 28) (v := 1) (dc dl_X11_types 17 rfl) ic_1 ?_
    refine s_iadd (pc := 29) (dc dl_X11_types 18 rfl) ?_
    refine s_putI (pc := 30) fw_X11_174 lk_Mo_0 kk_Mo_0_13 (dc dl_X11_types 19 rfl) ?_
    refine s_iincL (pc := 33) (lf' := fun y5 => [some (.ref (ad 0)), some (.int x1), some (.int y5)]) (dc dl_X11_types 20 rfl) rfl rfl (Nat.le_of_ble_eq_true rfl) (fun _ => rfl) (fun y5 => ?_)
    refine s_goto (pc := 36) (tgt := 3) (dc dl_X11_types 21 rfl) rfl ?_
    exact s_wk (hself1 y5) rfl
def gX11_feed (x1 x2 x3 x4 x5 : Int32) : MM Int32 :=
  bd (sv 0 0 0) fun _ =>
  bd (ld 0 13) fun v1 =>
  (if v1 ≤ 380 then
  bd (gX11_types x1) fun r2 =>
  bd (gX11_types x2) fun r3 =>
  bd (gX11_types x3) fun r4 =>
  bd (gX11_types x4) fun r5 =>
  bd (gX11_types x5) fun r6 =>
  bd (ld 0 13) fun v7 =>
  pr v7
  else
  pr ((-1)))
set_option maxHeartbeats 4000000 in
theorem cn_X11_feed (l : Launch) (G : Gl) (hG : gOk G) (ad : Nat → Nat) (x1 x2 x3 x4 x5 : Int32) : Cn l G mX11_feed 1 lay_Mo ad [.ref (ad 0), .int x1, .int x2, .int x3, .int x4, .int x5] (gX11_feed x1 x2 x3 x4 x5) := by
  refine cn_of (lv := [some (.ref (ad 0)), some (.int x1), some (.int x2), some (.int x3), some (.int x4), some (.int x5)]) (by decide +kernel) rfl (Nat.le_of_ble_eq_true rfl) rfl ?_
  unfold gX11_feed
  refine s_aload_n (pc := 0) (dc dl_X11_feed 0 rfl) rfl rfl ?_
  refine s_iconst (pc := 1) (v := 0) (dc dl_X11_feed 1 rfl) ic_0 ?_
  refine s_putI (pc := 2) fw_X11_125 lk_Mo_0 kk_Mo_0_0 (dc dl_X11_feed 2 rfl) ?_
  refine s_aload_n (pc := 5) (dc dl_X11_feed 3 rfl) rfl rfl ?_
  refine s_getI (pc := 6) fl_X11_174 lk_Mo_0 kk_Mo_0_13 (dc dl_X11_feed 4 rfl) (fun v1 => ?_)
  refine s_sipush (pc := 9) (v := 380) (dc dl_X11_feed 5 rfl) si_380 ?_
  refine s_icmp_le (pc := 12) (tgt := 17) (dc dl_X11_feed 6 rfl) rfl ?_ ?_
  · refine s_aload_n (pc := 17) (dc dl_X11_feed 9 rfl) rfl rfl ?_
    refine s_iload_n (pc := 18) (dc dl_X11_feed 10 rfl) rfl rfl ?_
    refine s_callv (pc := 19) (rest := []) hG (calls_V (mi := mX11_feed) (o := 0) (As := [.int x1]) (rest := []) hG (dc dl_X11_feed 11 rfl) mo_X11_types mv_X11_types ml_X11_177 ⟨Nat.le_of_ble_eq_true rfl, Nat.le_of_ble_eq_true rfl⟩ rfl rfl (Nat.le_of_ble_eq_true rfl) lk_Mo_0 rfl) (cn_X11_types l G hG ad x1) rfl (fun r2 => ?_)
    refine s_aload_n (pc := 22) (dc dl_X11_feed 12 rfl) rfl rfl ?_
    refine s_iload_n (pc := 23) (dc dl_X11_feed 13 rfl) rfl rfl ?_
    refine s_callv (pc := 24) (rest := []) hG (calls_V (mi := mX11_feed) (o := 0) (As := [.int x2]) (rest := []) hG (dc dl_X11_feed 14 rfl) mo_X11_types mv_X11_types ml_X11_177 ⟨Nat.le_of_ble_eq_true rfl, Nat.le_of_ble_eq_true rfl⟩ rfl rfl (Nat.le_of_ble_eq_true rfl) lk_Mo_0 rfl) (cn_X11_types l G hG ad x2) rfl (fun r3 => ?_)
    refine s_aload_n (pc := 27) (dc dl_X11_feed 15 rfl) rfl rfl ?_
    refine s_iload_n (pc := 28) (dc dl_X11_feed 16 rfl) rfl rfl ?_
    refine s_callv (pc := 29) (rest := []) hG (calls_V (mi := mX11_feed) (o := 0) (As := [.int x3]) (rest := []) hG (dc dl_X11_feed 17 rfl) mo_X11_types mv_X11_types ml_X11_177 ⟨Nat.le_of_ble_eq_true rfl, Nat.le_of_ble_eq_true rfl⟩ rfl rfl (Nat.le_of_ble_eq_true rfl) lk_Mo_0 rfl) (cn_X11_types l G hG ad x3) rfl (fun r4 => ?_)
    refine s_aload_n (pc := 32) (dc dl_X11_feed 18 rfl) rfl rfl ?_
    refine s_iload (pc := 33) (dc dl_X11_feed 19 rfl) rfl ?_
    refine s_callv (pc := 35) (rest := []) hG (calls_V (mi := mX11_feed) (o := 0) (As := [.int x4]) (rest := []) hG (dc dl_X11_feed 20 rfl) mo_X11_types mv_X11_types ml_X11_177 ⟨Nat.le_of_ble_eq_true rfl, Nat.le_of_ble_eq_true rfl⟩ rfl rfl (Nat.le_of_ble_eq_true rfl) lk_Mo_0 rfl) (cn_X11_types l G hG ad x4) rfl (fun r5 => ?_)
    refine s_aload_n (pc := 38) (dc dl_X11_feed 21 rfl) rfl rfl ?_
    refine s_iload (pc := 39) (dc dl_X11_feed 22 rfl) rfl ?_
    refine s_callv (pc := 41) (rest := []) hG (calls_V (mi := mX11_feed) (o := 0) (As := [.int x5]) (rest := []) hG (dc dl_X11_feed 23 rfl) mo_X11_types mv_X11_types ml_X11_177 ⟨Nat.le_of_ble_eq_true rfl, Nat.le_of_ble_eq_true rfl⟩ rfl rfl (Nat.le_of_ble_eq_true rfl) lk_Mo_0 rfl) (cn_X11_types l G hG ad x5) rfl (fun r6 => ?_)
    refine s_aload_n (pc := 44) (dc dl_X11_feed 24 rfl) rfl rfl ?_
    refine s_getI (pc := 45) fl_X11_174 lk_Mo_0 kk_Mo_0_13 (dc dl_X11_feed 25 rfl) (fun v7 => ?_)
    exact s_ireturn (pc := 48) rfl (dc dl_X11_feed 26 rfl)
  · refine s_iconst (pc := 15) (v := (-1)) (dc dl_X11_feed 7 rfl) ic_m1 ?_
    exact s_ireturn (pc := 16) rfl (dc dl_X11_feed 8 rfl)
def gX11_end (x1 : Int32) : MM Int32 :=
  bd (sv 0 0 0) fun _ =>
  bd (ld 0 13) fun v1 =>
  bd (gX11_isIn x1 0 v1) fun r2 =>
  (if r2 = 0 then
  rz 0
  else
  bd (sv 0 13 x1) fun _ =>
  rz 1)
set_option maxHeartbeats 4000000 in
theorem cn_X11_end (l : Launch) (G : Gl) (hG : gOk G) (ad : Nat → Nat) (x1 : Int32) : Cn l G mX11_end 1 lay_Mo ad [.ref (ad 0), .int x1] (gX11_end x1) := by
  refine cn_of (lv := [some (.ref (ad 0)), some (.int x1)]) (by decide +kernel) rfl (Nat.le_of_ble_eq_true rfl) rfl ?_
  unfold gX11_end
  refine s_aload_n (pc := 0) (dc dl_X11_end 0 rfl) rfl rfl ?_
  refine s_iconst (pc := 1) (v := 0) (dc dl_X11_end 1 rfl) ic_0 ?_
  refine s_putI (pc := 2) fw_X11_125 lk_Mo_0 kk_Mo_0_0 (dc dl_X11_end 2 rfl) ?_
  refine s_aload_n (pc := 5) (dc dl_X11_end 3 rfl) rfl rfl ?_
  refine s_iload_n (pc := 6) (dc dl_X11_end 4 rfl) rfl rfl ?_
  refine s_iconst (pc := 7) (v := 0) (dc dl_X11_end 5 rfl) ic_0 ?_
  refine s_aload_n (pc := 8) (dc dl_X11_end 6 rfl) rfl rfl ?_
  refine s_getI (pc := 9) fl_X11_174 lk_Mo_0 kk_Mo_0_13 (dc dl_X11_end 7 rfl) (fun v1 => ?_)
  refine s_call (pc := 12) (rest := []) hG (calls_V (mi := mX11_end) (o := 0) (As := [.int x1, .int 0, .int v1]) (rest := []) hG (dc dl_X11_end 8 rfl) mo_X11_isIn mv_X11_isIn ml_X11_150 ⟨Nat.le_of_ble_eq_true rfl, Nat.le_of_ble_eq_true rfl⟩ rfl rfl (Nat.le_of_ble_eq_true rfl) lk_Mo_0 rfl) (cn_X11_isIn l G hG ad x1 0 v1) rfl (fun r2 => ?_)
  refine s_if_ne (pc := 15) (tgt := 20) (dc dl_X11_end 9 rfl) rfl ?_ ?_
  · refine s_iconst (pc := 18) (v := 0) (dc dl_X11_end 10 rfl) ic_0 ?_
    exact s_zreturn (pc := 19) rfl (dc dl_X11_end 11 rfl)
  · refine s_aload_n (pc := 20) (dc dl_X11_end 12 rfl) rfl rfl ?_
    refine s_iload_n (pc := 21) (dc dl_X11_end 13 rfl) rfl rfl ?_
    refine s_putI (pc := 22) fw_X11_174 lk_Mo_0 kk_Mo_0_13 (dc dl_X11_end 14 rfl) ?_
    refine s_iconst (pc := 25) (v := 1) (dc dl_X11_end 15 rfl) ic_1 ?_
    exact s_zreturn (pc := 26) rfl (dc dl_X11_end 16 rfl)
def gX11_raw (x1 : Int32) : MM Int32 :=
  bd (ld 0 13) fun v1 =>
  jn (fun (a3 : Int32) =>
  pr a3) (fun j2 =>
  (if v1 ≤ x1 then
  j2 ((-1))
  else
  bd (la 7 x1) fun v4 =>
  j2 v4))
set_option maxHeartbeats 4000000 in
theorem cn_X11_raw (l : Launch) (G : Gl) (hG : gOk G) (ad : Nat → Nat) (x1 : Int32) : Cn l G mX11_raw 0 lay_Mo ad [.ref (ad 0), .int x1] (gX11_raw x1) := by
  refine cn_of (lv := [some (.ref (ad 0)), some (.int x1)]) (by decide +kernel) rfl (Nat.le_of_ble_eq_true rfl) rfl ?_
  unfold gX11_raw
  refine s_iload_n (pc := 0) (dc dl_X11_raw 0 rfl) rfl rfl ?_
  refine s_aload_n (pc := 1) (dc dl_X11_raw 1 rfl) rfl rfl ?_
  refine s_getI (pc := 2) fl_X11_174 lk_Mo_0 kk_Mo_0_13 (dc dl_X11_raw 2 rfl) (fun v1 => ?_)
  refine s_jn (pj := 18) (fun a3 : Int32 => [none, none]) (fun a3 : Int32 => [.int a3]) (fun a3 => ?_) (fun j2 hj2 => ?_)
  · exact s_ireturn (pc := 18) rfl (dc dl_X11_raw 10 rfl)
  · refine s_icmp_ge (pc := 5) (tgt := 17) (dc dl_X11_raw 3 rfl) rfl ?_ ?_
    · refine s_iconst (pc := 17) (v := (-1)) (dc dl_X11_raw 9 rfl) ic_m1 ?_
      exact s_wk (hj2 ((-1))) rfl
    · refine s_aload_n (pc := 8) (dc dl_X11_raw 4 rfl) rfl rfl ?_
      refine s_getR (pc := 9) fl_X11_28 lk_Mo_0 kk_Mo_0_12 (dc dl_X11_raw 5 rfl) ?_
      refine s_iload_n (pc := 12) (dc dl_X11_raw 6 rfl) rfl rfl ?_
      refine s_iald (pc := 13) lk_Mo_7 (dc dl_X11_raw 7 rfl) (fun v4 => ?_)
      refine s_goto (pc := 14) (tgt := 18) (dc dl_X11_raw 8 rfl) rfl ?_
      exact s_wk (hj2 v4) rfl
def gX11_isLetter (x1 : Int32) : MM Int32 :=
  bd (gX11_isIn x1 97 122) fun r1 =>
  jn (fun (a3 : Int32) =>
  rz a3) (fun j2 =>
  jn (fun (a5 : Unit) =>
  j2 1) (fun j4 =>
  (if r1 = 0 then
  bd (gX11_isIn x1 65 90) fun r6 =>
  (if r6 = 0 then
  j2 0
  else
  j4 ())
  else
  j4 ())))
set_option maxHeartbeats 4000000 in
theorem cn_X11_isLetter (l : Launch) (G : Gl) (hG : gOk G) (ad : Nat → Nat) (x1 : Int32) : Cn l G mX11_isLetter 1 lay_Mo ad [.ref (ad 0), .int x1] (gX11_isLetter x1) := by
  refine cn_of (lv := [some (.ref (ad 0)), some (.int x1)]) (by decide +kernel) rfl (Nat.le_of_ble_eq_true rfl) rfl ?_
  unfold gX11_isLetter
  refine s_aload_n (pc := 0) (dc dl_X11_isLetter 0 rfl) rfl rfl ?_
  refine s_iload_n (pc := 1) (dc dl_X11_isLetter 1 rfl) rfl rfl ?_
  refine s_bipush (pc := 2) (v := 97) (dc dl_X11_isLetter 2 rfl) bi_97 ?_
  refine s_bipush (pc := 4) (v := 122) (dc dl_X11_isLetter 3 rfl) bi_122 ?_
  refine s_call (pc := 6) (rest := []) hG (calls_V (mi := mX11_isLetter) (o := 0) (As := [.int x1, .int 97, .int 122]) (rest := []) hG (dc dl_X11_isLetter 4 rfl) mo_X11_isIn mv_X11_isIn ml_X11_150 ⟨Nat.le_of_ble_eq_true rfl, Nat.le_of_ble_eq_true rfl⟩ rfl rfl (Nat.le_of_ble_eq_true rfl) lk_Mo_0 rfl) (cn_X11_isIn l G hG ad x1 97 122) rfl (fun r1 => ?_)
  refine s_jn (pj := 29) (fun a3 : Int32 => [none, none]) (fun a3 : Int32 => [.int a3]) (fun a3 => ?_) (fun j2 hj2 => ?_)
  · exact s_zreturn (pc := 29) rfl (dc dl_X11_isLetter 15 rfl)
  · refine s_jn (pj := 24) (fun a5 : Unit => [none, none]) (fun a5 : Unit => []) (fun a5 => ?_) (fun j4 hj4 => ?_)
    · refine s_iconst (pc := 24) (v := 1) (dc dl_X11_isLetter 12 rfl) ic_1 ?_
      refine s_goto (pc := 25) (tgt := 29) (dc dl_X11_isLetter 13 rfl) rfl ?_
      exact s_wk (hj2 1) rfl
    · refine s_if_ne (pc := 9) (tgt := 24) (dc dl_X11_isLetter 5 rfl) rfl ?_ ?_
      · refine s_aload_n (pc := 12) (dc dl_X11_isLetter 6 rfl) rfl rfl ?_
        refine s_iload_n (pc := 13) (dc dl_X11_isLetter 7 rfl) rfl rfl ?_
        refine s_bipush (pc := 14) (v := 65) (dc dl_X11_isLetter 8 rfl) bi_65 ?_
        refine s_bipush (pc := 16) (v := 90) (dc dl_X11_isLetter 9 rfl) bi_90 ?_
        refine s_call (pc := 18) (rest := []) hG (calls_V (mi := mX11_isLetter) (o := 0) (As := [.int x1, .int 65, .int 90]) (rest := []) hG (dc dl_X11_isLetter 10 rfl) mo_X11_isIn mv_X11_isIn ml_X11_150 ⟨Nat.le_of_ble_eq_true rfl, Nat.le_of_ble_eq_true rfl⟩ rfl rfl (Nat.le_of_ble_eq_true rfl) lk_Mo_0 rfl) (cn_X11_isIn l G hG ad x1 65 90) rfl (fun r6 => ?_)
        refine s_if_eq (pc := 21) (tgt := 28) (dc dl_X11_isLetter 11 rfl) rfl ?_ ?_
        · refine s_iconst (pc := 28) (v := 0) (dc dl_X11_isLetter 14 rfl) ic_0 ?_
          exact s_wk (hj2 0) rfl
        · exact s_wk (hj4 ()) rfl
      · exact s_wk (hj4 ()) rfl
def gX11_isDigit (x1 : Int32) : MM Int32 :=
  bd (gX11_isIn x1 48 57) fun r1 =>
  rz r1
set_option maxHeartbeats 4000000 in
theorem cn_X11_isDigit (l : Launch) (G : Gl) (hG : gOk G) (ad : Nat → Nat) (x1 : Int32) : Cn l G mX11_isDigit 1 lay_Mo ad [.ref (ad 0), .int x1] (gX11_isDigit x1) := by
  refine cn_of (lv := [some (.ref (ad 0)), some (.int x1)]) (by decide +kernel) rfl (Nat.le_of_ble_eq_true rfl) rfl ?_
  unfold gX11_isDigit
  refine s_aload_n (pc := 0) (dc dl_X11_isDigit 0 rfl) rfl rfl ?_
  refine s_iload_n (pc := 1) (dc dl_X11_isDigit 1 rfl) rfl rfl ?_
  refine s_bipush (pc := 2) (v := 48) (dc dl_X11_isDigit 2 rfl) bi_48 ?_
  refine s_bipush (pc := 4) (v := 57) (dc dl_X11_isDigit 3 rfl) bi_57 ?_
  refine s_call (pc := 6) (rest := []) hG (calls_V (mi := mX11_isDigit) (o := 0) (As := [.int x1, .int 48, .int 57]) (rest := []) hG (dc dl_X11_isDigit 4 rfl) mo_X11_isIn mv_X11_isIn ml_X11_150 ⟨Nat.le_of_ble_eq_true rfl, Nat.le_of_ble_eq_true rfl⟩ rfl rfl (Nat.le_of_ble_eq_true rfl) lk_Mo_0 rfl) (cn_X11_isIn l G hG ad x1 48 57) rfl (fun r1 => ?_)
  exact s_zreturn (pc := 9) rfl (dc dl_X11_isDigit 5 rfl)
def gX11_isMarkSign (x1 : Int32) : MM Int32 :=
  jn (fun (a2 : Int32) =>
  rz a2) (fun j1 =>
  jn (fun (a4 : Unit) =>
  j1 1) (fun j3 =>
  (if x1 = 59 then
  j3 ()
  else
  (if x1 = 43 then
  j3 ()
  else
  (if x1 = 45 then
  j3 ()
  else
  (if x1 = 42 then
  j3 ()
  else
  (if x1 = 47 then
  j3 ()
  else
  (if x1 = 40 then
  j3 ()
  else
  (if x1 = 41 then
  j3 ()
  else
  (if x1 = 60 then
  j3 ()
  else
  (if x1 = 61 then
  j3 ()
  else
  (if x1 = 62 then
  j3 ()
  else
  j1 0))))))))))))
set_option maxHeartbeats 4000000 in
theorem cn_X11_isMarkSign (l : Launch) (G : Gl) (hG : gOk G) (ad : Nat → Nat) (x1 : Int32) : Cn l G mX11_isMarkSign 0 lay_Mo ad [.ref (ad 0), .int x1] (gX11_isMarkSign x1) := by
  refine cn_of (lv := [some (.ref (ad 0)), some (.int x1)]) (by decide +kernel) rfl (Nat.le_of_ble_eq_true rfl) rfl ?_
  unfold gX11_isMarkSign
  refine s_iload_n (pc := 0) (dc dl_X11_isMarkSign 0 rfl) rfl rfl ?_
  refine s_bipush (pc := 1) (v := 59) (dc dl_X11_isMarkSign 1 rfl) bi_59 ?_
  refine s_jn (pj := 65) (fun a2 : Int32 => [none, none]) (fun a2 : Int32 => [.int a2]) (fun a2 => ?_) (fun j1 hj1 => ?_)
  · exact s_zreturn (pc := 65) rfl (dc dl_X11_isMarkSign 33 rfl)
  · refine s_jn (pj := 60) (fun a4 : Unit => [none, none]) (fun a4 : Unit => []) (fun a4 => ?_) (fun j3 hj3 => ?_)
    · refine s_iconst (pc := 60) (v := 1) (dc dl_X11_isMarkSign 30 rfl) ic_1 ?_
      refine s_goto (pc := 61) (tgt := 65) (dc dl_X11_isMarkSign 31 rfl) rfl ?_
      exact s_wk (hj1 1) rfl
    · refine s_icmp_eq (pc := 3) (tgt := 60) (dc dl_X11_isMarkSign 2 rfl) rfl ?_ ?_
      · exact s_wk (hj3 ()) rfl
      · refine s_iload_n (pc := 6) (dc dl_X11_isMarkSign 3 rfl) rfl rfl ?_
        refine s_bipush (pc := 7) (v := 43) (dc dl_X11_isMarkSign 4 rfl) bi_43 ?_
        refine s_icmp_eq (pc := 9) (tgt := 60) (dc dl_X11_isMarkSign 5 rfl) rfl ?_ ?_
        · exact s_wk (hj3 ()) rfl
        · refine s_iload_n (pc := 12) (dc dl_X11_isMarkSign 6 rfl) rfl rfl ?_
          refine s_bipush (pc := 13) (v := 45) (dc dl_X11_isMarkSign 7 rfl) bi_45 ?_
          refine s_icmp_eq (pc := 15) (tgt := 60) (dc dl_X11_isMarkSign 8 rfl) rfl ?_ ?_
          · exact s_wk (hj3 ()) rfl
          · refine s_iload_n (pc := 18) (dc dl_X11_isMarkSign 9 rfl) rfl rfl ?_
            refine s_bipush (pc := 19) (v := 42) (dc dl_X11_isMarkSign 10 rfl) bi_42 ?_
            refine s_icmp_eq (pc := 21) (tgt := 60) (dc dl_X11_isMarkSign 11 rfl) rfl ?_ ?_
            · exact s_wk (hj3 ()) rfl
            · refine s_iload_n (pc := 24) (dc dl_X11_isMarkSign 12 rfl) rfl rfl ?_
              refine s_bipush (pc := 25) (v := 47) (dc dl_X11_isMarkSign 13 rfl) bi_47 ?_
              refine s_icmp_eq (pc := 27) (tgt := 60) (dc dl_X11_isMarkSign 14 rfl) rfl ?_ ?_
              · exact s_wk (hj3 ()) rfl
              · refine s_iload_n (pc := 30) (dc dl_X11_isMarkSign 15 rfl) rfl rfl ?_
                refine s_bipush (pc := 31) (v := 40) (dc dl_X11_isMarkSign 16 rfl) bi_40 ?_
                refine s_icmp_eq (pc := 33) (tgt := 60) (dc dl_X11_isMarkSign 17 rfl) rfl ?_ ?_
                · exact s_wk (hj3 ()) rfl
                · refine s_iload_n (pc := 36) (dc dl_X11_isMarkSign 18 rfl) rfl rfl ?_
                  refine s_bipush (pc := 37) (v := 41) (dc dl_X11_isMarkSign 19 rfl) bi_41 ?_
                  refine s_icmp_eq (pc := 39) (tgt := 60) (dc dl_X11_isMarkSign 20 rfl) rfl ?_ ?_
                  · exact s_wk (hj3 ()) rfl
                  · refine s_iload_n (pc := 42) (dc dl_X11_isMarkSign 21 rfl) rfl rfl ?_
                    refine s_bipush (pc := 43) (v := 60) (dc dl_X11_isMarkSign 22 rfl) bi_60 ?_
                    refine s_icmp_eq (pc := 45) (tgt := 60) (dc dl_X11_isMarkSign 23 rfl) rfl ?_ ?_
                    · exact s_wk (hj3 ()) rfl
                    · refine s_iload_n (pc := 48) (dc dl_X11_isMarkSign 24 rfl) rfl rfl ?_
                      refine s_bipush (pc := 49) (v := 61) (dc dl_X11_isMarkSign 25 rfl) bi_61 ?_
                      refine s_icmp_eq (pc := 51) (tgt := 60) (dc dl_X11_isMarkSign 26 rfl) rfl ?_ ?_
                      · exact s_wk (hj3 ()) rfl
                      · refine s_iload_n (pc := 54) (dc dl_X11_isMarkSign 27 rfl) rfl rfl ?_
                        refine s_bipush (pc := 55) (v := 62) (dc dl_X11_isMarkSign 28 rfl) bi_62 ?_
                        refine s_icmp_ne (pc := 57) (tgt := 64) (dc dl_X11_isMarkSign 29 rfl) rfl ?_ ?_
                        · exact s_wk (hj3 ()) rfl
                        · refine s_iconst (pc := 64) (v := 0) (dc dl_X11_isMarkSign 32 rfl) ic_0 ?_
                          exact s_wk (hj1 0) rfl
def gX11_wordAt (x1 x2 : Int32) : MM Int32 :=
  loopC 100000 (fun (self1 : (Int32 × Int32) → MM Int32) (s2 : Int32 × Int32) =>
  (if 111 ≤ s2.2 then
  pr ((-1))
  else
  lt (s2.1 + 1) fun y3 =>
  loopC 100000 (fun (self4 : Int32 → MM Int32) (s5 : Int32) =>
  jn (fun (a7 : Unit) =>
  jn (fun (a9 : Unit) =>
  lt (s2.2 + 1) fun y10 =>
  loopC 100000 (fun (self11 : Int32 → MM Int32) (s12 : Int32) =>
  bd (la 8 s12) fun v13 =>
  (if v13 = 32 then
  self1 (y3, s12)
  else
  lt (s12 + 1) fun y14 =>
  self11 y14)) y10) (fun j8 =>
  (if (x1 + s5) = x2 then
  bd (la 8 ((s2.2 + 1) + s5)) fun v15 =>
  (if v15 = 32 then
  pr y3
  else
  j8 ())
  else
  j8 ()))) (fun j6 =>
  (if x2 ≤ (x1 + s5) then
  j6 ()
  else
  bd (la 8 ((s2.2 + 1) + s5)) fun v16 =>
  bd (la 7 (x1 + s5)) fun v17 =>
  (if v16 = v17 then
  lt (s5 + 1) fun y18 =>
  self4 y18
  else
  j6 ())))) 0)) (((-1)), 0)
set_option maxHeartbeats 4000000 in
theorem cn_X11_wordAt (l : Launch) (G : Gl) (hG : gOk G) (ad : Nat → Nat) (x1 x2 : Int32) : Cn l G mX11_wordAt 0 lay_Mo ad [.ref (ad 0), .int x1, .int x2] (gX11_wordAt x1 x2) := by
  refine cn_of (lv := [some (.ref (ad 0)), some (.int x1), some (.int x2), none, none, none]) (by decide +kernel) rfl (Nat.le_of_ble_eq_true rfl) rfl ?_
  unfold gX11_wordAt
  refine s_iconst (pc := 0) (v := (-1)) (dc dl_X11_wordAt 0 rfl) ic_m1 ?_
  refine s_istore_n (pc := 1) (lv' := [some (.ref (ad 0)), some (.int x1), some (.int x2), some (.int ((-1))), none, none]) (dc dl_X11_wordAt 1 rfl) rfl (Nat.le_of_ble_eq_true rfl) rfl ?_
  refine s_iconst (pc := 2) (v := 0) (dc dl_X11_wordAt 2 rfl) ic_0 ?_
  refine s_istore (pc := 3) (lv' := [some (.ref (ad 0)), some (.int x1), some (.int x2), some (.int ((-1))), some (.int 0), none]) (dc dl_X11_wordAt 3 rfl) (Nat.le_of_ble_eq_true rfl) rfl ?_
  refine s_weak (lv' := [some (.ref (ad 0)), some (.int x1), some (.int x2), some (.int ((-1))), some (.int 0), none]) rfl ?_
  refine s_loop (pc := 5) (fun s2 : Int32 × Int32 => [some (.ref (ad 0)), some (.int x1), some (.int x2), some (.int s2.1), some (.int s2.2), none]) [] (fun self1 hself1 s2 => ?_) _ (((-1)), 0)
  refine s_iload (pc := 5) (dc dl_X11_wordAt 4 rfl) rfl ?_
  refine s_bipush (pc := 7) (v := 111) (dc dl_X11_wordAt 5 rfl) bi_111 ?_
  refine s_icmp_ge (pc := 9) (tgt := 117) (dc dl_X11_wordAt 6 rfl) rfl ?_ ?_
  · refine s_iconst (pc := 117) (v := (-1)) (dc dl_X11_wordAt 71 rfl) ic_m1 ?_
    exact s_ireturn (pc := 118) rfl (dc dl_X11_wordAt 72 rfl)
  · refine s_iconst (pc := 12) (v := 0) (dc dl_X11_wordAt 7 rfl) ic_0 ?_
    refine s_istore (pc := 13) (lv' := [some (.ref (ad 0)), some (.int x1), some (.int x2), some (.int s2.1), some (.int s2.2), some (.int 0)]) (dc dl_X11_wordAt 8 rfl) (Nat.le_of_ble_eq_true rfl) rfl ?_
    refine s_iload_n (pc := 15) (dc dl_X11_wordAt 9 rfl) rfl rfl ?_
    refine s_iconst (pc := 16) (v := 1) (dc dl_X11_wordAt 10 rfl) ic_1 ?_
    refine s_iadd (pc := 17) (dc dl_X11_wordAt 11 rfl) ?_
    refine s_istore_nL (pc := 18) (lf' := fun y3 => [some (.ref (ad 0)), some (.int x1), some (.int x2), some (.int y3), some (.int s2.2), some (.int 0)]) (dc dl_X11_wordAt 12 rfl) rfl (Nat.le_of_ble_eq_true rfl) (fun _ => rfl) (fun y3 => ?_)
    refine s_weak (lv' := [some (.ref (ad 0)), some (.int x1), some (.int x2), some (.int y3), some (.int s2.2), some (.int 0)]) rfl ?_
    refine s_loop (pc := 19) (fun s5 : Int32 => [some (.ref (ad 0)), some (.int x1), some (.int x2), some (.int y3), some (.int s2.2), some (.int s5)]) [] (fun self4 hself4 s5 => ?_) _ 0
    refine s_iload_n (pc := 19) (dc dl_X11_wordAt 13 rfl) rfl rfl ?_
    refine s_iload (pc := 20) (dc dl_X11_wordAt 14 rfl) rfl ?_
    refine s_iadd (pc := 22) (dc dl_X11_wordAt 15 rfl) ?_
    refine s_iload_n (pc := 23) (dc dl_X11_wordAt 16 rfl) rfl rfl ?_
    refine s_jn (pj := 60) (fun a7 : Unit => [some (.ref (ad 0)), some (.int x1), some (.int x2), some (.int y3), some (.int s2.2), some (.int s5)]) (fun a7 : Unit => []) (fun a7 => ?_) (fun j6 hj6 => ?_)
    · refine s_iload_n (pc := 60) (dc dl_X11_wordAt 38 rfl) rfl rfl ?_
      refine s_iload (pc := 61) (dc dl_X11_wordAt 39 rfl) rfl ?_
      refine s_iadd (pc := 63) (dc dl_X11_wordAt 40 rfl) ?_
      refine s_iload_n (pc := 64) (dc dl_X11_wordAt 41 rfl) rfl rfl ?_
      refine s_jn (pj := 87) (fun a9 : Unit => [some (.ref (ad 0)), some (.int x1), some (.int x2), some (.int y3), some (.int s2.2), none]) (fun a9 : Unit => []) (fun a9 => ?_) (fun j8 hj8 => ?_)
      · refine s_iload (pc := 87) (dc dl_X11_wordAt 55 rfl) rfl ?_
        refine s_iconst (pc := 89) (v := 1) (dc dl_X11_wordAt 56 rfl) ic_1 ?_
        refine s_iadd (pc := 90) (dc dl_X11_wordAt 57 rfl) ?_
        refine s_istoreL (pc := 91) (lf' := fun y10 => [some (.ref (ad 0)), some (.int x1), some (.int x2), some (.int y3), some (.int y10), none]) (dc dl_X11_wordAt 58 rfl) (Nat.le_of_ble_eq_true rfl) (fun _ => rfl) (fun y10 => ?_)
        refine s_weak (lv' := [some (.ref (ad 0)), some (.int x1), some (.int x2), some (.int y3), some (.int y10), none]) rfl ?_
        refine s_loop (pc := 93) (fun s12 : Int32 => [some (.ref (ad 0)), some (.int x1), some (.int x2), some (.int y3), some (.int s12), none]) [] (fun self11 hself11 s12 => ?_) _ y10
        refine s_aload_n (pc := 93) (dc dl_X11_wordAt 59 rfl) rfl rfl ?_
        refine s_getR (pc := 94) fl_X11_31 lk_Mo_0 kk_Mo_0_18 (dc dl_X11_wordAt 60 rfl) ?_
        refine s_iload (pc := 97) (dc dl_X11_wordAt 61 rfl) rfl ?_
        refine s_iald (pc := 99) lk_Mo_8 (dc dl_X11_wordAt 62 rfl) (fun v13 => ?_)
        refine s_bipush (pc := 100) (v := 32) (dc dl_X11_wordAt 63 rfl) bi_32 ?_
        refine s_icmp_eq (pc := 102) (tgt := 114) (dc dl_X11_wordAt 64 rfl) rfl ?_ ?_
        · refine s_goto (pc := 114) (tgt := 5) (dc dl_X11_wordAt 70 rfl) rfl ?_
          exact s_wk (hself1 (y3, s12)) rfl
        · refine s_iload (pc := 105) (dc dl_X11_wordAt 65 rfl) rfl ?_
          refine s_iconst (pc := 107) (v := 1) (dc dl_X11_wordAt 66 rfl) ic_1 ?_
          refine s_iadd (pc := 108) (dc dl_X11_wordAt 67 rfl) ?_
          refine s_istoreL (pc := 109) (lf' := fun y14 => [some (.ref (ad 0)), some (.int x1), some (.int x2), some (.int y3), some (.int y14), none]) (dc dl_X11_wordAt 68 rfl) (Nat.le_of_ble_eq_true rfl) (fun _ => rfl) (fun y14 => ?_)
          refine s_goto (pc := 111) (tgt := 93) (dc dl_X11_wordAt 69 rfl) rfl ?_
          exact s_wk (hself11 y14) rfl
      · refine s_icmp_ne (pc := 65) (tgt := 87) (dc dl_X11_wordAt 42 rfl) rfl ?_ ?_
        · refine s_aload_n (pc := 68) (dc dl_X11_wordAt 43 rfl) rfl rfl ?_
          refine s_getR (pc := 69) fl_X11_31 lk_Mo_0 kk_Mo_0_18 (dc dl_X11_wordAt 44 rfl) ?_
          refine s_iload (pc := 72) (dc dl_X11_wordAt 45 rfl) rfl ?_
          refine s_iconst (pc := 74) (v := 1) (dc dl_X11_wordAt 46 rfl) ic_1 ?_
          refine s_iadd (pc := 75) (dc dl_X11_wordAt 47 rfl) ?_
          refine s_iload (pc := 76) (dc dl_X11_wordAt 48 rfl) rfl ?_
          refine s_iadd (pc := 78) (dc dl_X11_wordAt 49 rfl) ?_
          refine s_iald (pc := 79) lk_Mo_8 (dc dl_X11_wordAt 50 rfl) (fun v15 => ?_)
          refine s_bipush (pc := 80) (v := 32) (dc dl_X11_wordAt 51 rfl) bi_32 ?_
          refine s_icmp_ne (pc := 82) (tgt := 87) (dc dl_X11_wordAt 52 rfl) rfl ?_ ?_
          · refine s_iload_n (pc := 85) (dc dl_X11_wordAt 53 rfl) rfl rfl ?_
            exact s_ireturn (pc := 86) rfl (dc dl_X11_wordAt 54 rfl)
          · exact s_wk (hj8 ()) rfl
        · exact s_wk (hj8 ()) rfl
    · refine s_icmp_ge (pc := 24) (tgt := 60) (dc dl_X11_wordAt 17 rfl) rfl ?_ ?_
      · exact s_wk (hj6 ()) rfl
      · refine s_aload_n (pc := 27) (dc dl_X11_wordAt 18 rfl) rfl rfl ?_
        refine s_getR (pc := 28) fl_X11_31 lk_Mo_0 kk_Mo_0_18 (dc dl_X11_wordAt 19 rfl) ?_
        refine s_iload (pc := 31) (dc dl_X11_wordAt 20 rfl) rfl ?_
        refine s_iconst (pc := 33) (v := 1) (dc dl_X11_wordAt 21 rfl) ic_1 ?_
        refine s_iadd (pc := 34) (dc dl_X11_wordAt 22 rfl) ?_
        refine s_iload (pc := 35) (dc dl_X11_wordAt 23 rfl) rfl ?_
        refine s_iadd (pc := 37) (dc dl_X11_wordAt 24 rfl) ?_
        refine s_iald (pc := 38) lk_Mo_8 (dc dl_X11_wordAt 25 rfl) (fun v16 => ?_)
        refine s_aload_n (pc := 39) (dc dl_X11_wordAt 26 rfl) rfl rfl ?_
        refine s_getR (pc := 40) fl_X11_28 lk_Mo_0 kk_Mo_0_12 (dc dl_X11_wordAt 27 rfl) ?_
        refine s_iload_n (pc := 43) (dc dl_X11_wordAt 28 rfl) rfl rfl ?_
        refine s_iload (pc := 44) (dc dl_X11_wordAt 29 rfl) rfl ?_
        refine s_iadd (pc := 46) (dc dl_X11_wordAt 30 rfl) ?_
        refine s_iald (pc := 47) lk_Mo_7 (dc dl_X11_wordAt 31 rfl) (fun v17 => ?_)
        refine s_icmp_ne (pc := 48) (tgt := 60) (dc dl_X11_wordAt 32 rfl) rfl ?_ ?_
        · refine s_iload (pc := 51) (dc dl_X11_wordAt 33 rfl) rfl ?_
          refine s_iconst (pc := 53) (v := 1) (dc dl_X11_wordAt 34 rfl) ic_1 ?_
          refine s_iadd (pc := 54) (dc dl_X11_wordAt 35 rfl) ?_
          refine s_istoreL (pc := 55) (lf' := fun y18 => [some (.ref (ad 0)), some (.int x1), some (.int x2), some (.int y3), some (.int s2.2), some (.int y18)]) (dc dl_X11_wordAt 36 rfl) (Nat.le_of_ble_eq_true rfl) (fun _ => rfl) (fun y18 => ?_)
          refine s_goto (pc := 57) (tgt := 19) (dc dl_X11_wordAt 37 rfl) rfl ?_
          exact s_wk (hself4 y18) rfl
        · exact s_wk (hj6 ()) rfl
def gX11_reads : MM Int32 :=
  loopC 100000 (fun (self1 : Unit → MM Int32) (s2 : Unit) =>
  bd (ld 0 14) fun v3 =>
  bd (gX11_raw v3) fun r4 =>
  jn (fun (a6 : Unit) =>
  bd (ld 0 14) fun v7 =>
  bd (sv 0 14 (v7 + 1)) fun _ =>
  self1 ()) (fun j5 =>
  (if r4 = 32 then
  j5 ()
  else
  bd (ld 0 14) fun v8 =>
  bd (gX11_raw v8) fun r9 =>
  (if r9 = 10 then
  j5 ()
  else
  bd (ld 0 14) fun v10 =>
  bd (sv 0 15 v10) fun _ =>
  bd (sv 0 16 1) fun _ =>
  bd (ld 0 14) fun v11 =>
  bd (gX11_raw v11) fun r12 =>
  (if r12 = ((-1)) then
  bd (sv 0 16 0) fun _ =>
  pr 0
  else
  bd (ld 0 14) fun v13 =>
  bd (sv 0 14 (v13 + 1)) fun _ =>
  bd (sv 0 17 r12) fun _ =>
  bd (gX11_isLetter r12) fun r14 =>
  jn (fun (a16 : Unit) =>
  pr 0) (fun j15 =>
  (if r14 = 0 then
  bd (gX11_isDigit r12) fun r17 =>
  (if r17 = 0 then
  bd (gX11_isMarkSign r12) fun r18 =>
  (if r18 = 0 then
  j15 ()
  else
  bd (sv 0 16 4) fun _ =>
  j15 ())
  else
  bd (sv 0 17 (r12 - 48)) fun _ =>
  loopC 100000 (fun (self19 : Unit → MM Int32) (s20 : Unit) =>
  bd (ld 0 14) fun v21 =>
  bd (gX11_raw v21) fun r22 =>
  bd (gX11_isDigit r22) fun r23 =>
  (if r23 = 0 then
  bd (ld 0 14) fun v24 =>
  bd (ld 0 15) fun v25 =>
  (if 5 ≤ (v24 - v25) then
  j15 ()
  else
  bd (sv 0 16 3) fun _ =>
  j15 ())
  else
  bd (ld 0 17) fun v26 =>
  jn (fun (a28 : Int32) =>
  bd (sv 0 17 a28) fun _ =>
  bd (ld 0 14) fun v29 =>
  bd (sv 0 14 (v29 + 1)) fun _ =>
  self19 ()) (fun j27 =>
  (if 10000 ≤ v26 then
  bd (ld 0 17) fun v30 =>
  j27 v30
  else
  bd (ld 0 17) fun v31 =>
  bd (ld 0 14) fun v32 =>
  bd (gX11_raw v32) fun r33 =>
  j27 (((10 * v31) + r33) - 48))))) ())
  else
  loopC 100000 (fun (self34 : Unit → MM Int32) (s35 : Unit) =>
  bd (ld 0 14) fun v36 =>
  bd (gX11_raw v36) fun r37 =>
  bd (gX11_isLetter r37) fun r38 =>
  (if r38 = 0 then
  bd (ld 0 15) fun v39 =>
  bd (ld 0 14) fun v40 =>
  bd (gX11_wordAt v39 v40) fun r41 =>
  bd (sv 0 17 r41) fun _ =>
  bd (ld 0 17) fun v42 =>
  (if v42 = ((-1)) then
  j15 ()
  else
  bd (sv 0 16 2) fun _ =>
  j15 ())
  else
  bd (ld 0 14) fun v43 =>
  bd (sv 0 14 (v43 + 1)) fun _ =>
  self34 ())) ()))))))) ()
set_option maxHeartbeats 4000000 in
theorem cn_X11_reads (l : Launch) (G : Gl) (hG : gOk G) (ad : Nat → Nat) : Cn l G mX11_reads 2 lay_Mo ad [.ref (ad 0)] (gX11_reads) := by
  refine cn_of (lv := [some (.ref (ad 0)), none]) (by decide +kernel) rfl (Nat.le_of_ble_eq_true rfl) rfl ?_
  unfold gX11_reads
  refine s_weak (lv' := [some (.ref (ad 0)), none]) rfl ?_
  refine s_loop (pc := 0) (fun s2 : Unit => [some (.ref (ad 0)), none]) [] (fun self1 hself1 s2 => ?_) _ ()
  refine s_aload_n (pc := 0) (dc dl_X11_reads 0 rfl) rfl rfl ?_
  refine s_aload_n (pc := 1) (dc dl_X11_reads 1 rfl) rfl rfl ?_
  refine s_getI (pc := 2) fl_X11_181 lk_Mo_0 kk_Mo_0_14 (dc dl_X11_reads 2 rfl) (fun v3 => ?_)
  refine s_call (pc := 5) (rest := []) hG (calls_V (mi := mX11_reads) (o := 0) (As := [.int v3]) (rest := []) hG (dc dl_X11_reads 3 rfl) mo_X11_raw mv_X11_raw ml_X11_184 ⟨Nat.le_of_ble_eq_true rfl, Nat.le_of_ble_eq_true rfl⟩ rfl rfl (Nat.le_of_ble_eq_true rfl) lk_Mo_0 rfl) (cn_X11_raw l G hG ad v3) rfl (fun r4 => ?_)
  refine s_bipush (pc := 8) (v := 32) (dc dl_X11_reads 4 rfl) bi_32 ?_
  refine s_jn (pj := 26) (fun a6 : Unit => [some (.ref (ad 0)), none]) (fun a6 : Unit => []) (fun a6 => ?_) (fun j5 hj5 => ?_)
  · refine s_aload_n (pc := 26) (dc dl_X11_reads 12 rfl) rfl rfl ?_
    refine s_aload_n (pc := 27) (dc dl_X11_reads 13 rfl) rfl rfl ?_
    refine s_getI (pc := 28) fl_X11_181 lk_Mo_0 kk_Mo_0_14 (dc dl_X11_reads 14 rfl) (fun v7 => ?_)
    refine s_iconst (pc := 31) (v := 1) (dc dl_X11_reads 15 rfl) ic_1 ?_
    refine s_iadd (pc := 32) (dc dl_X11_reads 16 rfl) ?_
    refine s_putI (pc := 33) fw_X11_181 lk_Mo_0 kk_Mo_0_14 (dc dl_X11_reads 17 rfl) ?_
    refine s_goto (pc := 36) (tgt := 0) (dc dl_X11_reads 18 rfl) rfl ?_
    exact s_wk (hself1 ()) rfl
  · refine s_icmp_eq (pc := 10) (tgt := 26) (dc dl_X11_reads 5 rfl) rfl ?_ ?_
    · exact s_wk (hj5 ()) rfl
    · refine s_aload_n (pc := 13) (dc dl_X11_reads 6 rfl) rfl rfl ?_
      refine s_aload_n (pc := 14) (dc dl_X11_reads 7 rfl) rfl rfl ?_
      refine s_getI (pc := 15) fl_X11_181 lk_Mo_0 kk_Mo_0_14 (dc dl_X11_reads 8 rfl) (fun v8 => ?_)
      refine s_call (pc := 18) (rest := []) hG (calls_V (mi := mX11_reads) (o := 0) (As := [.int v8]) (rest := []) hG (dc dl_X11_reads 9 rfl) mo_X11_raw mv_X11_raw ml_X11_184 ⟨Nat.le_of_ble_eq_true rfl, Nat.le_of_ble_eq_true rfl⟩ rfl rfl (Nat.le_of_ble_eq_true rfl) lk_Mo_0 rfl) (cn_X11_raw l G hG ad v8) rfl (fun r9 => ?_)
      refine s_bipush (pc := 21) (v := 10) (dc dl_X11_reads 10 rfl) bi_10 ?_
      refine s_icmp_ne (pc := 23) (tgt := 39) (dc dl_X11_reads 11 rfl) rfl ?_ ?_
      · exact s_wk (hj5 ()) rfl
      · refine s_aload_n (pc := 39) (dc dl_X11_reads 19 rfl) rfl rfl ?_
        refine s_aload_n (pc := 40) (dc dl_X11_reads 20 rfl) rfl rfl ?_
        refine s_getI (pc := 41) fl_X11_181 lk_Mo_0 kk_Mo_0_14 (dc dl_X11_reads 21 rfl) (fun v10 => ?_)
        refine s_putI (pc := 44) fw_X11_187 lk_Mo_0 kk_Mo_0_15 (dc dl_X11_reads 22 rfl) ?_
        refine s_aload_n (pc := 47) (dc dl_X11_reads 23 rfl) rfl rfl ?_
        refine s_iconst (pc := 48) (v := 1) (dc dl_X11_reads 24 rfl) ic_1 ?_
        refine s_putI (pc := 49) fw_X11_190 lk_Mo_0 kk_Mo_0_16 (dc dl_X11_reads 25 rfl) ?_
        refine s_aload_n (pc := 52) (dc dl_X11_reads 26 rfl) rfl rfl ?_
        refine s_aload_n (pc := 53) (dc dl_X11_reads 27 rfl) rfl rfl ?_
        refine s_getI (pc := 54) fl_X11_181 lk_Mo_0 kk_Mo_0_14 (dc dl_X11_reads 28 rfl) (fun v11 => ?_)
        refine s_call (pc := 57) (rest := []) hG (calls_V (mi := mX11_reads) (o := 0) (As := [.int v11]) (rest := []) hG (dc dl_X11_reads 29 rfl) mo_X11_raw mv_X11_raw ml_X11_184 ⟨Nat.le_of_ble_eq_true rfl, Nat.le_of_ble_eq_true rfl⟩ rfl rfl (Nat.le_of_ble_eq_true rfl) lk_Mo_0 rfl) (cn_X11_raw l G hG ad v11) rfl (fun r12 => ?_)
        refine s_istore_n (pc := 60) (lv' := [some (.ref (ad 0)), some (.int r12)]) (dc dl_X11_reads 30 rfl) rfl (Nat.le_of_ble_eq_true rfl) rfl ?_
        refine s_iload_n (pc := 61) (dc dl_X11_reads 31 rfl) rfl rfl ?_
        refine s_iconst (pc := 62) (v := (-1)) (dc dl_X11_reads 32 rfl) ic_m1 ?_
        refine s_icmp_ne (pc := 63) (tgt := 72) (dc dl_X11_reads 33 rfl) rfl ?_ ?_
        · refine s_aload_n (pc := 66) (dc dl_X11_reads 34 rfl) rfl rfl ?_
          refine s_iconst (pc := 67) (v := 0) (dc dl_X11_reads 35 rfl) ic_0 ?_
          refine s_putI (pc := 68) fw_X11_190 lk_Mo_0 kk_Mo_0_16 (dc dl_X11_reads 36 rfl) ?_
          exact s_return (pc := 71) rfl (dc dl_X11_reads 37 rfl)
        · refine s_aload_n (pc := 72) (dc dl_X11_reads 38 rfl) rfl rfl ?_
          refine s_aload_n (pc := 73) (dc dl_X11_reads 39 rfl) rfl rfl ?_
          refine s_getI (pc := 74) fl_X11_181 lk_Mo_0 kk_Mo_0_14 (dc dl_X11_reads 40 rfl) (fun v13 => ?_)
          refine s_iconst (pc := 77) (v := 1) (dc dl_X11_reads 41 rfl) ic_1 ?_
          refine s_iadd (pc := 78) (dc dl_X11_reads 42 rfl) ?_
          refine s_putI (pc := 79) fw_X11_181 lk_Mo_0 kk_Mo_0_14 (dc dl_X11_reads 43 rfl) ?_
          refine s_aload_n (pc := 82) (dc dl_X11_reads 44 rfl) rfl rfl ?_
          refine s_iload_n (pc := 83) (dc dl_X11_reads 45 rfl) rfl rfl ?_
          refine s_putI (pc := 84) fw_X11_193 lk_Mo_0 kk_Mo_0_17 (dc dl_X11_reads 46 rfl) ?_
          refine s_aload_n (pc := 87) (dc dl_X11_reads 47 rfl) rfl rfl ?_
          refine s_iload_n (pc := 88) (dc dl_X11_reads 48 rfl) rfl rfl ?_
          refine s_call (pc := 89) (rest := []) hG (calls_V (mi := mX11_reads) (o := 0) (As := [.int r12]) (rest := []) hG (dc dl_X11_reads 49 rfl) mo_X11_isLetter mv_X11_isLetter ml_X11_196 ⟨Nat.le_of_ble_eq_true rfl, Nat.le_of_ble_eq_true rfl⟩ rfl rfl (Nat.le_of_ble_eq_true rfl) lk_Mo_0 rfl) (cn_X11_isLetter l G hG ad r12) rfl (fun r14 => ?_)
          refine s_jn (pj := 273) (fun a16 : Unit => [none, none]) (fun a16 : Unit => []) (fun a16 => ?_) (fun j15 hj15 => ?_)
          · exact s_return (pc := 273) rfl (dc dl_X11_reads 142 rfl)
          · refine s_if_eq (pc := 92) (tgt := 155) (dc dl_X11_reads 50 rfl) rfl ?_ ?_
            · refine s_aload_n (pc := 155) (dc dl_X11_reads 81 rfl) rfl rfl ?_
              refine s_iload_n (pc := 156) (dc dl_X11_reads 82 rfl) rfl rfl ?_
              refine s_call (pc := 157) (rest := []) hG (calls_V (mi := mX11_reads) (o := 0) (As := [.int r12]) (rest := []) hG (dc dl_X11_reads 83 rfl) mo_X11_isDigit mv_X11_isDigit ml_X11_202 ⟨Nat.le_of_ble_eq_true rfl, Nat.le_of_ble_eq_true rfl⟩ rfl rfl (Nat.le_of_ble_eq_true rfl) lk_Mo_0 rfl) (cn_X11_isDigit l G hG ad r12) rfl (fun r17 => ?_)
              refine s_if_eq (pc := 160) (tgt := 260) (dc dl_X11_reads 84 rfl) rfl ?_ ?_
              · refine s_aload_n (pc := 260) (dc dl_X11_reads 135 rfl) rfl rfl ?_
                refine s_iload_n (pc := 261) (dc dl_X11_reads 136 rfl) rfl rfl ?_
                refine s_call (pc := 262) (rest := []) hG (calls_V (mi := mX11_reads) (o := 0) (As := [.int r12]) (rest := []) hG (dc dl_X11_reads 137 rfl) mo_X11_isMarkSign mv_X11_isMarkSign ml_X11_205 ⟨Nat.le_of_ble_eq_true rfl, Nat.le_of_ble_eq_true rfl⟩ rfl rfl (Nat.le_of_ble_eq_true rfl) lk_Mo_0 rfl) (cn_X11_isMarkSign l G hG ad r12) rfl (fun r18 => ?_)
                refine s_if_eq (pc := 265) (tgt := 273) (dc dl_X11_reads 138 rfl) rfl ?_ ?_
                · exact s_wk (hj15 ()) rfl
                · refine s_aload_n (pc := 268) (dc dl_X11_reads 139 rfl) rfl rfl ?_
                  refine s_iconst (pc := 269) (v := 4) (dc dl_X11_reads 140 rfl) ic_4 ?_
                  refine s_putI (pc := 270) fw_X11_190 lk_Mo_0 kk_Mo_0_16 (dc dl_X11_reads 141 rfl) ?_
                  exact s_wk (hj15 ()) rfl
              · refine s_aload_n (pc := 163) (dc dl_X11_reads 85 rfl) rfl rfl ?_
                refine s_iload_n (pc := 164) (dc dl_X11_reads 86 rfl) rfl rfl ?_
                refine s_bipush (pc := 165) (v := 48) (dc dl_X11_reads 87 rfl) bi_48 ?_
                refine s_isub (pc := 167) (dc dl_X11_reads 88 rfl) ?_
                refine s_putI (pc := 168) fw_X11_193 lk_Mo_0 kk_Mo_0_17 (dc dl_X11_reads 89 rfl) ?_
                refine s_weak (lv' := [some (.ref (ad 0)), none]) rfl ?_
                refine s_loop (pc := 171) (fun s20 : Unit => [some (.ref (ad 0)), none]) [] (fun self19 hself19 s20 => ?_) _ ()
                refine s_aload_n (pc := 171) (dc dl_X11_reads 90 rfl) rfl rfl ?_
                refine s_aload_n (pc := 172) (dc dl_X11_reads 91 rfl) rfl rfl ?_
                refine s_aload_n (pc := 173) (dc dl_X11_reads 92 rfl) rfl rfl ?_
                refine s_getI (pc := 174) fl_X11_181 lk_Mo_0 kk_Mo_0_14 (dc dl_X11_reads 93 rfl) (fun v21 => ?_)
                refine s_call (pc := 177) (rest := [.ref (ad 0)]) hG (calls_V (mi := mX11_reads) (o := 0) (As := [.int v21]) (rest := [.ref (ad 0)]) hG (dc dl_X11_reads 94 rfl) mo_X11_raw mv_X11_raw ml_X11_184 ⟨Nat.le_of_ble_eq_true rfl, Nat.le_of_ble_eq_true rfl⟩ rfl rfl (Nat.le_of_ble_eq_true rfl) lk_Mo_0 rfl) (cn_X11_raw l G hG ad v21) rfl (fun r22 => ?_)
                refine s_call (pc := 180) (rest := []) hG (calls_V (mi := mX11_reads) (o := 0) (As := [.int r22]) (rest := []) hG (dc dl_X11_reads 95 rfl) mo_X11_isDigit mv_X11_isDigit ml_X11_202 ⟨Nat.le_of_ble_eq_true rfl, Nat.le_of_ble_eq_true rfl⟩ rfl rfl (Nat.le_of_ble_eq_true rfl) lk_Mo_0 rfl) (cn_X11_isDigit l G hG ad r22) rfl (fun r23 => ?_)
                refine s_if_eq (pc := 183) (tgt := 239) (dc dl_X11_reads 96 rfl) rfl ?_ ?_
                · refine s_aload_n (pc := 239) (dc dl_X11_reads 124 rfl) rfl rfl ?_
                  refine s_getI (pc := 240) fl_X11_181 lk_Mo_0 kk_Mo_0_14 (dc dl_X11_reads 125 rfl) (fun v24 => ?_)
                  refine s_aload_n (pc := 243) (dc dl_X11_reads 126 rfl) rfl rfl ?_
                  refine s_getI (pc := 244) fl_X11_187 lk_Mo_0 kk_Mo_0_15 (dc dl_X11_reads 127 rfl) (fun v25 => ?_)
                  refine s_isub (pc := 247) (dc dl_X11_reads 128 rfl) ?_
                  refine s_iconst (pc := 248) (v := 5) (dc dl_X11_reads 129 rfl) ic_5 ?_
                  refine s_icmp_ge (pc := 249) (tgt := 273) (dc dl_X11_reads 130 rfl) rfl ?_ ?_
                  · exact s_wk (hj15 ()) rfl
                  · refine s_aload_n (pc := 252) (dc dl_X11_reads 131 rfl) rfl rfl ?_
                    refine s_iconst (pc := 253) (v := 3) (dc dl_X11_reads 132 rfl) ic_3 ?_
                    refine s_putI (pc := 254) fw_X11_190 lk_Mo_0 kk_Mo_0_16 (dc dl_X11_reads 133 rfl) ?_
                    refine s_goto (pc := 257) (tgt := 273) (dc dl_X11_reads 134 rfl) rfl ?_
                    exact s_wk (hj15 ()) rfl
                · refine s_aload_n (pc := 186) (dc dl_X11_reads 97 rfl) rfl rfl ?_
                  refine s_aload_n (pc := 187) (dc dl_X11_reads 98 rfl) rfl rfl ?_
                  refine s_getI (pc := 188) fl_X11_193 lk_Mo_0 kk_Mo_0_17 (dc dl_X11_reads 99 rfl) (fun v26 => ?_)
                  refine s_sipush (pc := 191) (v := 10000) (dc dl_X11_reads 100 rfl) si_10000 ?_
                  refine s_jn (pj := 223) (fun a28 : Int32 => [some (.ref (ad 0)), none]) (fun a28 : Int32 => [.int a28, .ref (ad 0)]) (fun a28 => ?_) (fun j27 hj27 => ?_)
                  · refine s_putI (pc := 223) fw_X11_193 lk_Mo_0 kk_Mo_0_17 (dc dl_X11_reads 116 rfl) ?_
                    refine s_aload_n (pc := 226) (dc dl_X11_reads 117 rfl) rfl rfl ?_
                    refine s_aload_n (pc := 227) (dc dl_X11_reads 118 rfl) rfl rfl ?_
                    refine s_getI (pc := 228) fl_X11_181 lk_Mo_0 kk_Mo_0_14 (dc dl_X11_reads 119 rfl) (fun v29 => ?_)
                    refine s_iconst (pc := 231) (v := 1) (dc dl_X11_reads 120 rfl) ic_1 ?_
                    refine s_iadd (pc := 232) (dc dl_X11_reads 121 rfl) ?_
                    refine s_putI (pc := 233) fw_X11_181 lk_Mo_0 kk_Mo_0_14 (dc dl_X11_reads 122 rfl) ?_
                    refine s_goto (pc := 236) (tgt := 171) (dc dl_X11_reads 123 rfl) rfl ?_
                    exact s_wk (hself19 ()) rfl
                  · refine s_icmp_ge (pc := 194) (tgt := 219) (dc dl_X11_reads 101 rfl) rfl ?_ ?_
                    · refine s_aload_n (pc := 219) (dc dl_X11_reads 114 rfl) rfl rfl ?_
                      refine s_getI (pc := 220) fl_X11_193 lk_Mo_0 kk_Mo_0_17 (dc dl_X11_reads 115 rfl) (fun v30 => ?_)
                      exact s_wk (hj27 v30) rfl
                    · refine s_bipush (pc := 197) (v := 10) (dc dl_X11_reads 102 rfl) bi_10 ?_
                      refine s_aload_n (pc := 199) (dc dl_X11_reads 103 rfl) rfl rfl ?_
                      refine s_getI (pc := 200) fl_X11_193 lk_Mo_0 kk_Mo_0_17 (dc dl_X11_reads 104 rfl) (fun v31 => ?_)
                      refine s_imul (pc := 203) (dc dl_X11_reads 105 rfl) ?_
                      refine s_aload_n (pc := 204) (dc dl_X11_reads 106 rfl) rfl rfl ?_
                      refine s_aload_n (pc := 205) (dc dl_X11_reads 107 rfl) rfl rfl ?_
                      refine s_getI (pc := 206) fl_X11_181 lk_Mo_0 kk_Mo_0_14 (dc dl_X11_reads 108 rfl) (fun v32 => ?_)
                      refine s_call (pc := 209) (rest := [.int (10 * v31), .ref (ad 0)]) hG (calls_V (mi := mX11_reads) (o := 0) (As := [.int v32]) (rest := [.int (10 * v31), .ref (ad 0)]) hG (dc dl_X11_reads 109 rfl) mo_X11_raw mv_X11_raw ml_X11_184 ⟨Nat.le_of_ble_eq_true rfl, Nat.le_of_ble_eq_true rfl⟩ rfl rfl (Nat.le_of_ble_eq_true rfl) lk_Mo_0 rfl) (cn_X11_raw l G hG ad v32) rfl (fun r33 => ?_)
                      refine s_iadd (pc := 212) (dc dl_X11_reads 110 rfl) ?_
                      refine s_bipush (pc := 213) (v := 48) (dc dl_X11_reads 111 rfl) bi_48 ?_
                      refine s_isub (pc := 215) (dc dl_X11_reads 112 rfl) ?_
                      refine s_goto (pc := 216) (tgt := 223) (dc dl_X11_reads 113 rfl) rfl ?_
                      exact s_wk (hj27 (((10 * v31) + r33) - 48)) rfl
            · refine s_weak (lv' := [some (.ref (ad 0)), none]) rfl ?_
              refine s_loop (pc := 95) (fun s35 : Unit => [some (.ref (ad 0)), none]) [] (fun self34 hself34 s35 => ?_) _ ()
              refine s_aload_n (pc := 95) (dc dl_X11_reads 51 rfl) rfl rfl ?_
              refine s_aload_n (pc := 96) (dc dl_X11_reads 52 rfl) rfl rfl ?_
              refine s_aload_n (pc := 97) (dc dl_X11_reads 53 rfl) rfl rfl ?_
              refine s_getI (pc := 98) fl_X11_181 lk_Mo_0 kk_Mo_0_14 (dc dl_X11_reads 54 rfl) (fun v36 => ?_)
              refine s_call (pc := 101) (rest := [.ref (ad 0)]) hG (calls_V (mi := mX11_reads) (o := 0) (As := [.int v36]) (rest := [.ref (ad 0)]) hG (dc dl_X11_reads 55 rfl) mo_X11_raw mv_X11_raw ml_X11_184 ⟨Nat.le_of_ble_eq_true rfl, Nat.le_of_ble_eq_true rfl⟩ rfl rfl (Nat.le_of_ble_eq_true rfl) lk_Mo_0 rfl) (cn_X11_raw l G hG ad v36) rfl (fun r37 => ?_)
              refine s_call (pc := 104) (rest := []) hG (calls_V (mi := mX11_reads) (o := 0) (As := [.int r37]) (rest := []) hG (dc dl_X11_reads 56 rfl) mo_X11_isLetter mv_X11_isLetter ml_X11_196 ⟨Nat.le_of_ble_eq_true rfl, Nat.le_of_ble_eq_true rfl⟩ rfl rfl (Nat.le_of_ble_eq_true rfl) lk_Mo_0 rfl) (cn_X11_isLetter l G hG ad r37) rfl (fun r38 => ?_)
              refine s_if_eq (pc := 107) (tgt := 123) (dc dl_X11_reads 57 rfl) rfl ?_ ?_
              · refine s_aload_n (pc := 123) (dc dl_X11_reads 65 rfl) rfl rfl ?_
                refine s_aload_n (pc := 124) (dc dl_X11_reads 66 rfl) rfl rfl ?_
                refine s_aload_n (pc := 125) (dc dl_X11_reads 67 rfl) rfl rfl ?_
                refine s_getI (pc := 126) fl_X11_187 lk_Mo_0 kk_Mo_0_15 (dc dl_X11_reads 68 rfl) (fun v39 => ?_)
                refine s_aload_n (pc := 129) (dc dl_X11_reads 69 rfl) rfl rfl ?_
                refine s_getI (pc := 130) fl_X11_181 lk_Mo_0 kk_Mo_0_14 (dc dl_X11_reads 70 rfl) (fun v40 => ?_)
                refine s_call (pc := 133) (rest := [.ref (ad 0)]) hG (calls_V (mi := mX11_reads) (o := 0) (As := [.int v39, .int v40]) (rest := [.ref (ad 0)]) hG (dc dl_X11_reads 71 rfl) mo_X11_wordAt mv_X11_wordAt ml_X11_199 ⟨Nat.le_of_ble_eq_true rfl, Nat.le_of_ble_eq_true rfl⟩ rfl rfl (Nat.le_of_ble_eq_true rfl) lk_Mo_0 rfl) (cn_X11_wordAt l G hG ad v39 v40) rfl (fun r41 => ?_)
                refine s_putI (pc := 136) fw_X11_193 lk_Mo_0 kk_Mo_0_17 (dc dl_X11_reads 72 rfl) ?_
                refine s_aload_n (pc := 139) (dc dl_X11_reads 73 rfl) rfl rfl ?_
                refine s_getI (pc := 140) fl_X11_193 lk_Mo_0 kk_Mo_0_17 (dc dl_X11_reads 74 rfl) (fun v42 => ?_)
                refine s_iconst (pc := 143) (v := (-1)) (dc dl_X11_reads 75 rfl) ic_m1 ?_
                refine s_icmp_eq (pc := 144) (tgt := 273) (dc dl_X11_reads 76 rfl) rfl ?_ ?_
                · exact s_wk (hj15 ()) rfl
                · refine s_aload_n (pc := 147) (dc dl_X11_reads 77 rfl) rfl rfl ?_
                  refine s_iconst (pc := 148) (v := 2) (dc dl_X11_reads 78 rfl) ic_2 ?_
                  refine s_putI (pc := 149) fw_X11_190 lk_Mo_0 kk_Mo_0_16 (dc dl_X11_reads 79 rfl) ?_
                  refine s_goto (pc := 152) (tgt := 273) (dc dl_X11_reads 80 rfl) rfl ?_
                  exact s_wk (hj15 ()) rfl
              · refine s_aload_n (pc := 110) (dc dl_X11_reads 58 rfl) rfl rfl ?_
                refine s_aload_n (pc := 111) (dc dl_X11_reads 59 rfl) rfl rfl ?_
                refine s_getI (pc := 112) fl_X11_181 lk_Mo_0 kk_Mo_0_14 (dc dl_X11_reads 60 rfl) (fun v43 => ?_)
                refine s_iconst (pc := 115) (v := 1) (dc dl_X11_reads 61 rfl) ic_1 ?_
                refine s_iadd (pc := 116) (dc dl_X11_reads 62 rfl) ?_
                refine s_putI (pc := 117) fw_X11_181 lk_Mo_0 kk_Mo_0_14 (dc dl_X11_reads 63 rfl) ?_
                refine s_goto (pc := 120) (tgt := 95) (dc dl_X11_reads 64 rfl) rfl ?_
                exact s_wk (hself34 ()) rfl
def gX11_errs (x1 : Int32) : MM Int32 :=
  bd (sv 0 31 x1) fun _ =>
  bd (ld 0 15) fun v1 =>
  bd (sv 0 32 v1) fun _ =>
  pr ((-1))
set_option maxHeartbeats 4000000 in
theorem cn_X11_errs (l : Launch) (G : Gl) (hG : gOk G) (ad : Nat → Nat) (x1 : Int32) : Cn l G mX11_errs 0 lay_Mo ad [.ref (ad 0), .int x1] (gX11_errs x1) := by
  refine cn_of (lv := [some (.ref (ad 0)), some (.int x1)]) (by decide +kernel) rfl (Nat.le_of_ble_eq_true rfl) rfl ?_
  unfold gX11_errs
  refine s_aload_n (pc := 0) (dc dl_X11_errs 0 rfl) rfl rfl ?_
  refine s_iload_n (pc := 1) (dc dl_X11_errs 1 rfl) rfl rfl ?_
  refine s_putI (pc := 2) fw_X11_208 lk_Mo_0 kk_Mo_0_31 (dc dl_X11_errs 2 rfl) ?_
  refine s_aload_n (pc := 5) (dc dl_X11_errs 3 rfl) rfl rfl ?_
  refine s_aload_n (pc := 6) (dc dl_X11_errs 4 rfl) rfl rfl ?_
  refine s_getI (pc := 7) fl_X11_187 lk_Mo_0 kk_Mo_0_15 (dc dl_X11_errs 5 rfl) (fun v1 => ?_)
  refine s_putI (pc := 10) fw_X11_211 lk_Mo_0 kk_Mo_0_32 (dc dl_X11_errs 6 rfl) ?_
  refine s_iconst (pc := 13) (v := (-1)) (dc dl_X11_errs 7 rfl) ic_m1 ?_
  exact s_ireturn (pc := 14) rfl (dc dl_X11_errs 8 rfl)
def gX11_isWord (x1 : Int32) : MM Int32 :=
  bd (ld 0 16) fun v1 =>
  jn (fun (a3 : Int32) =>
  rz a3) (fun j2 =>
  jn (fun (a5 : Unit) =>
  j2 0) (fun j4 =>
  (if v1 = 2 then
  bd (ld 0 17) fun v6 =>
  (if v6 = x1 then
  j2 1
  else
  j4 ())
  else
  j4 ())))
set_option maxHeartbeats 4000000 in
theorem cn_X11_isWord (l : Launch) (G : Gl) (hG : gOk G) (ad : Nat → Nat) (x1 : Int32) : Cn l G mX11_isWord 0 lay_Mo ad [.ref (ad 0), .int x1] (gX11_isWord x1) := by
  refine cn_of (lv := [some (.ref (ad 0)), some (.int x1)]) (by decide +kernel) rfl (Nat.le_of_ble_eq_true rfl) rfl ?_
  unfold gX11_isWord
  refine s_aload_n (pc := 0) (dc dl_X11_isWord 0 rfl) rfl rfl ?_
  refine s_getI (pc := 1) fl_X11_190 lk_Mo_0 kk_Mo_0_16 (dc dl_X11_isWord 1 rfl) (fun v1 => ?_)
  refine s_iconst (pc := 4) (v := 2) (dc dl_X11_isWord 2 rfl) ic_2 ?_
  refine s_jn (pj := 21) (fun a3 : Int32 => [none, none]) (fun a3 : Int32 => [.int a3]) (fun a3 => ?_) (fun j2 hj2 => ?_)
  · exact s_zreturn (pc := 21) rfl (dc dl_X11_isWord 11 rfl)
  · refine s_jn (pj := 20) (fun a5 : Unit => [none, none]) (fun a5 : Unit => []) (fun a5 => ?_) (fun j4 hj4 => ?_)
    · refine s_iconst (pc := 20) (v := 0) (dc dl_X11_isWord 10 rfl) ic_0 ?_
      exact s_wk (hj2 0) rfl
    · refine s_icmp_ne (pc := 5) (tgt := 20) (dc dl_X11_isWord 3 rfl) rfl ?_ ?_
      · refine s_aload_n (pc := 8) (dc dl_X11_isWord 4 rfl) rfl rfl ?_
        refine s_getI (pc := 9) fl_X11_193 lk_Mo_0 kk_Mo_0_17 (dc dl_X11_isWord 5 rfl) (fun v6 => ?_)
        refine s_iload_n (pc := 12) (dc dl_X11_isWord 6 rfl) rfl rfl ?_
        refine s_icmp_ne (pc := 13) (tgt := 20) (dc dl_X11_isWord 7 rfl) rfl ?_ ?_
        · refine s_iconst (pc := 16) (v := 1) (dc dl_X11_isWord 8 rfl) ic_1 ?_
          refine s_goto (pc := 17) (tgt := 21) (dc dl_X11_isWord 9 rfl) rfl ?_
          exact s_wk (hj2 1) rfl
        · exact s_wk (hj4 ()) rfl
      · exact s_wk (hj4 ()) rfl
