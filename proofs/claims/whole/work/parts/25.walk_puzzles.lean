def gX6_strandEnd (x1 : Int32) : MM Int32 :=
  loopC 100000 (fun (self1 : (Int32 × Int32) → MM Int32) (s2 : Int32 × Int32) =>
  bd (ld 0 0) fun v3 =>
  (if v3 ≤ s2.2 then
  pr s2.1
  else
  bd (gX8_get s2.2) fun r4 =>
  bd (lf rh0 0 (gJ9_abs_0f7a4 r4)) fun r5 =>
  jn (fun (a7 : Int32) =>
  lt (s2.2 + 1) fun y8 =>
  self1 (a7, y8)) (fun j6 =>
  (if s2.1 = r5 then
  lt (r5 - 1) fun y9 =>
  j6 y9
  else
  (if s2.1 = (r5 - 1) then
  j6 r5
  else
  j6 s2.1))))) (x1, 0)
set_option maxHeartbeats 4000000 in
theorem cn_X6_strandEnd (l : Launch) (G : Gl) (hG : gOk G) (ad : Nat → Nat) (x1 : Int32) : Cn l G mX6_strandEnd 1 lay_Told ad [.ref (ad 0), .int x1] (gX6_strandEnd x1) := by
  refine cn_of (lv := [some (.ref (ad 0)), some (.int x1), none, none, none]) (by decide +kernel) rfl (Nat.le_of_ble_eq_true rfl) rfl ?_
  unfold gX6_strandEnd
  refine s_iload_n (pc := 0) (dc dl_X6_strandEnd 0 rfl) rfl rfl ?_
  refine s_istore_n (pc := 1) (lv' := [some (.ref (ad 0)), some (.int x1), some (.int x1), none, none]) (dc dl_X6_strandEnd 1 rfl) rfl (Nat.le_of_ble_eq_true rfl) rfl ?_
  refine s_iconst (pc := 2) (v := 0) (dc dl_X6_strandEnd 2 rfl) ic_0 ?_
  refine s_istore_n (pc := 3) (lv' := [some (.ref (ad 0)), some (.int x1), some (.int x1), some (.int 0), none]) (dc dl_X6_strandEnd 3 rfl) rfl (Nat.le_of_ble_eq_true rfl) rfl ?_
  refine s_weak (lv' := [some (.ref (ad 0)), none, some (.int x1), some (.int 0), none]) rfl ?_
  refine s_loop (pc := 4) (fun s2 : Int32 × Int32 => [some (.ref (ad 0)), none, some (.int s2.1), some (.int s2.2), none]) [] (fun self1 hself1 s2 => ?_) _ (x1, 0)
  refine s_iload_n (pc := 4) (dc dl_X6_strandEnd 4 rfl) rfl rfl ?_
  refine s_aload_n (pc := 5) (dc dl_X6_strandEnd 5 rfl) rfl rfl ?_
  refine s_getI (pc := 6) fl_X6_25 lk_Told_0 kk_Told_0_0 (dc dl_X6_strandEnd 6 rfl) (fun v3 => ?_)
  refine s_icmp_ge (pc := 9) (tgt := 53) (dc dl_X6_strandEnd 7 rfl) rfl ?_ ?_
  · refine s_iload_n (pc := 53) (dc dl_X6_strandEnd 30 rfl) rfl rfl ?_
    exact s_ireturn (pc := 54) rfl (dc dl_X6_strandEnd 31 rfl)
  · refine s_aload_n (pc := 12) (dc dl_X6_strandEnd 8 rfl) rfl rfl ?_
    refine s_iload_n (pc := 13) (dc dl_X6_strandEnd 9 rfl) rfl rfl ?_
    refine s_call (pc := 14) (rest := []) hG (calls_V (mi := mX6_strandEnd) (o := 0) (As := [.int s2.2]) (rest := []) hG (dc dl_X6_strandEnd 10 rfl) mo_X8_get mv_X8_get ml_X6_30 ⟨Nat.le_of_ble_eq_true rfl, Nat.le_of_ble_eq_true rfl⟩ rfl rfl (Nat.le_of_ble_eq_true rfl) lk_Told_0 rfl) (cn_X8_get l G hG ad s2.2) rfl (fun r4 => ?_)
    refine s_calll (pc := 17) (ρ := rh0) (rest := []) hG (ss_Told_E_rh0) (calls_S (mi := mX6_strandEnd) (As := [.int r4]) (rest := []) hG (dc dl_X6_strandEnd 11 rfl) mo_J9_abs_0f7a4 ms_J9_abs_0f7a4 ml_X6_34 ⟨Nat.le_of_ble_eq_true rfl, Nat.le_of_ble_eq_true rfl⟩ rfl rfl (Nat.le_of_ble_eq_true rfl)) (cn_J9_abs_0f7a4 l G hG (fun i => ad (rh0 i)) r4) rfl rfl (fun r5 => ?_)
    refine s_istore (pc := 20) (lv' := [some (.ref (ad 0)), none, some (.int s2.1), some (.int s2.2), some (.int r5)]) (dc dl_X6_strandEnd 12 rfl) (Nat.le_of_ble_eq_true rfl) rfl ?_
    refine s_iload_n (pc := 22) (dc dl_X6_strandEnd 13 rfl) rfl rfl ?_
    refine s_iload (pc := 23) (dc dl_X6_strandEnd 14 rfl) rfl ?_
    refine s_jn (pj := 47) (fun a7 : Int32 => [some (.ref (ad 0)), none, some (.int a7), some (.int s2.2), none]) (fun a7 : Int32 => []) (fun a7 => ?_) (fun j6 hj6 => ?_)
    · refine s_iincL (pc := 47) (lf' := fun y8 => [some (.ref (ad 0)), none, some (.int a7), some (.int y8), none]) (dc dl_X6_strandEnd 28 rfl) rfl rfl (Nat.le_of_ble_eq_true rfl) (fun _ => rfl) (fun y8 => ?_)
      refine s_goto (pc := 50) (tgt := 4) (dc dl_X6_strandEnd 29 rfl) rfl ?_
      exact s_wk (hself1 (a7, y8)) rfl
    · refine s_icmp_ne (pc := 25) (tgt := 36) (dc dl_X6_strandEnd 15 rfl) rfl ?_ ?_
      · refine s_iload (pc := 28) (dc dl_X6_strandEnd 16 rfl) rfl ?_
        refine s_iconst (pc := 30) (v := 1) (dc dl_X6_strandEnd 17 rfl) ic_1 ?_
        refine s_isub (pc := 31) (dc dl_X6_strandEnd 18 rfl) ?_
        refine s_istore_nL (pc := 32) (lf' := fun y9 => [some (.ref (ad 0)), none, some (.int y9), some (.int s2.2), some (.int r5)]) (dc dl_X6_strandEnd 19 rfl) rfl (Nat.le_of_ble_eq_true rfl) (fun _ => rfl) (fun y9 => ?_)
        refine s_goto (pc := 33) (tgt := 47) (dc dl_X6_strandEnd 20 rfl) rfl ?_
        exact s_wk (hj6 y9) rfl
      · refine s_iload_n (pc := 36) (dc dl_X6_strandEnd 21 rfl) rfl rfl ?_
        refine s_iload (pc := 37) (dc dl_X6_strandEnd 22 rfl) rfl ?_
        refine s_iconst (pc := 39) (v := 1) (dc dl_X6_strandEnd 23 rfl) ic_1 ?_
        refine s_isub (pc := 40) (dc dl_X6_strandEnd 24 rfl) ?_
        refine s_icmp_ne (pc := 41) (tgt := 47) (dc dl_X6_strandEnd 25 rfl) rfl ?_ ?_
        · refine s_iload (pc := 44) (dc dl_X6_strandEnd 26 rfl) rfl ?_
          refine s_istore_n (pc := 46) (lv' := [some (.ref (ad 0)), none, some (.int r5), some (.int s2.2), some (.int r5)]) (dc dl_X6_strandEnd 27 rfl) rfl (Nat.le_of_ble_eq_true rfl) rfl ?_
          exact s_wk (hj6 r5) rfl
        · exact s_wk (hj6 s2.1) rfl
def gX6_crossingsLeft : MM Int32 :=
  loopC 100000 (fun (self1 : (Int32 × Int32) → MM Int32) (s2 : Int32 × Int32) =>
  bd (ld 4 0) fun v3 =>
  (if v3 ≤ s2.2 then
  pr s2.1
  else
  bd (lf rh20 2 (gX8_get s2.2)) fun r4 =>
  jn (fun (a6 : Int32) =>
  lt (s2.2 + 1) fun y7 =>
  self1 (a6, y7)) (fun j5 =>
  jn (fun (a9 : Unit) =>
  bd (ln 1) fun v10 =>
  (if v10 ≤ s2.1 then
  j5 s2.1
  else
  bd (sa 1 s2.1 r4) fun _ =>
  lt (s2.1 + 1) fun y11 =>
  j5 y11)) (fun j8 =>
  (if s2.1 ≤ 0 then
  j8 ()
  else
  bd (ln 1) fun v12 =>
  (if v12 < s2.1 then
  j8 ()
  else
  bd (la 1 (s2.1 - 1)) fun v13 =>
  (if v13 = (-r4) then
  lt (s2.1 + (-1)) fun y14 =>
  j5 y14
  else
  j8 ()))))))) (0, 0)
set_option maxHeartbeats 4000000 in
theorem cn_X6_crossingsLeft (l : Launch) (G : Gl) (hG : gOk G) (ad : Nat → Nat) : Cn l G mX6_crossingsLeft 1 lay_PuzT ad [.ref (ad 0), .ref (ad 4)] (gX6_crossingsLeft) := by
  refine cn_of (lv := [some (.ref (ad 0)), some (.ref (ad 4)), none, none, none]) (by decide +kernel) rfl (Nat.le_of_ble_eq_true rfl) rfl ?_
  unfold gX6_crossingsLeft
  refine s_iconst (pc := 0) (v := 0) (dc dl_X6_crossingsLeft 0 rfl) ic_0 ?_
  refine s_istore_n (pc := 1) (lv' := [some (.ref (ad 0)), some (.ref (ad 4)), some (.int 0), none, none]) (dc dl_X6_crossingsLeft 1 rfl) rfl (Nat.le_of_ble_eq_true rfl) rfl ?_
  refine s_iconst (pc := 2) (v := 0) (dc dl_X6_crossingsLeft 2 rfl) ic_0 ?_
  refine s_istore_n (pc := 3) (lv' := [some (.ref (ad 0)), some (.ref (ad 4)), some (.int 0), some (.int 0), none]) (dc dl_X6_crossingsLeft 3 rfl) rfl (Nat.le_of_ble_eq_true rfl) rfl ?_
  refine s_weak (lv' := [some (.ref (ad 0)), some (.ref (ad 4)), some (.int 0), some (.int 0), none]) rfl ?_
  refine s_loop (pc := 4) (fun s2 : Int32 × Int32 => [some (.ref (ad 0)), some (.ref (ad 4)), some (.int s2.1), some (.int s2.2), none]) [] (fun self1 hself1 s2 => ?_) _ (0, 0)
  refine s_iload_n (pc := 4) (dc dl_X6_crossingsLeft 4 rfl) rfl rfl ?_
  refine s_aload_n (pc := 5) (dc dl_X6_crossingsLeft 5 rfl) rfl rfl ?_
  refine s_getI (pc := 6) fl_X6_25 lk_PuzT_4 kk_PuzT_4_0 (dc dl_X6_crossingsLeft 6 rfl) (fun v3 => ?_)
  refine s_icmp_ge (pc := 9) (tgt := 78) (dc dl_X6_crossingsLeft 7 rfl) rfl ?_ ?_
  · refine s_iload_n (pc := 78) (dc dl_X6_crossingsLeft 43 rfl) rfl rfl ?_
    exact s_ireturn (pc := 79) rfl (dc dl_X6_crossingsLeft 44 rfl)
  · refine s_aload_n (pc := 12) (dc dl_X6_crossingsLeft 8 rfl) rfl rfl ?_
    refine s_iload_n (pc := 13) (dc dl_X6_crossingsLeft 9 rfl) rfl rfl ?_
    refine s_calll (pc := 14) (ρ := rh20) (rest := []) hG (ss_PuzT_Told_rh20) (calls_V (mi := mX6_crossingsLeft) (o := 4) (As := [.int s2.2]) (rest := []) hG (dc dl_X6_crossingsLeft 10 rfl) mo_X8_get mv_X8_get ml_X6_30 ⟨Nat.le_of_ble_eq_true rfl, Nat.le_of_ble_eq_true rfl⟩ rfl rfl (Nat.le_of_ble_eq_true rfl) lk_PuzT_4 rfl) (cn_X8_get l G hG (fun i => ad (rh20 i)) s2.2) rfl rfl (fun r4 => ?_)
    refine s_istore (pc := 17) (lv' := [some (.ref (ad 0)), some (.ref (ad 4)), some (.int s2.1), some (.int s2.2), some (.int r4)]) (dc dl_X6_crossingsLeft 11 rfl) (Nat.le_of_ble_eq_true rfl) rfl ?_
    refine s_iload_n (pc := 19) (dc dl_X6_crossingsLeft 12 rfl) rfl rfl ?_
    refine s_jn (pj := 72) (fun a6 : Int32 => [some (.ref (ad 0)), some (.ref (ad 4)), some (.int a6), some (.int s2.2), none]) (fun a6 : Int32 => []) (fun a6 => ?_) (fun j5 hj5 => ?_)
    · refine s_iincL (pc := 72) (lf' := fun y7 => [some (.ref (ad 0)), some (.ref (ad 4)), some (.int a6), some (.int y7), none]) (dc dl_X6_crossingsLeft 41 rfl) rfl rfl (Nat.le_of_ble_eq_true rfl) (fun _ => rfl) (fun y7 => ?_)
      refine s_goto (pc := 75) (tgt := 4) (dc dl_X6_crossingsLeft 42 rfl) rfl ?_
      exact s_wk (hself1 (a6, y7)) rfl
    · refine s_jn (pj := 52) (fun a9 : Unit => [some (.ref (ad 0)), some (.ref (ad 4)), some (.int s2.1), some (.int s2.2), some (.int r4)]) (fun a9 : Unit => []) (fun a9 => ?_) (fun j8 hj8 => ?_)
      · refine s_iload_n (pc := 52) (dc dl_X6_crossingsLeft 30 rfl) rfl rfl ?_
        refine s_aload_n (pc := 53) (dc dl_X6_crossingsLeft 31 rfl) rfl rfl ?_
        refine s_getR (pc := 54) fl_X6_9 lk_PuzT_0 kk_PuzT_0_0 (dc dl_X6_crossingsLeft 32 rfl) ?_
        refine s_alen (pc := 57) lk_PuzT_1 (dc dl_X6_crossingsLeft 33 rfl) (fun v10 => ?_)
        refine s_icmp_ge (pc := 58) (tgt := 72) (dc dl_X6_crossingsLeft 34 rfl) rfl ?_ ?_
        · exact s_wk (hj5 s2.1) rfl
        · refine s_aload_n (pc := 61) (dc dl_X6_crossingsLeft 35 rfl) rfl rfl ?_
          refine s_getR (pc := 62) fl_X6_9 lk_PuzT_0 kk_PuzT_0_0 (dc dl_X6_crossingsLeft 36 rfl) ?_
          refine s_iload_n (pc := 65) (dc dl_X6_crossingsLeft 37 rfl) rfl rfl ?_
          refine s_iload (pc := 66) (dc dl_X6_crossingsLeft 38 rfl) rfl ?_
          refine s_iast (pc := 68) lk_PuzT_1 (dc dl_X6_crossingsLeft 39 rfl) ?_
          refine s_iincL (pc := 69) (lf' := fun y11 => [some (.ref (ad 0)), some (.ref (ad 4)), some (.int y11), some (.int s2.2), some (.int r4)]) (dc dl_X6_crossingsLeft 40 rfl) rfl rfl (Nat.le_of_ble_eq_true rfl) (fun _ => rfl) (fun y11 => ?_)
          exact s_wk (hj5 y11) rfl
      · refine s_if_le (pc := 20) (tgt := 52) (dc dl_X6_crossingsLeft 13 rfl) rfl ?_ ?_
        · exact s_wk (hj8 ()) rfl
        · refine s_iload_n (pc := 23) (dc dl_X6_crossingsLeft 14 rfl) rfl rfl ?_
          refine s_aload_n (pc := 24) (dc dl_X6_crossingsLeft 15 rfl) rfl rfl ?_
          refine s_getR (pc := 25) fl_X6_9 lk_PuzT_0 kk_PuzT_0_0 (dc dl_X6_crossingsLeft 16 rfl) ?_
          refine s_alen (pc := 28) lk_PuzT_1 (dc dl_X6_crossingsLeft 17 rfl) (fun v12 => ?_)
          refine s_icmp_gt (pc := 29) (tgt := 52) (dc dl_X6_crossingsLeft 18 rfl) rfl ?_ ?_
          · exact s_wk (hj8 ()) rfl
          · refine s_aload_n (pc := 32) (dc dl_X6_crossingsLeft 19 rfl) rfl rfl ?_
            refine s_getR (pc := 33) fl_X6_9 lk_PuzT_0 kk_PuzT_0_0 (dc dl_X6_crossingsLeft 20 rfl) ?_
            refine s_iload_n (pc := 36) (dc dl_X6_crossingsLeft 21 rfl) rfl rfl ?_
            refine s_iconst (pc := 37) (v := 1) (dc dl_X6_crossingsLeft 22 rfl) ic_1 ?_
            refine s_isub (pc := 38) (dc dl_X6_crossingsLeft 23 rfl) ?_
            refine s_iald (pc := 39) lk_PuzT_1 (dc dl_X6_crossingsLeft 24 rfl) (fun v13 => ?_)
            refine s_iload (pc := 40) (dc dl_X6_crossingsLeft 25 rfl) rfl ?_
            refine s_ineg (pc := 42) (dc dl_X6_crossingsLeft 26 rfl) ?_
            refine s_icmp_ne (pc := 43) (tgt := 52) (dc dl_X6_crossingsLeft 27 rfl) rfl ?_ ?_
            · refine s_iincL (pc := 46) (lf' := fun y14 => [some (.ref (ad 0)), some (.ref (ad 4)), some (.int y14), some (.int s2.2), some (.int r4)]) (dc dl_X6_crossingsLeft 28 rfl) rfl rfl (Nat.le_of_ble_eq_true rfl) (fun _ => rfl) (fun y14 => ?_)
              refine s_goto (pc := 49) (tgt := 72) (dc dl_X6_crossingsLeft 29 rfl) rfl ?_
              exact s_wk (hj5 y14) rfl
            · exact s_wk (hj8 ()) rfl
def gX6_layRow (x1 : Int32) : MM Int32 :=
  loopC 100000 (fun (self1 : (Int32 × Int32) → MM Int32) (s2 : Int32 × Int32) =>
  bd (ln 2) fun v3 =>
  jn (fun (a5 : Unit) =>
  jn (fun (a7 : Unit) =>
  rz 0) (fun j6 =>
  (if s2.1 = 0 then
  j6 ()
  else
  (if x1 < s2.2 then
  j6 ()
  else
  (if x1 < (2 * s2.2) then
  lt (x1 - s2.2) fun y8 =>
  lt (s2.1 - 1) fun y9 =>
  loopC 100000 (fun (self10 : (Int32 × Int32 × Int32) → MM Int32) (s11 : Int32 × Int32 × Int32) =>
  (if s11.2.2 < 0 then
  bd (sv 0 2 s2.1) fun _ =>
  jn (fun (a13 : Int32) =>
  rz a13) (fun j12 =>
  (if s11.2.1 = ((1 <<< (s2.1 &&& 31)) - 1) then
  j12 1
  else
  j12 0))
  else
  nz 10 (
  bd (sa 2 s11.2.2 (irm s11.1 10)) fun _ =>
  bd (la 2 s11.2.2) fun v14 =>
  lt (s11.2.1 ||| (1 <<< (v14 &&& 31))) fun y15 =>
  nz 10 (
  lt (s11.1 / 10) fun y16 =>
  lt (s11.2.2 + (-1)) fun y17 =>
  self10 (y16, y15, y17))))) (y8, 0, y9)
  else
  j6 ()))))) (fun j4 =>
  (if v3 ≤ s2.1 then
  j4 ()
  else
  (if x1 < (2 * s2.2) then
  j4 ()
  else
  lt (s2.1 + 1) fun y18 =>
  lt (s2.2 * 10) fun y19 =>
  self1 (y18, y19))))) (0, 1)
set_option maxHeartbeats 4000000 in
theorem cn_X6_layRow (l : Launch) (G : Gl) (hG : gOk G) (ad : Nat → Nat) (x1 : Int32) : Cn l G mX6_layRow 0 lay_Puzzles ad [.ref (ad 0), .int x1] (gX6_layRow x1) := by
  refine cn_of (lv := [some (.ref (ad 0)), some (.int x1), none, none, none, none, none]) (by decide +kernel) rfl (Nat.le_of_ble_eq_true rfl) rfl ?_
  unfold gX6_layRow
  refine s_iconst (pc := 0) (v := 0) (dc dl_X6_layRow 0 rfl) ic_0 ?_
  refine s_istore_n (pc := 1) (lv' := [some (.ref (ad 0)), some (.int x1), some (.int 0), none, none, none, none]) (dc dl_X6_layRow 1 rfl) rfl (Nat.le_of_ble_eq_true rfl) rfl ?_
  refine s_iconst (pc := 2) (v := 1) (dc dl_X6_layRow 2 rfl) ic_1 ?_
  refine s_istore_n (pc := 3) (lv' := [some (.ref (ad 0)), some (.int x1), some (.int 0), some (.int 1), none, none, none]) (dc dl_X6_layRow 3 rfl) rfl (Nat.le_of_ble_eq_true rfl) rfl ?_
  refine s_weak (lv' := [some (.ref (ad 0)), some (.int x1), some (.int 0), some (.int 1), none, none, none]) rfl ?_
  refine s_loop (pc := 4) (fun s2 : Int32 × Int32 => [some (.ref (ad 0)), some (.int x1), some (.int s2.1), some (.int s2.2), none, none, none]) [] (fun self1 hself1 s2 => ?_) _ (0, 1)
  refine s_iload_n (pc := 4) (dc dl_X6_layRow 4 rfl) rfl rfl ?_
  refine s_aload_n (pc := 5) (dc dl_X6_layRow 5 rfl) rfl rfl ?_
  refine s_getR (pc := 6) fl_X6_15 lk_Puzzles_0 kk_Puzzles_0_1 (dc dl_X6_layRow 6 rfl) ?_
  refine s_alen (pc := 9) lk_Puzzles_2 (dc dl_X6_layRow 7 rfl) (fun v3 => ?_)
  refine s_jn (pj := 31) (fun a5 : Unit => [some (.ref (ad 0)), some (.int x1), some (.int s2.1), some (.int s2.2), none, none, none]) (fun a5 : Unit => []) (fun a5 => ?_) (fun j4 hj4 => ?_)
  · refine s_iload_n (pc := 31) (dc dl_X6_layRow 20 rfl) rfl rfl ?_
    refine s_jn (pj := 47) (fun a7 : Unit => [none, none, none, none, none, none, none]) (fun a7 : Unit => []) (fun a7 => ?_) (fun j6 hj6 => ?_)
    · refine s_iconst (pc := 47) (v := 0) (dc dl_X6_layRow 30 rfl) ic_0 ?_
      exact s_zreturn (pc := 48) rfl (dc dl_X6_layRow 31 rfl)
    · refine s_if_eq (pc := 32) (tgt := 47) (dc dl_X6_layRow 21 rfl) rfl ?_ ?_
      · exact s_wk (hj6 ()) rfl
      · refine s_iload_n (pc := 35) (dc dl_X6_layRow 22 rfl) rfl rfl ?_
        refine s_iload_n (pc := 36) (dc dl_X6_layRow 23 rfl) rfl rfl ?_
        refine s_icmp_lt (pc := 37) (tgt := 47) (dc dl_X6_layRow 24 rfl) rfl ?_ ?_
        · exact s_wk (hj6 ()) rfl
        · refine s_iload_n (pc := 40) (dc dl_X6_layRow 25 rfl) rfl rfl ?_
          refine s_iconst (pc := 41) (v := 2) (dc dl_X6_layRow 26 rfl) ic_2 ?_
          refine s_iload_n (pc := 42) (dc dl_X6_layRow 27 rfl) rfl rfl ?_
          refine s_imul (pc := 43) (dc dl_X6_layRow 28 rfl) ?_
          refine s_icmp_lt (pc := 44) (tgt := 49) (dc dl_X6_layRow 29 rfl) rfl ?_ ?_
          · refine s_iload_n (pc := 49) (dc dl_X6_layRow 32 rfl) rfl rfl ?_
            refine s_iload_n (pc := 50) (dc dl_X6_layRow 33 rfl) rfl rfl ?_
            refine s_isub (pc := 51) (dc dl_X6_layRow 34 rfl) ?_
            refine s_istoreL (pc := 52) (lf' := fun y8 => [some (.ref (ad 0)), some (.int x1), some (.int s2.1), some (.int s2.2), some (.int y8), none, none]) (dc dl_X6_layRow 35 rfl) (Nat.le_of_ble_eq_true rfl) (fun _ => rfl) (fun y8 => ?_)
            refine s_iconst (pc := 54) (v := 0) (dc dl_X6_layRow 36 rfl) ic_0 ?_
            refine s_istore (pc := 55) (lv' := [some (.ref (ad 0)), some (.int x1), some (.int s2.1), some (.int s2.2), some (.int y8), some (.int 0), none]) (dc dl_X6_layRow 37 rfl) (Nat.le_of_ble_eq_true rfl) rfl ?_
            refine s_iload_n (pc := 57) (dc dl_X6_layRow 38 rfl) rfl rfl ?_
            refine s_iconst (pc := 58) (v := 1) (dc dl_X6_layRow 39 rfl) ic_1 ?_
            refine s_isub (pc := 59) (dc dl_X6_layRow 40 rfl) ?_
            refine s_istoreL (pc := 60) (lf' := fun y9 => [some (.ref (ad 0)), some (.int x1), some (.int s2.1), some (.int s2.2), some (.int y8), some (.int 0), some (.int y9)]) (dc dl_X6_layRow 41 rfl) (Nat.le_of_ble_eq_true rfl) (fun _ => rfl) (fun y9 => ?_)
            refine s_weak (lv' := [some (.ref (ad 0)), none, some (.int s2.1), none, some (.int y8), some (.int 0), some (.int y9)]) rfl ?_
            refine s_loop (pc := 62) (fun s11 : Int32 × Int32 × Int32 => [some (.ref (ad 0)), none, some (.int s2.1), none, some (.int s11.1), some (.int s11.2.1), some (.int s11.2.2)]) [] (fun self10 hself10 s11 => ?_) _ (y8, 0, y9)
            refine s_iload (pc := 62) (dc dl_X6_layRow 42 rfl) rfl ?_
            refine s_if_lt (pc := 64) (tgt := 106) (dc dl_X6_layRow 43 rfl) rfl ?_ ?_
            · refine s_aload_n (pc := 106) (dc dl_X6_layRow 66 rfl) rfl rfl ?_
              refine s_iload_n (pc := 107) (dc dl_X6_layRow 67 rfl) rfl rfl ?_
              refine s_putI (pc := 108) fw_X6_18 lk_Puzzles_0 kk_Puzzles_0_2 (dc dl_X6_layRow 68 rfl) ?_
              refine s_iload (pc := 111) (dc dl_X6_layRow 69 rfl) rfl ?_
              refine s_iconst (pc := 113) (v := 1) (dc dl_X6_layRow 70 rfl) ic_1 ?_
              refine s_iload_n (pc := 114) (dc dl_X6_layRow 71 rfl) rfl rfl ?_
              refine s_ishl (pc := 115) (dc dl_X6_layRow 72 rfl) ?_
              refine s_iconst (pc := 116) (v := 1) (dc dl_X6_layRow 73 rfl) ic_1 ?_
              refine s_isub (pc := 117) (dc dl_X6_layRow 74 rfl) ?_
              refine s_jn (pj := 126) (fun a13 : Int32 => [none, none, none, none, none, none, none]) (fun a13 : Int32 => [.int a13]) (fun a13 => ?_) (fun j12 hj12 => ?_)
              · exact s_zreturn (pc := 126) rfl (dc dl_X6_layRow 79 rfl)
              · refine s_icmp_ne (pc := 118) (tgt := 125) (dc dl_X6_layRow 75 rfl) rfl ?_ ?_
                · refine s_iconst (pc := 121) (v := 1) (dc dl_X6_layRow 76 rfl) ic_1 ?_
                  refine s_goto (pc := 122) (tgt := 126) (dc dl_X6_layRow 77 rfl) rfl ?_
                  exact s_wk (hj12 1) rfl
                · refine s_iconst (pc := 125) (v := 0) (dc dl_X6_layRow 78 rfl) ic_0 ?_
                  exact s_wk (hj12 0) rfl
            · refine s_aload_n (pc := 67) (dc dl_X6_layRow 44 rfl) rfl rfl ?_
              refine s_getR (pc := 68) fl_X6_15 lk_Puzzles_0 kk_Puzzles_0_1 (dc dl_X6_layRow 45 rfl) ?_
              refine s_iload (pc := 71) (dc dl_X6_layRow 46 rfl) rfl ?_
              refine s_iload (pc := 73) (dc dl_X6_layRow 47 rfl) rfl ?_
              refine s_bipush (pc := 75) (v := 10) (dc dl_X6_layRow 48 rfl) bi_10 ?_
              refine s_irem (pc := 77) (dc dl_X6_layRow 49 rfl) ?_
              refine s_iast (pc := 78) lk_Puzzles_2 (dc dl_X6_layRow 50 rfl) ?_
              refine s_iload (pc := 79) (dc dl_X6_layRow 51 rfl) rfl ?_
              refine s_iconst (pc := 81) (v := 1) (dc dl_X6_layRow 52 rfl) ic_1 ?_
              refine s_aload_n (pc := 82) (dc dl_X6_layRow 53 rfl) rfl rfl ?_
              refine s_getR (pc := 83) fl_X6_15 lk_Puzzles_0 kk_Puzzles_0_1 (dc dl_X6_layRow 54 rfl) ?_
              refine s_iload (pc := 86) (dc dl_X6_layRow 55 rfl) rfl ?_
              refine s_iald (pc := 88) lk_Puzzles_2 (dc dl_X6_layRow 56 rfl) (fun v14 => ?_)
              refine s_ishl (pc := 89) (dc dl_X6_layRow 57 rfl) ?_
              refine s_ior (pc := 90) (dc dl_X6_layRow 58 rfl) ?_
              refine s_istoreL (pc := 91) (lf' := fun y15 => [some (.ref (ad 0)), none, some (.int s2.1), none, some (.int s11.1), some (.int y15), some (.int s11.2.2)]) (dc dl_X6_layRow 59 rfl) (Nat.le_of_ble_eq_true rfl) (fun _ => rfl) (fun y15 => ?_)
              refine s_iload (pc := 93) (dc dl_X6_layRow 60 rfl) rfl ?_
              refine s_bipush (pc := 95) (v := 10) (dc dl_X6_layRow 61 rfl) bi_10 ?_
              refine s_idiv (pc := 97) (dc dl_X6_layRow 62 rfl) ?_
              refine s_istoreL (pc := 98) (lf' := fun y16 => [some (.ref (ad 0)), none, some (.int s2.1), none, some (.int y16), some (.int y15), some (.int s11.2.2)]) (dc dl_X6_layRow 63 rfl) (Nat.le_of_ble_eq_true rfl) (fun _ => rfl) (fun y16 => ?_)
              refine s_iincL (pc := 100) (lf' := fun y17 => [some (.ref (ad 0)), none, some (.int s2.1), none, some (.int y16), some (.int y15), some (.int y17)]) (dc dl_X6_layRow 64 rfl) rfl rfl (Nat.le_of_ble_eq_true rfl) (fun _ => rfl) (fun y17 => ?_)
              refine s_goto (pc := 103) (tgt := 62) (dc dl_X6_layRow 65 rfl) rfl ?_
              exact s_wk (hself10 (y16, y15, y17)) rfl
          · exact s_wk (hj6 ()) rfl
  · refine s_icmp_ge (pc := 10) (tgt := 31) (dc dl_X6_layRow 8 rfl) rfl ?_ ?_
    · exact s_wk (hj4 ()) rfl
    · refine s_iload_n (pc := 13) (dc dl_X6_layRow 9 rfl) rfl rfl ?_
      refine s_iconst (pc := 14) (v := 2) (dc dl_X6_layRow 10 rfl) ic_2 ?_
      refine s_iload_n (pc := 15) (dc dl_X6_layRow 11 rfl) rfl rfl ?_
      refine s_imul (pc := 16) (dc dl_X6_layRow 12 rfl) ?_
      refine s_icmp_lt (pc := 17) (tgt := 31) (dc dl_X6_layRow 13 rfl) rfl ?_ ?_
      · exact s_wk (hj4 ()) rfl
      · refine s_iincL (pc := 20) (lf' := fun y18 => [some (.ref (ad 0)), some (.int x1), some (.int y18), some (.int s2.2), none, none, none]) (dc dl_X6_layRow 14 rfl) rfl rfl (Nat.le_of_ble_eq_true rfl) (fun _ => rfl) (fun y18 => ?_)
        refine s_iload_n (pc := 23) (dc dl_X6_layRow 15 rfl) rfl rfl ?_
        refine s_bipush (pc := 24) (v := 10) (dc dl_X6_layRow 16 rfl) bi_10 ?_
        refine s_imul (pc := 26) (dc dl_X6_layRow 17 rfl) ?_
        refine s_istore_nL (pc := 27) (lf' := fun y19 => [some (.ref (ad 0)), some (.int x1), some (.int y18), some (.int y19), none, none, none]) (dc dl_X6_layRow 18 rfl) rfl (Nat.le_of_ble_eq_true rfl) (fun _ => rfl) (fun y19 => ?_)
        refine s_goto (pc := 28) (tgt := 4) (dc dl_X6_layRow 19 rfl) rfl ?_
        exact s_wk (hself1 (y18, y19)) rfl
def gX6_strangeCouples : MM Int32 :=
  loopC 100000 (fun (self1 : (Int32 × Int32) → MM Int32) (s2 : Int32 × Int32) =>
  bd (ld 0 2) fun v3 =>
  jn (fun (a5 : Unit) =>
  pr s2.1) (fun j4 =>
  (if v3 ≤ s2.2 then
  j4 ()
  else
  bd (ln 2) fun v6 =>
  (if v6 ≤ s2.2 then
  j4 ()
  else
  bd (la 2 s2.2) fun v7 =>
  bd (la 2 (s2.2 - 1)) fun v8 =>
  bd (lf rh0 0 (gJ9_abs_0f7a4 (v7 - v8))) fun r9 =>
  jn (fun (a11 : Int32) =>
  lt (s2.2 + 1) fun y12 =>
  self1 (a11, y12)) (fun j10 =>
  (if r9 = 1 then
  j10 s2.1
  else
  lt (s2.1 + 1) fun y13 =>
  j10 y13)))))) (0, 1)
set_option maxHeartbeats 4000000 in
theorem cn_X6_strangeCouples (l : Launch) (G : Gl) (hG : gOk G) (ad : Nat → Nat) : Cn l G mX6_strangeCouples 1 lay_Puzzles ad [.ref (ad 0)] (gX6_strangeCouples) := by
  refine cn_of (lv := [some (.ref (ad 0)), none, none]) (by decide +kernel) rfl (Nat.le_of_ble_eq_true rfl) rfl ?_
  unfold gX6_strangeCouples
  refine s_iconst (pc := 0) (v := 0) (dc dl_X6_strangeCouples 0 rfl) ic_0 ?_
  refine s_istore_n (pc := 1) (lv' := [some (.ref (ad 0)), some (.int 0), none]) (dc dl_X6_strangeCouples 1 rfl) rfl (Nat.le_of_ble_eq_true rfl) rfl ?_
  refine s_iconst (pc := 2) (v := 1) (dc dl_X6_strangeCouples 2 rfl) ic_1 ?_
  refine s_istore_n (pc := 3) (lv' := [some (.ref (ad 0)), some (.int 0), some (.int 1)]) (dc dl_X6_strangeCouples 3 rfl) rfl (Nat.le_of_ble_eq_true rfl) rfl ?_
  refine s_weak (lv' := [some (.ref (ad 0)), some (.int 0), some (.int 1)]) rfl ?_
  refine s_loop (pc := 4) (fun s2 : Int32 × Int32 => [some (.ref (ad 0)), some (.int s2.1), some (.int s2.2)]) [] (fun self1 hself1 s2 => ?_) _ (0, 1)
  refine s_iload_n (pc := 4) (dc dl_X6_strangeCouples 4 rfl) rfl rfl ?_
  refine s_aload_n (pc := 5) (dc dl_X6_strangeCouples 5 rfl) rfl rfl ?_
  refine s_getI (pc := 6) fl_X6_18 lk_Puzzles_0 kk_Puzzles_0_2 (dc dl_X6_strangeCouples 6 rfl) (fun v3 => ?_)
  refine s_jn (pj := 52) (fun a5 : Unit => [none, some (.int s2.1), none]) (fun a5 : Unit => []) (fun a5 => ?_) (fun j4 hj4 => ?_)
  · refine s_iload_n (pc := 52) (dc dl_X6_strangeCouples 30 rfl) rfl rfl ?_
    exact s_ireturn (pc := 53) rfl (dc dl_X6_strangeCouples 31 rfl)
  · refine s_icmp_ge (pc := 9) (tgt := 52) (dc dl_X6_strangeCouples 7 rfl) rfl ?_ ?_
    · exact s_wk (hj4 ()) rfl
    · refine s_iload_n (pc := 12) (dc dl_X6_strangeCouples 8 rfl) rfl rfl ?_
      refine s_aload_n (pc := 13) (dc dl_X6_strangeCouples 9 rfl) rfl rfl ?_
      refine s_getR (pc := 14) fl_X6_15 lk_Puzzles_0 kk_Puzzles_0_1 (dc dl_X6_strangeCouples 10 rfl) ?_
      refine s_alen (pc := 17) lk_Puzzles_2 (dc dl_X6_strangeCouples 11 rfl) (fun v6 => ?_)
      refine s_icmp_ge (pc := 18) (tgt := 52) (dc dl_X6_strangeCouples 12 rfl) rfl ?_ ?_
      · exact s_wk (hj4 ()) rfl
      · refine s_aload_n (pc := 21) (dc dl_X6_strangeCouples 13 rfl) rfl rfl ?_
        refine s_getR (pc := 22) fl_X6_15 lk_Puzzles_0 kk_Puzzles_0_1 (dc dl_X6_strangeCouples 14 rfl) ?_
        refine s_iload_n (pc := 25) (dc dl_X6_strangeCouples 15 rfl) rfl rfl ?_
        refine s_iald (pc := 26) lk_Puzzles_2 (dc dl_X6_strangeCouples 16 rfl) (fun v7 => ?_)
        refine s_aload_n (pc := 27) (dc dl_X6_strangeCouples 17 rfl) rfl rfl ?_
        refine s_getR (pc := 28) fl_X6_15 lk_Puzzles_0 kk_Puzzles_0_1 (dc dl_X6_strangeCouples 18 rfl) ?_
        refine s_iload_n (pc := 31) (dc dl_X6_strangeCouples 19 rfl) rfl rfl ?_
        refine s_iconst (pc := 32) (v := 1) (dc dl_X6_strangeCouples 20 rfl) ic_1 ?_
        refine s_isub (pc := 33) (dc dl_X6_strangeCouples 21 rfl) ?_
        refine s_iald (pc := 34) lk_Puzzles_2 (dc dl_X6_strangeCouples 22 rfl) (fun v8 => ?_)
        refine s_isub (pc := 35) (dc dl_X6_strangeCouples 23 rfl) ?_
        refine s_calll (pc := 36) (ρ := rh0) (rest := []) hG (ss_Puzzles_E_rh0) (calls_S (mi := mX6_strangeCouples) (As := [.int (v7 - v8)]) (rest := []) hG (dc dl_X6_strangeCouples 24 rfl) mo_J9_abs_0f7a4 ms_J9_abs_0f7a4 ml_X6_34 ⟨Nat.le_of_ble_eq_true rfl, Nat.le_of_ble_eq_true rfl⟩ rfl rfl (Nat.le_of_ble_eq_true rfl)) (cn_J9_abs_0f7a4 l G hG (fun i => ad (rh0 i)) (v7 - v8)) rfl rfl (fun r9 => ?_)
        refine s_iconst (pc := 39) (v := 1) (dc dl_X6_strangeCouples 25 rfl) ic_1 ?_
        refine s_jn (pj := 46) (fun a11 : Int32 => [some (.ref (ad 0)), some (.int a11), some (.int s2.2)]) (fun a11 : Int32 => []) (fun a11 => ?_) (fun j10 hj10 => ?_)
        · refine s_iincL (pc := 46) (lf' := fun y12 => [some (.ref (ad 0)), some (.int a11), some (.int y12)]) (dc dl_X6_strangeCouples 28 rfl) rfl rfl (Nat.le_of_ble_eq_true rfl) (fun _ => rfl) (fun y12 => ?_)
          refine s_goto (pc := 49) (tgt := 4) (dc dl_X6_strangeCouples 29 rfl) rfl ?_
          exact s_wk (hself1 (a11, y12)) rfl
        · refine s_icmp_eq (pc := 40) (tgt := 46) (dc dl_X6_strangeCouples 26 rfl) rfl ?_ ?_
          · exact s_wk (hj10 s2.1) rfl
          · refine s_iincL (pc := 43) (lf' := fun y13 => [some (.ref (ad 0)), some (.int y13), some (.int s2.2)]) (dc dl_X6_strangeCouples 27 rfl) rfl rfl (Nat.le_of_ble_eq_true rfl) (fun _ => rfl) (fun y13 => ?_)
            exact s_wk (hj10 y13) rfl
def gX6_turn (x1 : Int32) : MM Int32 :=
  jn (fun (a2 : Unit) =>
  pr 0) (fun j1 =>
  (if x1 < 0 then
  j1 ()
  else
  bd (ln 2) fun v3 =>
  (if x1 ≤ v3 then
  loopC 100000 (fun (self4 : Int32 → MM Int32) (s5 : Int32) =>
  nz 2 (
  (if (x1 / 2) ≤ s5 then
  pr 0
  else
  bd (la 2 s5) fun v6 =>
  bd (la 2 ((x1 - 1) - s5)) fun v7 =>
  bd (sa 2 s5 v7) fun _ =>
  bd (sa 2 ((x1 - 1) - s5) v6) fun _ =>
  lt (s5 + 1) fun y8 =>
  self4 y8))) 0
  else
  j1 ())))
set_option maxHeartbeats 4000000 in
theorem cn_X6_turn (l : Launch) (G : Gl) (hG : gOk G) (ad : Nat → Nat) (x1 : Int32) : Cn l G mX6_turn 0 lay_Puzzles ad [.ref (ad 0), .int x1] (gX6_turn x1) := by
  refine cn_of (lv := [some (.ref (ad 0)), some (.int x1), none, none]) (by decide +kernel) rfl (Nat.le_of_ble_eq_true rfl) rfl ?_
  unfold gX6_turn
  refine s_iload_n (pc := 0) (dc dl_X6_turn 0 rfl) rfl rfl ?_
  refine s_jn (pj := 13) (fun a2 : Unit => [none, none, none, none]) (fun a2 : Unit => []) (fun a2 => ?_) (fun j1 hj1 => ?_)
  · exact s_return (pc := 13) rfl (dc dl_X6_turn 7 rfl)
  · refine s_if_lt (pc := 1) (tgt := 13) (dc dl_X6_turn 1 rfl) rfl ?_ ?_
    · exact s_wk (hj1 ()) rfl
    · refine s_iload_n (pc := 4) (dc dl_X6_turn 2 rfl) rfl rfl ?_
      refine s_aload_n (pc := 5) (dc dl_X6_turn 3 rfl) rfl rfl ?_
      refine s_getR (pc := 6) fl_X6_15 lk_Puzzles_0 kk_Puzzles_0_1 (dc dl_X6_turn 4 rfl) ?_
      refine s_alen (pc := 9) lk_Puzzles_2 (dc dl_X6_turn 5 rfl) (fun v3 => ?_)
      refine s_icmp_le (pc := 10) (tgt := 14) (dc dl_X6_turn 6 rfl) rfl ?_ ?_
      · refine s_iconst (pc := 14) (v := 0) (dc dl_X6_turn 8 rfl) ic_0 ?_
        refine s_istore_n (pc := 15) (lv' := [some (.ref (ad 0)), some (.int x1), some (.int 0), none]) (dc dl_X6_turn 9 rfl) rfl (Nat.le_of_ble_eq_true rfl) rfl ?_
        refine s_weak (lv' := [some (.ref (ad 0)), some (.int x1), some (.int 0), none]) rfl ?_
        refine s_loop (pc := 16) (fun s5 : Int32 => [some (.ref (ad 0)), some (.int x1), some (.int s5), none]) [] (fun self4 hself4 s5 => ?_) _ 0
        refine s_iload_n (pc := 16) (dc dl_X6_turn 10 rfl) rfl rfl ?_
        refine s_iload_n (pc := 17) (dc dl_X6_turn 11 rfl) rfl rfl ?_
        refine s_iconst (pc := 18) (v := 2) (dc dl_X6_turn 12 rfl) ic_2 ?_
        refine s_idiv (pc := 19) (dc dl_X6_turn 13 rfl) ?_
        refine s_icmp_ge (pc := 20) (tgt := 63) (dc dl_X6_turn 14 rfl) rfl ?_ ?_
        · exact s_return (pc := 63) rfl (dc dl_X6_turn 43 rfl)
        · refine s_aload_n (pc := 23) (dc dl_X6_turn 15 rfl) rfl rfl ?_
          refine s_getR (pc := 24) fl_X6_15 lk_Puzzles_0 kk_Puzzles_0_1 (dc dl_X6_turn 16 rfl) ?_
          refine s_iload_n (pc := 27) (dc dl_X6_turn 17 rfl) rfl rfl ?_
          refine s_iald (pc := 28) lk_Puzzles_2 (dc dl_X6_turn 18 rfl) (fun v6 => ?_)
          refine s_istore_n (pc := 29) (lv' := [some (.ref (ad 0)), some (.int x1), some (.int s5), some (.int v6)]) (dc dl_X6_turn 19 rfl) rfl (Nat.le_of_ble_eq_true rfl) rfl ?_
          refine s_aload_n (pc := 30) (dc dl_X6_turn 20 rfl) rfl rfl ?_
          refine s_getR (pc := 31) fl_X6_15 lk_Puzzles_0 kk_Puzzles_0_1 (dc dl_X6_turn 21 rfl) ?_
          refine s_iload_n (pc := 34) (dc dl_X6_turn 22 rfl) rfl rfl ?_
          refine s_aload_n (pc := 35) (dc dl_X6_turn 23 rfl) rfl rfl ?_
          refine s_getR (pc := 36) fl_X6_15 lk_Puzzles_0 kk_Puzzles_0_1 (dc dl_X6_turn 24 rfl) ?_
          refine s_iload_n (pc := 39) (dc dl_X6_turn 25 rfl) rfl rfl ?_
          refine s_iconst (pc := 40) (v := 1) (dc dl_X6_turn 26 rfl) ic_1 ?_
          refine s_isub (pc := 41) (dc dl_X6_turn 27 rfl) ?_
          refine s_iload_n (pc := 42) (dc dl_X6_turn 28 rfl) rfl rfl ?_
          refine s_isub (pc := 43) (dc dl_X6_turn 29 rfl) ?_
          refine s_iald (pc := 44) lk_Puzzles_2 (dc dl_X6_turn 30 rfl) (fun v7 => ?_)
          refine s_iast (pc := 45) lk_Puzzles_2 (dc dl_X6_turn 31 rfl) ?_
          refine s_aload_n (pc := 46) (dc dl_X6_turn 32 rfl) rfl rfl ?_
          refine s_getR (pc := 47) fl_X6_15 lk_Puzzles_0 kk_Puzzles_0_1 (dc dl_X6_turn 33 rfl) ?_
          refine s_iload_n (pc := 50) (dc dl_X6_turn 34 rfl) rfl rfl ?_
          refine s_iconst (pc := 51) (v := 1) (dc dl_X6_turn 35 rfl) ic_1 ?_
          refine s_isub (pc := 52) (dc dl_X6_turn 36 rfl) ?_
          refine s_iload_n (pc := 53) (dc dl_X6_turn 37 rfl) rfl rfl ?_
          refine s_isub (pc := 54) (dc dl_X6_turn 38 rfl) ?_
          refine s_iload_n (pc := 55) (dc dl_X6_turn 39 rfl) rfl rfl ?_
          refine s_iast (pc := 56) lk_Puzzles_2 (dc dl_X6_turn 40 rfl) ?_
          refine s_iincL (pc := 57) (lf' := fun y8 => [some (.ref (ad 0)), some (.int x1), some (.int y8), some (.int v6)]) (dc dl_X6_turn 41 rfl) rfl rfl (Nat.le_of_ble_eq_true rfl) (fun _ => rfl) (fun y8 => ?_)
          refine s_goto (pc := 60) (tgt := 16) (dc dl_X6_turn 42 rfl) rfl ?_
          exact s_wk (hself4 y8) rfl
      · exact s_wk (hj1 ()) rfl
def bX6_isInOrderBy (rq : Int32 → MM Int32) (x1 : Int32) : MM Int32 :=
  bd gX6_strangeCouples fun r1 =>
  bd (ld 0 2) fun v2 =>
  jn (fun (a4 : Int32) =>
  (if a4 = 0 then
  rz 1
  else
  (if a4 ≤ x1 then
  loopC 100000 (fun (self5 : Int32 → MM Int32) (s6 : Int32) =>
  bd (ld 0 2) fun v7 =>
  (if v7 < s6 then
  rz 0
  else
  bd (gX6_turn s6) fun r8 =>
  bd (rq (x1 - 1)) fun r9 =>
  bd (gX6_turn s6) fun r10 =>
  (if r9 = 0 then
  lt (s6 + 1) fun y11 =>
  self5 y11
  else
  rz 1))) 2
  else
  rz 0))) (fun j3 =>
  (if v2 ≤ 0 then
  j3 r1
  else
  bd (ld 0 2) fun v12 =>
  bd (ln 2) fun v13 =>
  (if v13 < v12 then
  j3 r1
  else
  bd (ld 0 2) fun v14 =>
  bd (la 2 (v14 - 1)) fun v15 =>
  bd (ld 0 2) fun v16 =>
  (if v15 = (v16 - 1) then
  j3 r1
  else
  lt (r1 + 1) fun y17 =>
  j3 y17))))
set_option maxHeartbeats 4000000 in
theorem cb_X6_isInOrderBy (l : Launch) (G : Gl) (hG : gOk G) (n : Nat) (rq : Int32 → MM Int32) (hrq : ∀ (ad : Nat → Nat) (x1 : Int32), Cn l G mX6_isInOrderBy (2 + n) lay_Puzzles ad [.ref (ad 0), .int x1] (rq x1)) : ∀ (ad : Nat → Nat) (x1 : Int32), Cn l G mX6_isInOrderBy (2 + (n + 1)) lay_Puzzles ad [.ref (ad 0), .int x1] (bX6_isInOrderBy rq x1) := by
  intro ad x1
  refine cn_of (lv := [some (.ref (ad 0)), some (.int x1), none, none, none]) (by decide +kernel) rfl (Nat.le_of_ble_eq_true rfl) rfl ?_
  unfold bX6_isInOrderBy
  refine s_aload_n (pc := 0) (dc dl_X6_isInOrderBy 0 rfl) rfl rfl ?_
  refine s_call (pc := 1) (rest := []) hG (calls_V (mi := mX6_isInOrderBy) (o := 0) (As := []) (rest := []) hG (dc dl_X6_isInOrderBy 1 rfl) mo_X6_strangeCouples mv_X6_strangeCouples ml_X6_43 ⟨by omega, Nat.le_of_ble_eq_true rfl⟩ rfl rfl (Nat.le_of_ble_eq_true rfl) lk_Puzzles_0 rfl) (cn_X6_strangeCouples l G hG ad) rfl (fun r1 => ?_)
  refine s_istore_n (pc := 4) (lv' := [some (.ref (ad 0)), some (.int x1), some (.int r1), none, none]) (dc dl_X6_isInOrderBy 2 rfl) rfl (Nat.le_of_ble_eq_true rfl) rfl ?_
  refine s_aload_n (pc := 5) (dc dl_X6_isInOrderBy 3 rfl) rfl rfl ?_
  refine s_getI (pc := 6) fl_X6_18 lk_Puzzles_0 kk_Puzzles_0_2 (dc dl_X6_isInOrderBy 4 rfl) (fun v2 => ?_)
  refine s_jn (pj := 47) (fun a4 : Int32 => [some (.ref (ad 0)), some (.int x1), some (.int a4), none, none]) (fun a4 : Int32 => []) (fun a4 => ?_) (fun j3 hj3 => ?_)
  · refine s_iload_n (pc := 47) (dc dl_X6_isInOrderBy 25 rfl) rfl rfl ?_
    refine s_if_ne (pc := 48) (tgt := 53) (dc dl_X6_isInOrderBy 26 rfl) rfl ?_ ?_
    · refine s_iconst (pc := 51) (v := 1) (dc dl_X6_isInOrderBy 27 rfl) ic_1 ?_
      exact s_zreturn (pc := 52) rfl (dc dl_X6_isInOrderBy 28 rfl)
    · refine s_iload_n (pc := 53) (dc dl_X6_isInOrderBy 29 rfl) rfl rfl ?_
      refine s_iload_n (pc := 54) (dc dl_X6_isInOrderBy 30 rfl) rfl rfl ?_
      refine s_icmp_le (pc := 55) (tgt := 60) (dc dl_X6_isInOrderBy 31 rfl) rfl ?_ ?_
      · refine s_iconst (pc := 60) (v := 2) (dc dl_X6_isInOrderBy 34 rfl) ic_2 ?_
        refine s_istore_n (pc := 61) (lv' := [some (.ref (ad 0)), some (.int x1), some (.int a4), some (.int 2), none]) (dc dl_X6_isInOrderBy 35 rfl) rfl (Nat.le_of_ble_eq_true rfl) rfl ?_
        refine s_weak (lv' := [some (.ref (ad 0)), some (.int x1), none, some (.int 2), none]) rfl ?_
        refine s_loop (pc := 62) (fun s6 : Int32 => [some (.ref (ad 0)), some (.int x1), none, some (.int s6), none]) [] (fun self5 hself5 s6 => ?_) _ 2
        refine s_iload_n (pc := 62) (dc dl_X6_isInOrderBy 36 rfl) rfl rfl ?_
        refine s_aload_n (pc := 63) (dc dl_X6_isInOrderBy 37 rfl) rfl rfl ?_
        refine s_getI (pc := 64) fl_X6_18 lk_Puzzles_0 kk_Puzzles_0_2 (dc dl_X6_isInOrderBy 38 rfl) (fun v7 => ?_)
        refine s_icmp_gt (pc := 67) (tgt := 102) (dc dl_X6_isInOrderBy 39 rfl) rfl ?_ ?_
        · refine s_iconst (pc := 102) (v := 0) (dc dl_X6_isInOrderBy 58 rfl) ic_0 ?_
          exact s_zreturn (pc := 103) rfl (dc dl_X6_isInOrderBy 59 rfl)
        · refine s_aload_n (pc := 70) (dc dl_X6_isInOrderBy 40 rfl) rfl rfl ?_
          refine s_iload_n (pc := 71) (dc dl_X6_isInOrderBy 41 rfl) rfl rfl ?_
          refine s_callv (pc := 72) (rest := []) hG (calls_V (mi := mX6_isInOrderBy) (o := 0) (As := [.int s6]) (rest := []) hG (dc dl_X6_isInOrderBy 42 rfl) mo_X6_turn mv_X6_turn ml_X6_47 ⟨by omega, Nat.le_of_ble_eq_true rfl⟩ rfl rfl (Nat.le_of_ble_eq_true rfl) lk_Puzzles_0 rfl) (cn_X6_turn l G hG ad s6) rfl (fun r8 => ?_)
          refine s_aload_n (pc := 75) (dc dl_X6_isInOrderBy 43 rfl) rfl rfl ?_
          refine s_iload_n (pc := 76) (dc dl_X6_isInOrderBy 44 rfl) rfl rfl ?_
          refine s_iconst (pc := 77) (v := 1) (dc dl_X6_isInOrderBy 45 rfl) ic_1 ?_
          refine s_isub (pc := 78) (dc dl_X6_isInOrderBy 46 rfl) ?_
          refine s_call (pc := 79) (rest := []) hG (calls_V (mi := mX6_isInOrderBy) (o := 0) (As := [.int (x1 - 1)]) (rest := []) hG (dc dl_X6_isInOrderBy 47 rfl) mo_X6_isInOrderBy mv_X6_isInOrderBy ml_X6_39 ⟨by omega, Nat.le_of_ble_eq_true rfl⟩ rfl rfl (Nat.le_of_ble_eq_true rfl) lk_Puzzles_0 rfl) (@hrq ad (x1 - 1)) rfl (fun r9 => ?_)
          refine s_istore (pc := 82) (lv' := [some (.ref (ad 0)), some (.int x1), none, some (.int s6), some (.int r9)]) (dc dl_X6_isInOrderBy 48 rfl) (Nat.le_of_ble_eq_true rfl) rfl ?_
          refine s_aload_n (pc := 84) (dc dl_X6_isInOrderBy 49 rfl) rfl rfl ?_
          refine s_iload_n (pc := 85) (dc dl_X6_isInOrderBy 50 rfl) rfl rfl ?_
          refine s_callv (pc := 86) (rest := []) hG (calls_V (mi := mX6_isInOrderBy) (o := 0) (As := [.int s6]) (rest := []) hG (dc dl_X6_isInOrderBy 51 rfl) mo_X6_turn mv_X6_turn ml_X6_47 ⟨by omega, Nat.le_of_ble_eq_true rfl⟩ rfl rfl (Nat.le_of_ble_eq_true rfl) lk_Puzzles_0 rfl) (cn_X6_turn l G hG ad s6) rfl (fun r10 => ?_)
          refine s_iload (pc := 89) (dc dl_X6_isInOrderBy 52 rfl) rfl ?_
          refine s_if_eq (pc := 91) (tgt := 96) (dc dl_X6_isInOrderBy 53 rfl) rfl ?_ ?_
          · refine s_iincL (pc := 96) (lf' := fun y11 => [some (.ref (ad 0)), some (.int x1), none, some (.int y11), some (.int r9)]) (dc dl_X6_isInOrderBy 56 rfl) rfl rfl (Nat.le_of_ble_eq_true rfl) (fun _ => rfl) (fun y11 => ?_)
            refine s_goto (pc := 99) (tgt := 62) (dc dl_X6_isInOrderBy 57 rfl) rfl ?_
            exact s_wk (hself5 y11) rfl
          · refine s_iconst (pc := 94) (v := 1) (dc dl_X6_isInOrderBy 54 rfl) ic_1 ?_
            exact s_zreturn (pc := 95) rfl (dc dl_X6_isInOrderBy 55 rfl)
      · refine s_iconst (pc := 58) (v := 0) (dc dl_X6_isInOrderBy 32 rfl) ic_0 ?_
        exact s_zreturn (pc := 59) rfl (dc dl_X6_isInOrderBy 33 rfl)
  · refine s_if_le (pc := 9) (tgt := 47) (dc dl_X6_isInOrderBy 5 rfl) rfl ?_ ?_
    · exact s_wk (hj3 r1) rfl
    · refine s_aload_n (pc := 12) (dc dl_X6_isInOrderBy 6 rfl) rfl rfl ?_
      refine s_getI (pc := 13) fl_X6_18 lk_Puzzles_0 kk_Puzzles_0_2 (dc dl_X6_isInOrderBy 7 rfl) (fun v12 => ?_)
      refine s_aload_n (pc := 16) (dc dl_X6_isInOrderBy 8 rfl) rfl rfl ?_
      refine s_getR (pc := 17) fl_X6_15 lk_Puzzles_0 kk_Puzzles_0_1 (dc dl_X6_isInOrderBy 9 rfl) ?_
      refine s_alen (pc := 20) lk_Puzzles_2 (dc dl_X6_isInOrderBy 10 rfl) (fun v13 => ?_)
      refine s_icmp_gt (pc := 21) (tgt := 47) (dc dl_X6_isInOrderBy 11 rfl) rfl ?_ ?_
      · exact s_wk (hj3 r1) rfl
      · refine s_aload_n (pc := 24) (dc dl_X6_isInOrderBy 12 rfl) rfl rfl ?_
        refine s_getR (pc := 25) fl_X6_15 lk_Puzzles_0 kk_Puzzles_0_1 (dc dl_X6_isInOrderBy 13 rfl) ?_
        refine s_aload_n (pc := 28) (dc dl_X6_isInOrderBy 14 rfl) rfl rfl ?_
        refine s_getI (pc := 29) fl_X6_18 lk_Puzzles_0 kk_Puzzles_0_2 (dc dl_X6_isInOrderBy 15 rfl) (fun v14 => ?_)
        refine s_iconst (pc := 32) (v := 1) (dc dl_X6_isInOrderBy 16 rfl) ic_1 ?_
        refine s_isub (pc := 33) (dc dl_X6_isInOrderBy 17 rfl) ?_
        refine s_iald (pc := 34) lk_Puzzles_2 (dc dl_X6_isInOrderBy 18 rfl) (fun v15 => ?_)
        refine s_aload_n (pc := 35) (dc dl_X6_isInOrderBy 19 rfl) rfl rfl ?_
        refine s_getI (pc := 36) fl_X6_18 lk_Puzzles_0 kk_Puzzles_0_2 (dc dl_X6_isInOrderBy 20 rfl) (fun v16 => ?_)
        refine s_iconst (pc := 39) (v := 1) (dc dl_X6_isInOrderBy 21 rfl) ic_1 ?_
        refine s_isub (pc := 40) (dc dl_X6_isInOrderBy 22 rfl) ?_
        refine s_icmp_eq (pc := 41) (tgt := 47) (dc dl_X6_isInOrderBy 23 rfl) rfl ?_ ?_
        · exact s_wk (hj3 r1) rfl
        · refine s_iincL (pc := 44) (lf' := fun y17 => [some (.ref (ad 0)), some (.int x1), some (.int y17), none, none]) (dc dl_X6_isInOrderBy 24 rfl) rfl rfl (Nat.le_of_ble_eq_true rfl) (fun _ => rfl) (fun y17 => ?_)
          exact s_wk (hj3 y17) rfl
def gr_X6_isInOrderBy : Nat → (Int32 → MM Int32)
  | 0 => fun _ => fl
  | n + 1 => bX6_isInOrderBy (gr_X6_isInOrderBy n)
theorem cr_X6_isInOrderBy (l : Launch) (G : Gl) (hG : gOk G) : ∀ n : Nat, (∀ (ad : Nat → Nat) (x1 : Int32), Cn l G mX6_isInOrderBy (2 + n) lay_Puzzles ad [.ref (ad 0), .int x1] ((gr_X6_isInOrderBy n) x1))
  | 0 => fun _ _ _ _ _ h => by cases h
  | n + 1 => by
    have ih := cr_X6_isInOrderBy l G hG n
    exact cb_X6_isInOrderBy l G hG n _ ih
def gX6_isInOrderBy (x1 : Int32) : MM Int32 := (gr_X6_isInOrderBy 12) x1
theorem cn_X6_isInOrderBy (l : Launch) (G : Gl) (hG : gOk G) (ad : Nat → Nat) (x1 : Int32) : Cn l G mX6_isInOrderBy 14 lay_Puzzles ad [.ref (ad 0), .int x1] (gX6_isInOrderBy x1) := (cr_X6_isInOrderBy l G hG 12) ad x1
def gX6_fewestTurnings : MM Int32 :=
  loopC 100000 (fun (self1 : Int32 → MM Int32) (s2 : Int32) =>
  (if 8 < s2 then
  pr ((-1))
  else
  bd (gX6_isInOrderBy s2) fun r3 =>
  (if r3 = 0 then
  lt (s2 + 1) fun y4 =>
  self1 y4
  else
  pr s2))) 0
set_option maxHeartbeats 4000000 in
theorem cn_X6_fewestTurnings (l : Launch) (G : Gl) (hG : gOk G) (ad : Nat → Nat) : Cn l G mX6_fewestTurnings 15 lay_Puzzles ad [.ref (ad 0)] (gX6_fewestTurnings) := by
  refine cn_of (lv := [some (.ref (ad 0)), none]) (by decide +kernel) rfl (Nat.le_of_ble_eq_true rfl) rfl ?_
  unfold gX6_fewestTurnings
  refine s_iconst (pc := 0) (v := 0) (dc dl_X6_fewestTurnings 0 rfl) ic_0 ?_
  refine s_istore_n (pc := 1) (lv' := [some (.ref (ad 0)), some (.int 0)]) (dc dl_X6_fewestTurnings 1 rfl) rfl (Nat.le_of_ble_eq_true rfl) rfl ?_
  refine s_weak (lv' := [some (.ref (ad 0)), some (.int 0)]) rfl ?_
  refine s_loop (pc := 2) (fun s2 : Int32 => [some (.ref (ad 0)), some (.int s2)]) [] (fun self1 hself1 s2 => ?_) _ 0
  refine s_iload_n (pc := 2) (dc dl_X6_fewestTurnings 2 rfl) rfl rfl ?_
  refine s_bipush (pc := 3) (v := 8) (dc dl_X6_fewestTurnings 3 rfl) bi_8 ?_
  refine s_icmp_gt (pc := 5) (tgt := 24) (dc dl_X6_fewestTurnings 4 rfl) rfl ?_ ?_
  · refine s_iconst (pc := 24) (v := (-1)) (dc dl_X6_fewestTurnings 13 rfl) ic_m1 ?_
    exact s_ireturn (pc := 25) rfl (dc dl_X6_fewestTurnings 14 rfl)
  · refine s_aload_n (pc := 8) (dc dl_X6_fewestTurnings 5 rfl) rfl rfl ?_
    refine s_iload_n (pc := 9) (dc dl_X6_fewestTurnings 6 rfl) rfl rfl ?_
    refine s_call (pc := 10) (rest := []) hG (calls_V (mi := mX6_fewestTurnings) (o := 0) (As := [.int s2]) (rest := []) hG (dc dl_X6_fewestTurnings 7 rfl) mo_X6_isInOrderBy mv_X6_isInOrderBy ml_X6_39 ⟨Nat.le_of_ble_eq_true rfl, Nat.le_of_ble_eq_true rfl⟩ rfl rfl (Nat.le_of_ble_eq_true rfl) lk_Puzzles_0 rfl) (cn_X6_isInOrderBy l G hG ad s2) rfl (fun r3 => ?_)
    refine s_if_eq (pc := 13) (tgt := 18) (dc dl_X6_fewestTurnings 8 rfl) rfl ?_ ?_
    · refine s_iincL (pc := 18) (lf' := fun y4 => [some (.ref (ad 0)), some (.int y4)]) (dc dl_X6_fewestTurnings 11 rfl) rfl rfl (Nat.le_of_ble_eq_true rfl) (fun _ => rfl) (fun y4 => ?_)
      refine s_goto (pc := 21) (tgt := 2) (dc dl_X6_fewestTurnings 12 rfl) rfl ?_
      exact s_wk (hself1 y4) rfl
    · refine s_iload_n (pc := 16) (dc dl_X6_fewestTurnings 9 rfl) rfl rfl ?_
      exact s_ireturn (pc := 17) rfl (dc dl_X6_fewestTurnings 10 rfl)
def gX6_folded (x0 x1 x2 : Int32) : MM Int32 :=
  loopC 100000 (fun (self1 : (Int32 × Int32 × Int32 × Int32 × Int32) → MM Int32) (s2 : Int32 × Int32 × Int32 × Int32 × Int32) =>
  (if x0 ≤ s2.2.2.2.2 then
  pr ((2 * s2.2.1) + s2.2.2.1)
  else
  lt (1 <<< (((x0 - s2.2.2.2.2) - 1) &&& 31)) fun y3 =>
  jn (fun (a5 : Int32) =>
  jn (fun (a7 : Int32) =>
  jn (fun (a9 : Int32 × Int32 × Int32) =>
  lt (s2.2.2.2.1 * 2) fun y10 =>
  lt (s2.2.2.2.2 + 1) fun y11 =>
  self1 (a9.1, a9.2.1, a9.2.2, y10, y11)) (fun j8 =>
  (if a5 = a7 then
  lt ((s2.2.2.2.1 - 1) - s2.2.1) fun y15 =>
  lt (1 - s2.2.2.1) fun y16 =>
  jn (fun (a18 : Int32) =>
  j8 (a18, y15, y16)) (fun j17 =>
  (if a5 = 0 then
  j17 (((2 * y3) - 1) - s2.1)
  else
  j17 ((y3 - 1) - s2.1)))
  else
  lt (s2.2.1 + s2.2.2.2.1) fun y12 =>
  jn (fun (a14 : Int32) =>
  j8 (a14, y12, s2.2.2.1)) (fun j13 =>
  (if a5 = 0 then
  j13 s2.1
  else
  j13 (s2.1 - y3)))))) (fun j6 =>
  (if y3 ≤ s2.1 then
  j6 0
  else
  j6 1))) (fun j4 =>
  (if ((ish x1 s2.2.2.2.2) &&& 1) = 1 then
  j4 1
  else
  j4 0)))) (x2, 0, 1, 1, 0)
set_option maxHeartbeats 4000000 in
theorem cn_X6_folded (l : Launch) (G : Gl) (hG : gOk G) (ad : Nat → Nat) (x0 x1 x2 : Int32) : Cn l G mX6_folded 0 lay_E ad [.int x0, .int x1, .int x2] (gX6_folded x0 x1 x2) := by
  refine cn_of (lv := [some (.int x0), some (.int x1), some (.int x2), none, none, none, none, none, none, none]) (by decide +kernel) rfl (Nat.le_of_ble_eq_true rfl) rfl ?_
  unfold gX6_folded
  refine s_iload_n (pc := 0) (dc dl_X6_folded 0 rfl) rfl rfl ?_
  refine s_istore_n (pc := 1) (lv' := [some (.int x0), some (.int x1), some (.int x2), some (.int x2), none, none, none, none, none, none]) (dc dl_X6_folded 1 rfl) rfl (Nat.le_of_ble_eq_true rfl) rfl ?_
  refine s_iconst (pc := 2) (v := 0) (dc dl_X6_folded 2 rfl) ic_0 ?_
  refine s_istore (pc := 3) (lv' := [some (.int x0), some (.int x1), some (.int x2), some (.int x2), some (.int 0), none, none, none, none, none]) (dc dl_X6_folded 3 rfl) (Nat.le_of_ble_eq_true rfl) rfl ?_
  refine s_iconst (pc := 5) (v := 1) (dc dl_X6_folded 4 rfl) ic_1 ?_
  refine s_istore (pc := 6) (lv' := [some (.int x0), some (.int x1), some (.int x2), some (.int x2), some (.int 0), some (.int 1), none, none, none, none]) (dc dl_X6_folded 5 rfl) (Nat.le_of_ble_eq_true rfl) rfl ?_
  refine s_iconst (pc := 8) (v := 1) (dc dl_X6_folded 6 rfl) ic_1 ?_
  refine s_istore (pc := 9) (lv' := [some (.int x0), some (.int x1), some (.int x2), some (.int x2), some (.int 0), some (.int 1), some (.int 1), none, none, none]) (dc dl_X6_folded 7 rfl) (Nat.le_of_ble_eq_true rfl) rfl ?_
  refine s_iconst (pc := 11) (v := 0) (dc dl_X6_folded 8 rfl) ic_0 ?_
  refine s_istore (pc := 12) (lv' := [some (.int x0), some (.int x1), some (.int x2), some (.int x2), some (.int 0), some (.int 1), some (.int 1), some (.int 0), none, none]) (dc dl_X6_folded 9 rfl) (Nat.le_of_ble_eq_true rfl) rfl ?_
  refine s_weak (lv' := [some (.int x0), some (.int x1), none, some (.int x2), some (.int 0), some (.int 1), some (.int 1), some (.int 0), none, none]) rfl ?_
  refine s_loop (pc := 14) (fun s2 : Int32 × Int32 × Int32 × Int32 × Int32 => [some (.int x0), some (.int x1), none, some (.int s2.1), some (.int s2.2.1), some (.int s2.2.2.1), some (.int s2.2.2.2.1), some (.int s2.2.2.2.2), none, none]) [] (fun self1 hself1 s2 => ?_) _ (x2, 0, 1, 1, 0)
  refine s_iload (pc := 14) (dc dl_X6_folded 10 rfl) rfl ?_
  refine s_iload_n (pc := 16) (dc dl_X6_folded 11 rfl) rfl rfl ?_
  refine s_icmp_ge (pc := 17) (tgt := 137) (dc dl_X6_folded 12 rfl) rfl ?_ ?_
  · refine s_iconst (pc := 137) (v := 2) (dc dl_X6_folded 85 rfl) ic_2 ?_
    refine s_iload (pc := 138) (dc dl_X6_folded 86 rfl) rfl ?_
    refine s_imul (pc := 140) (dc dl_X6_folded 87 rfl) ?_
    refine s_iload (pc := 141) (dc dl_X6_folded 88 rfl) rfl ?_
    refine s_iadd (pc := 143) (dc dl_X6_folded 89 rfl) ?_
    exact s_ireturn (pc := 144) rfl (dc dl_X6_folded 90 rfl)
  · refine s_iconst (pc := 20) (v := 1) (dc dl_X6_folded 13 rfl) ic_1 ?_
    refine s_iload_n (pc := 21) (dc dl_X6_folded 14 rfl) rfl rfl ?_
    refine s_iload (pc := 22) (dc dl_X6_folded 15 rfl) rfl ?_
    refine s_isub (pc := 24) (dc dl_X6_folded 16 rfl) ?_
    refine s_iconst (pc := 25) (v := 1) (dc dl_X6_folded 17 rfl) ic_1 ?_
    refine s_isub (pc := 26) (dc dl_X6_folded 18 rfl) ?_
    refine s_ishl (pc := 27) (dc dl_X6_folded 19 rfl) ?_
    refine s_istoreL (pc := 28) (lf' := fun y3 => [some (.int x0), some (.int x1), none, some (.int s2.1), some (.int s2.2.1), some (.int s2.2.2.1), some (.int s2.2.2.2.1), some (.int s2.2.2.2.2), some (.int y3), none]) (dc dl_X6_folded 20 rfl) (Nat.le_of_ble_eq_true rfl) (fun _ => rfl) (fun y3 => ?_)
    refine s_iload_n (pc := 30) (dc dl_X6_folded 21 rfl) rfl rfl ?_
    refine s_iload (pc := 31) (dc dl_X6_folded 22 rfl) rfl ?_
    refine s_iushr (pc := 33) (dc dl_X6_folded 23 rfl) ?_
    refine s_iconst (pc := 34) (v := 1) (dc dl_X6_folded 24 rfl) ic_1 ?_
    refine s_iand (pc := 35) (dc dl_X6_folded 25 rfl) ?_
    refine s_iconst (pc := 36) (v := 1) (dc dl_X6_folded 26 rfl) ic_1 ?_
    refine s_jn (pj := 45) (fun a5 : Int32 => [some (.int x0), some (.int x1), none, some (.int s2.1), some (.int s2.2.1), some (.int s2.2.2.1), some (.int s2.2.2.2.1), some (.int s2.2.2.2.2), some (.int y3), none]) (fun a5 : Int32 => [.int a5]) (fun a5 => ?_) (fun j4 hj4 => ?_)
    · refine s_istore (pc := 45) (lv' := [some (.int x0), some (.int x1), none, some (.int s2.1), some (.int s2.2.1), some (.int s2.2.2.1), some (.int s2.2.2.2.1), some (.int s2.2.2.2.2), some (.int y3), some (.int a5)]) (dc dl_X6_folded 31 rfl) (Nat.le_of_ble_eq_true rfl) rfl ?_
      refine s_iload (pc := 47) (dc dl_X6_folded 32 rfl) rfl ?_
      refine s_iload_n (pc := 49) (dc dl_X6_folded 33 rfl) rfl rfl ?_
      refine s_iload (pc := 50) (dc dl_X6_folded 34 rfl) rfl ?_
      refine s_jn (pj := 60) (fun a7 : Int32 => [some (.int x0), some (.int x1), none, some (.int s2.1), some (.int s2.2.1), some (.int s2.2.2.1), some (.int s2.2.2.2.1), some (.int s2.2.2.2.2), some (.int y3), some (.int a5)]) (fun a7 : Int32 => [.int a7, .int a5]) (fun a7 => ?_) (fun j6 hj6 => ?_)
      · refine s_jn (pj := 125) (fun a9 : Int32 × Int32 × Int32 => [some (.int x0), some (.int x1), none, some (.int a9.1), some (.int a9.2.1), some (.int a9.2.2), some (.int s2.2.2.2.1), some (.int s2.2.2.2.2), none, none]) (fun a9 : Int32 × Int32 × Int32 => []) (fun a9 => ?_) (fun j8 hj8 => ?_)
        · refine s_iload (pc := 125) (dc dl_X6_folded 79 rfl) rfl ?_
          refine s_iconst (pc := 127) (v := 2) (dc dl_X6_folded 80 rfl) ic_2 ?_
          refine s_imul (pc := 128) (dc dl_X6_folded 81 rfl) ?_
          refine s_istoreL (pc := 129) (lf' := fun y10 => [some (.int x0), some (.int x1), none, some (.int a9.1), some (.int a9.2.1), some (.int a9.2.2), some (.int y10), some (.int s2.2.2.2.2), none, none]) (dc dl_X6_folded 82 rfl) (Nat.le_of_ble_eq_true rfl) (fun _ => rfl) (fun y10 => ?_)
          refine s_iincL (pc := 131) (lf' := fun y11 => [some (.int x0), some (.int x1), none, some (.int a9.1), some (.int a9.2.1), some (.int a9.2.2), some (.int y10), some (.int y11), none, none]) (dc dl_X6_folded 83 rfl) rfl rfl (Nat.le_of_ble_eq_true rfl) (fun _ => rfl) (fun y11 => ?_)
          refine s_goto (pc := 134) (tgt := 14) (dc dl_X6_folded 84 rfl) rfl ?_
          exact s_wk (hself1 (a9.1, a9.2.1, a9.2.2, y10, y11)) rfl
        · refine s_icmp_ne (pc := 60) (tgt := 104) (dc dl_X6_folded 39 rfl) rfl ?_ ?_
          · refine s_iload (pc := 63) (dc dl_X6_folded 40 rfl) rfl ?_
            refine s_iconst (pc := 65) (v := 1) (dc dl_X6_folded 41 rfl) ic_1 ?_
            refine s_isub (pc := 66) (dc dl_X6_folded 42 rfl) ?_
            refine s_iload (pc := 67) (dc dl_X6_folded 43 rfl) rfl ?_
            refine s_isub (pc := 69) (dc dl_X6_folded 44 rfl) ?_
            refine s_istoreL (pc := 70) (lf' := fun y15 => [some (.int x0), some (.int x1), none, some (.int s2.1), some (.int y15), some (.int s2.2.2.1), some (.int s2.2.2.2.1), some (.int s2.2.2.2.2), some (.int y3), some (.int a5)]) (dc dl_X6_folded 45 rfl) (Nat.le_of_ble_eq_true rfl) (fun _ => rfl) (fun y15 => ?_)
            refine s_iconst (pc := 72) (v := 1) (dc dl_X6_folded 46 rfl) ic_1 ?_
            refine s_iload (pc := 73) (dc dl_X6_folded 47 rfl) rfl ?_
            refine s_isub (pc := 75) (dc dl_X6_folded 48 rfl) ?_
            refine s_istoreL (pc := 76) (lf' := fun y16 => [some (.int x0), some (.int x1), none, some (.int s2.1), some (.int y15), some (.int y16), some (.int s2.2.2.2.1), some (.int s2.2.2.2.2), some (.int y3), some (.int a5)]) (dc dl_X6_folded 49 rfl) (Nat.le_of_ble_eq_true rfl) (fun _ => rfl) (fun y16 => ?_)
            refine s_iload (pc := 78) (dc dl_X6_folded 50 rfl) rfl ?_
            refine s_jn (pj := 100) (fun a18 : Int32 => [some (.int x0), some (.int x1), none, none, some (.int y15), some (.int y16), some (.int s2.2.2.2.1), some (.int s2.2.2.2.2), none, none]) (fun a18 : Int32 => [.int a18]) (fun a18 => ?_) (fun j17 hj17 => ?_)
            · refine s_istore_n (pc := 100) (lv' := [some (.int x0), some (.int x1), none, some (.int a18), some (.int y15), some (.int y16), some (.int s2.2.2.2.1), some (.int s2.2.2.2.2), none, none]) (dc dl_X6_folded 65 rfl) rfl (Nat.le_of_ble_eq_true rfl) rfl ?_
              refine s_goto (pc := 101) (tgt := 125) (dc dl_X6_folded 66 rfl) rfl ?_
              exact s_wk (hj8 (a18, y15, y16)) rfl
            · refine s_if_eq (pc := 80) (tgt := 92) (dc dl_X6_folded 51 rfl) rfl ?_ ?_
              · refine s_iconst (pc := 92) (v := 2) (dc dl_X6_folded 58 rfl) ic_2 ?_
                refine s_iload (pc := 93) (dc dl_X6_folded 59 rfl) rfl ?_
                refine s_imul (pc := 95) (dc dl_X6_folded 60 rfl) ?_
                refine s_iconst (pc := 96) (v := 1) (dc dl_X6_folded 61 rfl) ic_1 ?_
                refine s_isub (pc := 97) (dc dl_X6_folded 62 rfl) ?_
                refine s_iload_n (pc := 98) (dc dl_X6_folded 63 rfl) rfl rfl ?_
                refine s_isub (pc := 99) (dc dl_X6_folded 64 rfl) ?_
                exact s_wk (hj17 (((2 * y3) - 1) - s2.1)) rfl
              · refine s_iload (pc := 83) (dc dl_X6_folded 52 rfl) rfl ?_
                refine s_iconst (pc := 85) (v := 1) (dc dl_X6_folded 53 rfl) ic_1 ?_
                refine s_isub (pc := 86) (dc dl_X6_folded 54 rfl) ?_
                refine s_iload_n (pc := 87) (dc dl_X6_folded 55 rfl) rfl rfl ?_
                refine s_isub (pc := 88) (dc dl_X6_folded 56 rfl) ?_
                refine s_goto (pc := 89) (tgt := 100) (dc dl_X6_folded 57 rfl) rfl ?_
                exact s_wk (hj17 ((y3 - 1) - s2.1)) rfl
          · refine s_iload (pc := 104) (dc dl_X6_folded 67 rfl) rfl ?_
            refine s_iload (pc := 106) (dc dl_X6_folded 68 rfl) rfl ?_
            refine s_iadd (pc := 108) (dc dl_X6_folded 69 rfl) ?_
            refine s_istoreL (pc := 109) (lf' := fun y12 => [some (.int x0), some (.int x1), none, some (.int s2.1), some (.int y12), some (.int s2.2.2.1), some (.int s2.2.2.2.1), some (.int s2.2.2.2.2), some (.int y3), some (.int a5)]) (dc dl_X6_folded 70 rfl) (Nat.le_of_ble_eq_true rfl) (fun _ => rfl) (fun y12 => ?_)
            refine s_iload (pc := 111) (dc dl_X6_folded 71 rfl) rfl ?_
            refine s_jn (pj := 124) (fun a14 : Int32 => [some (.int x0), some (.int x1), none, none, some (.int y12), some (.int s2.2.2.1), some (.int s2.2.2.2.1), some (.int s2.2.2.2.2), none, none]) (fun a14 : Int32 => [.int a14]) (fun a14 => ?_) (fun j13 hj13 => ?_)
            · refine s_istore_n (pc := 124) (lv' := [some (.int x0), some (.int x1), none, some (.int a14), some (.int y12), some (.int s2.2.2.1), some (.int s2.2.2.2.1), some (.int s2.2.2.2.2), none, none]) (dc dl_X6_folded 78 rfl) rfl (Nat.le_of_ble_eq_true rfl) rfl ?_
              exact s_wk (hj8 (a14, y12, s2.2.2.1)) rfl
            · refine s_if_eq (pc := 113) (tgt := 123) (dc dl_X6_folded 72 rfl) rfl ?_ ?_
              · refine s_iload_n (pc := 123) (dc dl_X6_folded 77 rfl) rfl rfl ?_
                exact s_wk (hj13 s2.1) rfl
              · refine s_iload_n (pc := 116) (dc dl_X6_folded 73 rfl) rfl rfl ?_
                refine s_iload (pc := 117) (dc dl_X6_folded 74 rfl) rfl ?_
                refine s_isub (pc := 119) (dc dl_X6_folded 75 rfl) ?_
                refine s_goto (pc := 120) (tgt := 124) (dc dl_X6_folded 76 rfl) rfl ?_
                exact s_wk (hj13 (s2.1 - y3)) rfl
      · refine s_icmp_ge (pc := 52) (tgt := 59) (dc dl_X6_folded 35 rfl) rfl ?_ ?_
        · refine s_iconst (pc := 59) (v := 0) (dc dl_X6_folded 38 rfl) ic_0 ?_
          exact s_wk (hj6 0) rfl
        · refine s_iconst (pc := 55) (v := 1) (dc dl_X6_folded 36 rfl) ic_1 ?_
          refine s_goto (pc := 56) (tgt := 60) (dc dl_X6_folded 37 rfl) rfl ?_
          exact s_wk (hj6 1) rfl
    · refine s_icmp_ne (pc := 37) (tgt := 44) (dc dl_X6_folded 27 rfl) rfl ?_ ?_
      · refine s_iconst (pc := 40) (v := 1) (dc dl_X6_folded 28 rfl) ic_1 ?_
        refine s_goto (pc := 41) (tgt := 45) (dc dl_X6_folded 29 rfl) rfl ?_
        exact s_wk (hj4 1) rfl
      · refine s_iconst (pc := 44) (v := 0) (dc dl_X6_folded 30 rfl) ic_0 ?_
        exact s_wk (hj4 0) rfl
def gX6_cellAt (x0 x1 x2 : Int32) : MM Int32 :=
  loopC 100000 (fun (self1 : Int32 → MM Int32) (s2 : Int32) =>
  (if (1 <<< (x0 &&& 31)) ≤ s2 then
  pr ((-1))
  else
  bd (gX6_folded x0 x1 s2) fun r3 =>
  nz 2 (
  (if (r3 / 2) = x2 then
  pr s2
  else
  lt (s2 + 1) fun y4 =>
  self1 y4)))) 0
set_option maxHeartbeats 4000000 in
theorem cn_X6_cellAt (l : Launch) (G : Gl) (hG : gOk G) (ad : Nat → Nat) (x0 x1 x2 : Int32) : Cn l G mX6_cellAt 1 lay_E ad [.int x0, .int x1, .int x2] (gX6_cellAt x0 x1 x2) := by
  refine cn_of (lv := [some (.int x0), some (.int x1), some (.int x2), none]) (by decide +kernel) rfl (Nat.le_of_ble_eq_true rfl) rfl ?_
  unfold gX6_cellAt
  refine s_iconst (pc := 0) (v := 0) (dc dl_X6_cellAt 0 rfl) ic_0 ?_
  refine s_istore_n (pc := 1) (lv' := [some (.int x0), some (.int x1), some (.int x2), some (.int 0)]) (dc dl_X6_cellAt 1 rfl) rfl (Nat.le_of_ble_eq_true rfl) rfl ?_
  refine s_weak (lv' := [some (.int x0), some (.int x1), some (.int x2), some (.int 0)]) rfl ?_
  refine s_loop (pc := 2) (fun s2 : Int32 => [some (.int x0), some (.int x1), some (.int x2), some (.int s2)]) [] (fun self1 hself1 s2 => ?_) _ 0
  refine s_iload_n (pc := 2) (dc dl_X6_cellAt 2 rfl) rfl rfl ?_
  refine s_iconst (pc := 3) (v := 1) (dc dl_X6_cellAt 3 rfl) ic_1 ?_
  refine s_iload_n (pc := 4) (dc dl_X6_cellAt 4 rfl) rfl rfl ?_
  refine s_ishl (pc := 5) (dc dl_X6_cellAt 5 rfl) ?_
  refine s_icmp_ge (pc := 6) (tgt := 29) (dc dl_X6_cellAt 6 rfl) rfl ?_ ?_
  · refine s_iconst (pc := 29) (v := (-1)) (dc dl_X6_cellAt 19 rfl) ic_m1 ?_
    exact s_ireturn (pc := 30) rfl (dc dl_X6_cellAt 20 rfl)
  · refine s_iload_n (pc := 9) (dc dl_X6_cellAt 7 rfl) rfl rfl ?_
    refine s_iload_n (pc := 10) (dc dl_X6_cellAt 8 rfl) rfl rfl ?_
    refine s_iload_n (pc := 11) (dc dl_X6_cellAt 9 rfl) rfl rfl ?_
    refine s_call (pc := 12) (rest := []) hG (calls_S (mi := mX6_cellAt) (As := [.int x0, .int x1, .int s2]) (rest := []) hG (dc dl_X6_cellAt 10 rfl) mo_X6_folded ms_X6_folded ml_X6_51 ⟨Nat.le_of_ble_eq_true rfl, Nat.le_of_ble_eq_true rfl⟩ rfl rfl (Nat.le_of_ble_eq_true rfl)) (cn_X6_folded l G hG ad x0 x1 s2) rfl (fun r3 => ?_)
    refine s_iconst (pc := 15) (v := 2) (dc dl_X6_cellAt 11 rfl) ic_2 ?_
    refine s_idiv (pc := 16) (dc dl_X6_cellAt 12 rfl) ?_
    refine s_iload_n (pc := 17) (dc dl_X6_cellAt 13 rfl) rfl rfl ?_
    refine s_icmp_ne (pc := 18) (tgt := 23) (dc dl_X6_cellAt 14 rfl) rfl ?_ ?_
    · refine s_iload_n (pc := 21) (dc dl_X6_cellAt 15 rfl) rfl rfl ?_
      exact s_ireturn (pc := 22) rfl (dc dl_X6_cellAt 16 rfl)
    · refine s_iincL (pc := 23) (lf' := fun y4 => [some (.int x0), some (.int x1), some (.int x2), some (.int y4)]) (dc dl_X6_cellAt 17 rfl) rfl rfl (Nat.le_of_ble_eq_true rfl) (fun _ => rfl) (fun y4 => ?_)
      refine s_goto (pc := 26) (tgt := 2) (dc dl_X6_cellAt 18 rfl) rfl ?_
      exact s_wk (hself1 y4) rfl
def gX6_boxAfter (x1 : Int32) : MM Int32 :=
  loopC 100000 (fun (self1 : (Int32 × Int32) → MM Int32) (s2 : Int32 × Int32) =>
  (if x1 ≤ s2.2 then
  pr s2.1
  else
  bd (gX8_get s2.2) fun r3 =>
  jn (fun (a5 : Int32) =>
  lt (s2.2 + 1) fun y6 =>
  self1 (a5, y6)) (fun j4 =>
  (if r3 = 1 then
  bd (lf rh0 0 (gJ9_min_7cf53 5 (s2.1 + 1))) fun r7 =>
  j4 r7
  else
  j4 1)))) (1, 0)
set_option maxHeartbeats 4000000 in
theorem cn_X6_boxAfter (l : Launch) (G : Gl) (hG : gOk G) (ad : Nat → Nat) (x1 : Int32) : Cn l G mX6_boxAfter 1 lay_Told ad [.ref (ad 0), .int x1] (gX6_boxAfter x1) := by
  refine cn_of (lv := [some (.ref (ad 0)), some (.int x1), none, none]) (by decide +kernel) rfl (Nat.le_of_ble_eq_true rfl) rfl ?_
  unfold gX6_boxAfter
  refine s_iconst (pc := 0) (v := 1) (dc dl_X6_boxAfter 0 rfl) ic_1 ?_
  refine s_istore_n (pc := 1) (lv' := [some (.ref (ad 0)), some (.int x1), some (.int 1), none]) (dc dl_X6_boxAfter 1 rfl) rfl (Nat.le_of_ble_eq_true rfl) rfl ?_
  refine s_iconst (pc := 2) (v := 0) (dc dl_X6_boxAfter 2 rfl) ic_0 ?_
  refine s_istore_n (pc := 3) (lv' := [some (.ref (ad 0)), some (.int x1), some (.int 1), some (.int 0)]) (dc dl_X6_boxAfter 3 rfl) rfl (Nat.le_of_ble_eq_true rfl) rfl ?_
  refine s_weak (lv' := [some (.ref (ad 0)), some (.int x1), some (.int 1), some (.int 0)]) rfl ?_
  refine s_loop (pc := 4) (fun s2 : Int32 × Int32 => [some (.ref (ad 0)), some (.int x1), some (.int s2.1), some (.int s2.2)]) [] (fun self1 hself1 s2 => ?_) _ (1, 0)
  refine s_iload_n (pc := 4) (dc dl_X6_boxAfter 4 rfl) rfl rfl ?_
  refine s_iload_n (pc := 5) (dc dl_X6_boxAfter 5 rfl) rfl rfl ?_
  refine s_icmp_ge (pc := 6) (tgt := 36) (dc dl_X6_boxAfter 6 rfl) rfl ?_ ?_
  · refine s_iload_n (pc := 36) (dc dl_X6_boxAfter 22 rfl) rfl rfl ?_
    exact s_ireturn (pc := 37) rfl (dc dl_X6_boxAfter 23 rfl)
  · refine s_aload_n (pc := 9) (dc dl_X6_boxAfter 7 rfl) rfl rfl ?_
    refine s_iload_n (pc := 10) (dc dl_X6_boxAfter 8 rfl) rfl rfl ?_
    refine s_call (pc := 11) (rest := []) hG (calls_V (mi := mX6_boxAfter) (o := 0) (As := [.int s2.2]) (rest := []) hG (dc dl_X6_boxAfter 9 rfl) mo_X8_get mv_X8_get ml_X6_30 ⟨Nat.le_of_ble_eq_true rfl, Nat.le_of_ble_eq_true rfl⟩ rfl rfl (Nat.le_of_ble_eq_true rfl) lk_Told_0 rfl) (cn_X8_get l G hG ad s2.2) rfl (fun r3 => ?_)
    refine s_iconst (pc := 14) (v := 1) (dc dl_X6_boxAfter 10 rfl) ic_1 ?_
    refine s_jn (pj := 29) (fun a5 : Int32 => [some (.ref (ad 0)), some (.int x1), none, some (.int s2.2)]) (fun a5 : Int32 => [.int a5]) (fun a5 => ?_) (fun j4 hj4 => ?_)
    · refine s_istore_n (pc := 29) (lv' := [some (.ref (ad 0)), some (.int x1), some (.int a5), some (.int s2.2)]) (dc dl_X6_boxAfter 19 rfl) rfl (Nat.le_of_ble_eq_true rfl) rfl ?_
      refine s_iincL (pc := 30) (lf' := fun y6 => [some (.ref (ad 0)), some (.int x1), some (.int a5), some (.int y6)]) (dc dl_X6_boxAfter 20 rfl) rfl rfl (Nat.le_of_ble_eq_true rfl) (fun _ => rfl) (fun y6 => ?_)
      refine s_goto (pc := 33) (tgt := 4) (dc dl_X6_boxAfter 21 rfl) rfl ?_
      exact s_wk (hself1 (a5, y6)) rfl
    · refine s_icmp_ne (pc := 15) (tgt := 28) (dc dl_X6_boxAfter 11 rfl) rfl ?_ ?_
      · refine s_iconst (pc := 18) (v := 5) (dc dl_X6_boxAfter 12 rfl) ic_5 ?_
        refine s_iload_n (pc := 19) (dc dl_X6_boxAfter 13 rfl) rfl rfl ?_
        refine s_iconst (pc := 20) (v := 1) (dc dl_X6_boxAfter 14 rfl) ic_1 ?_
        refine s_iadd (pc := 21) (dc dl_X6_boxAfter 15 rfl) ?_
        refine s_calll (pc := 22) (ρ := rh0) (rest := []) hG (ss_Told_E_rh0) (calls_S (mi := mX6_boxAfter) (As := [.int 5, .int (s2.1 + 1)]) (rest := []) hG (dc dl_X6_boxAfter 16 rfl) mo_J9_min_7cf53 ms_J9_min_7cf53 ml_X6_55 ⟨Nat.le_of_ble_eq_true rfl, Nat.le_of_ble_eq_true rfl⟩ rfl rfl (Nat.le_of_ble_eq_true rfl)) (cn_J9_min_7cf53 l G hG (fun i => ad (rh0 i)) 5 (s2.1 + 1)) rfl rfl (fun r7 => ?_)
        refine s_goto (pc := 25) (tgt := 29) (dc dl_X6_boxAfter 17 rfl) rfl ?_
        exact s_wk (hj4 r7) rfl
      · refine s_iconst (pc := 28) (v := 1) (dc dl_X6_boxAfter 18 rfl) ic_1 ?_
        exact s_wk (hj4 1) rfl
def gX6_nextAsked : MM Int32 :=
  loopC 100000 (fun (self1 : (Int32 × Int32) → MM Int32) (s2 : Int32 × Int32) =>
  bd (ld 0 0) fun v3 =>
  (if v3 < s2.2 then
  pr s2.1
  else
  bd (gX6_boxAfter s2.2) fun r4 =>
  lt (s2.1 + (1 <<< ((r4 - 1) &&& 31))) fun y5 =>
  lt (s2.2 + 1) fun y6 =>
  self1 (y5, y6))) (0, 1)
set_option maxHeartbeats 4000000 in
theorem cn_X6_nextAsked (l : Launch) (G : Gl) (hG : gOk G) (ad : Nat → Nat) : Cn l G mX6_nextAsked 2 lay_Told ad [.ref (ad 0)] (gX6_nextAsked) := by
  refine cn_of (lv := [some (.ref (ad 0)), none, none]) (by decide +kernel) rfl (Nat.le_of_ble_eq_true rfl) rfl ?_
  unfold gX6_nextAsked
  refine s_iconst (pc := 0) (v := 0) (dc dl_X6_nextAsked 0 rfl) ic_0 ?_
  refine s_istore_n (pc := 1) (lv' := [some (.ref (ad 0)), some (.int 0), none]) (dc dl_X6_nextAsked 1 rfl) rfl (Nat.le_of_ble_eq_true rfl) rfl ?_
  refine s_iconst (pc := 2) (v := 1) (dc dl_X6_nextAsked 2 rfl) ic_1 ?_
  refine s_istore_n (pc := 3) (lv' := [some (.ref (ad 0)), some (.int 0), some (.int 1)]) (dc dl_X6_nextAsked 3 rfl) rfl (Nat.le_of_ble_eq_true rfl) rfl ?_
  refine s_weak (lv' := [some (.ref (ad 0)), some (.int 0), some (.int 1)]) rfl ?_
  refine s_loop (pc := 4) (fun s2 : Int32 × Int32 => [some (.ref (ad 0)), some (.int s2.1), some (.int s2.2)]) [] (fun self1 hself1 s2 => ?_) _ (0, 1)
  refine s_iload_n (pc := 4) (dc dl_X6_nextAsked 4 rfl) rfl rfl ?_
  refine s_aload_n (pc := 5) (dc dl_X6_nextAsked 5 rfl) rfl rfl ?_
  refine s_getI (pc := 6) fl_X6_25 lk_Told_0 kk_Told_0_0 (dc dl_X6_nextAsked 6 rfl) (fun v3 => ?_)
  refine s_icmp_gt (pc := 9) (tgt := 30) (dc dl_X6_nextAsked 7 rfl) rfl ?_ ?_
  · refine s_iload_n (pc := 30) (dc dl_X6_nextAsked 20 rfl) rfl rfl ?_
    exact s_ireturn (pc := 31) rfl (dc dl_X6_nextAsked 21 rfl)
  · refine s_iload_n (pc := 12) (dc dl_X6_nextAsked 8 rfl) rfl rfl ?_
    refine s_iconst (pc := 13) (v := 1) (dc dl_X6_nextAsked 9 rfl) ic_1 ?_
    refine s_aload_n (pc := 14) (dc dl_X6_nextAsked 10 rfl) rfl rfl ?_
    refine s_iload_n (pc := 15) (dc dl_X6_nextAsked 11 rfl) rfl rfl ?_
    refine s_call (pc := 16) (rest := [.int 1, .int s2.1]) hG (calls_S (mi := mX6_nextAsked) (As := [.ref (ad 0), .int s2.2]) (rest := [.int 1, .int s2.1]) hG (dc dl_X6_nextAsked 12 rfl) mo_X6_boxAfter ms_X6_boxAfter ml_X6_59 ⟨Nat.le_of_ble_eq_true rfl, Nat.le_of_ble_eq_true rfl⟩ rfl rfl (Nat.le_of_ble_eq_true rfl)) (cn_X6_boxAfter l G hG ad s2.2) rfl (fun r4 => ?_)
    refine s_iconst (pc := 19) (v := 1) (dc dl_X6_nextAsked 13 rfl) ic_1 ?_
    refine s_isub (pc := 20) (dc dl_X6_nextAsked 14 rfl) ?_
    refine s_ishl (pc := 21) (dc dl_X6_nextAsked 15 rfl) ?_
    refine s_iadd (pc := 22) (dc dl_X6_nextAsked 16 rfl) ?_
    refine s_istore_nL (pc := 23) (lf' := fun y5 => [some (.ref (ad 0)), some (.int y5), some (.int s2.2)]) (dc dl_X6_nextAsked 17 rfl) rfl (Nat.le_of_ble_eq_true rfl) (fun _ => rfl) (fun y5 => ?_)
    refine s_iincL (pc := 24) (lf' := fun y6 => [some (.ref (ad 0)), some (.int y5), some (.int y6)]) (dc dl_X6_nextAsked 18 rfl) rfl rfl (Nat.le_of_ble_eq_true rfl) (fun _ => rfl) (fun y6 => ?_)
    refine s_goto (pc := 27) (tgt := 4) (dc dl_X6_nextAsked 19 rfl) rfl ?_
    exact s_wk (hself1 (y5, y6)) rfl
def gX6_dealtTo (x0 x1 : Int32) : MM Int32 :=
  bd (gX10_isWithin x1 1000 1222) fun r1 =>
  (if r1 = 0 then
  pr ((-1))
  else
  loopC 100000 (fun (self2 : (Int32 × Int32 × Int32) → MM Int32) (s3 : Int32 × Int32 × Int32) =>
  (if 3 ≤ s3.2.2 then
  pr s3.1
  else
  jn (fun (a5 : Int32) =>
  (if a5 ≤ 2 then
  nz 3 (
  lt ((9 * a5) + (s3.1 / 3)) fun y6 =>
  nz 10 (
  lt (s3.2.1 / 10) fun y7 =>
  lt (s3.2.2 + 1) fun y8 =>
  self2 (y6, y7, y8)))
  else
  pr ((-1)))) (fun j4 =>
  (if s3.2.1 = 0 then
  j4 0
  else
  nz s3.2.1 (
  nz 10 (
  j4 (irm (x1 / s3.2.1) 10))))))) (x0, 100, 0))
set_option maxHeartbeats 4000000 in
theorem cn_X6_dealtTo (l : Launch) (G : Gl) (hG : gOk G) (ad : Nat → Nat) (x0 x1 : Int32) : Cn l G mX6_dealtTo 1 lay_E ad [.int x0, .int x1] (gX6_dealtTo x0 x1) := by
  refine cn_of (lv := [some (.int x0), some (.int x1), none, none, none, none]) (by decide +kernel) rfl (Nat.le_of_ble_eq_true rfl) rfl ?_
  unfold gX6_dealtTo
  refine s_iload_n (pc := 0) (dc dl_X6_dealtTo 0 rfl) rfl rfl ?_
  refine s_sipush (pc := 1) (v := 1000) (dc dl_X6_dealtTo 1 rfl) si_1000 ?_
  refine s_sipush (pc := 4) (v := 1222) (dc dl_X6_dealtTo 2 rfl) si_1222 ?_
  refine s_call (pc := 7) (rest := []) hG (calls_SN (mi := mX6_dealtTo) (As := [.int x1, .int 1000, .int 1222]) (rest := []) hG (dc dl_X6_dealtTo 3 rfl) mo_X10_isWithin ms_X10_isWithin ml_X6_63 ⟨Nat.le_of_ble_eq_true rfl, Nat.le_of_ble_eq_true rfl⟩ rfl rfl (Nat.le_of_ble_eq_true rfl)) (cn_X10_isWithin l G hG ad x1 1000 1222) rfl (fun r1 => ?_)
  refine s_if_ne (pc := 10) (tgt := 15) (dc dl_X6_dealtTo 4 rfl) rfl ?_ ?_
  · refine s_iconst (pc := 13) (v := (-1)) (dc dl_X6_dealtTo 5 rfl) ic_m1 ?_
    exact s_ireturn (pc := 14) rfl (dc dl_X6_dealtTo 6 rfl)
  · refine s_iload_n (pc := 15) (dc dl_X6_dealtTo 7 rfl) rfl rfl ?_
    refine s_istore_n (pc := 16) (lv' := [some (.int x0), some (.int x1), some (.int x0), none, none, none]) (dc dl_X6_dealtTo 8 rfl) rfl (Nat.le_of_ble_eq_true rfl) rfl ?_
    refine s_bipush (pc := 17) (v := 100) (dc dl_X6_dealtTo 9 rfl) bi_100 ?_
    refine s_istore_n (pc := 19) (lv' := [some (.int x0), some (.int x1), some (.int x0), some (.int 100), none, none]) (dc dl_X6_dealtTo 10 rfl) rfl (Nat.le_of_ble_eq_true rfl) rfl ?_
    refine s_iconst (pc := 20) (v := 0) (dc dl_X6_dealtTo 11 rfl) ic_0 ?_
    refine s_istore (pc := 21) (lv' := [some (.int x0), some (.int x1), some (.int x0), some (.int 100), some (.int 0), none]) (dc dl_X6_dealtTo 12 rfl) (Nat.le_of_ble_eq_true rfl) rfl ?_
    refine s_weak (lv' := [none, some (.int x1), some (.int x0), some (.int 100), some (.int 0), none]) rfl ?_
    refine s_loop (pc := 23) (fun s3 : Int32 × Int32 × Int32 => [none, some (.int x1), some (.int s3.1), some (.int s3.2.1), some (.int s3.2.2), none]) [] (fun self2 hself2 s3 => ?_) _ (x0, 100, 0)
    refine s_iload (pc := 23) (dc dl_X6_dealtTo 13 rfl) rfl ?_
    refine s_iconst (pc := 25) (v := 3) (dc dl_X6_dealtTo 14 rfl) ic_3 ?_
    refine s_icmp_ge (pc := 26) (tgt := 74) (dc dl_X6_dealtTo 15 rfl) rfl ?_ ?_
    · refine s_iload_n (pc := 74) (dc dl_X6_dealtTo 45 rfl) rfl rfl ?_
      exact s_ireturn (pc := 75) rfl (dc dl_X6_dealtTo 46 rfl)
    · refine s_iload_n (pc := 29) (dc dl_X6_dealtTo 16 rfl) rfl rfl ?_
      refine s_jn (pj := 43) (fun a5 : Int32 => [none, some (.int x1), some (.int s3.1), some (.int s3.2.1), some (.int s3.2.2), none]) (fun a5 : Int32 => [.int a5]) (fun a5 => ?_) (fun j4 hj4 => ?_)
      · refine s_istore (pc := 43) (lv' := [none, some (.int x1), some (.int s3.1), some (.int s3.2.1), some (.int s3.2.2), some (.int a5)]) (dc dl_X6_dealtTo 25 rfl) (Nat.le_of_ble_eq_true rfl) rfl ?_
        refine s_iload (pc := 45) (dc dl_X6_dealtTo 26 rfl) rfl ?_
        refine s_iconst (pc := 47) (v := 2) (dc dl_X6_dealtTo 27 rfl) ic_2 ?_
        refine s_icmp_le (pc := 48) (tgt := 53) (dc dl_X6_dealtTo 28 rfl) rfl ?_ ?_
        · refine s_bipush (pc := 53) (v := 9) (dc dl_X6_dealtTo 31 rfl) bi_9 ?_
          refine s_iload (pc := 55) (dc dl_X6_dealtTo 32 rfl) rfl ?_
          refine s_imul (pc := 57) (dc dl_X6_dealtTo 33 rfl) ?_
          refine s_iload_n (pc := 58) (dc dl_X6_dealtTo 34 rfl) rfl rfl ?_
          refine s_iconst (pc := 59) (v := 3) (dc dl_X6_dealtTo 35 rfl) ic_3 ?_
          refine s_idiv (pc := 60) (dc dl_X6_dealtTo 36 rfl) ?_
          refine s_iadd (pc := 61) (dc dl_X6_dealtTo 37 rfl) ?_
          refine s_istore_nL (pc := 62) (lf' := fun y6 => [none, some (.int x1), some (.int y6), some (.int s3.2.1), some (.int s3.2.2), some (.int a5)]) (dc dl_X6_dealtTo 38 rfl) rfl (Nat.le_of_ble_eq_true rfl) (fun _ => rfl) (fun y6 => ?_)
          refine s_iload_n (pc := 63) (dc dl_X6_dealtTo 39 rfl) rfl rfl ?_
          refine s_bipush (pc := 64) (v := 10) (dc dl_X6_dealtTo 40 rfl) bi_10 ?_
          refine s_idiv (pc := 66) (dc dl_X6_dealtTo 41 rfl) ?_
          refine s_istore_nL (pc := 67) (lf' := fun y7 => [none, some (.int x1), some (.int y6), some (.int y7), some (.int s3.2.2), some (.int a5)]) (dc dl_X6_dealtTo 42 rfl) rfl (Nat.le_of_ble_eq_true rfl) (fun _ => rfl) (fun y7 => ?_)
          refine s_iincL (pc := 68) (lf' := fun y8 => [none, some (.int x1), some (.int y6), some (.int y7), some (.int y8), some (.int a5)]) (dc dl_X6_dealtTo 43 rfl) rfl rfl (Nat.le_of_ble_eq_true rfl) (fun _ => rfl) (fun y8 => ?_)
          refine s_goto (pc := 71) (tgt := 23) (dc dl_X6_dealtTo 44 rfl) rfl ?_
          exact s_wk (hself2 (y6, y7, y8)) rfl
        · refine s_iconst (pc := 51) (v := (-1)) (dc dl_X6_dealtTo 29 rfl) ic_m1 ?_
          exact s_ireturn (pc := 52) rfl (dc dl_X6_dealtTo 30 rfl)
      · refine s_if_ne (pc := 30) (tgt := 37) (dc dl_X6_dealtTo 17 rfl) rfl ?_ ?_
        · refine s_iconst (pc := 33) (v := 0) (dc dl_X6_dealtTo 18 rfl) ic_0 ?_
          refine s_goto (pc := 34) (tgt := 43) (dc dl_X6_dealtTo 19 rfl) rfl ?_
          exact s_wk (hj4 0) rfl
        · refine s_iload_n (pc := 37) (dc dl_X6_dealtTo 20 rfl) rfl rfl ?_
          refine s_iload_n (pc := 38) (dc dl_X6_dealtTo 21 rfl) rfl rfl ?_
          refine s_idiv (pc := 39) (dc dl_X6_dealtTo 22 rfl) ?_
          refine s_bipush (pc := 40) (v := 10) (dc dl_X6_dealtTo 23 rfl) bi_10 ?_
          refine s_irem (pc := 42) (dc dl_X6_dealtTo 24 rfl) ?_
          exact s_wk (hj4 (irm (x1 / s3.2.1) 10)) rfl
def gX6_isPlace (x1 : Int32) : MM Int32 :=
  jn (fun (a2 : Int32) =>
  rz a2) (fun j1 =>
  jn (fun (a4 : Unit) =>
  j1 0) (fun j3 =>
  (if x1 < 0 then
  j3 ()
  else
  bd (ln 3) fun v5 =>
  (if v5 ≤ x1 then
  j3 ()
  else
  j1 1))))
set_option maxHeartbeats 4000000 in
theorem cn_X6_isPlace (l : Launch) (G : Gl) (hG : gOk G) (ad : Nat → Nat) (x1 : Int32) : Cn l G mX6_isPlace 0 lay_Puzzles ad [.ref (ad 0), .int x1] (gX6_isPlace x1) := by
  refine cn_of (lv := [some (.ref (ad 0)), some (.int x1)]) (by decide +kernel) rfl (Nat.le_of_ble_eq_true rfl) rfl ?_
  unfold gX6_isPlace
  refine s_iload_n (pc := 0) (dc dl_X6_isPlace 0 rfl) rfl rfl ?_
  refine s_jn (pj := 18) (fun a2 : Int32 => [none, none]) (fun a2 : Int32 => [.int a2]) (fun a2 => ?_) (fun j1 hj1 => ?_)
  · exact s_zreturn (pc := 18) rfl (dc dl_X6_isPlace 10 rfl)
  · refine s_jn (pj := 17) (fun a4 : Unit => [none, none]) (fun a4 : Unit => []) (fun a4 => ?_) (fun j3 hj3 => ?_)
    · refine s_iconst (pc := 17) (v := 0) (dc dl_X6_isPlace 9 rfl) ic_0 ?_
      exact s_wk (hj1 0) rfl
    · refine s_if_lt (pc := 1) (tgt := 17) (dc dl_X6_isPlace 1 rfl) rfl ?_ ?_
      · exact s_wk (hj3 ()) rfl
      · refine s_iload_n (pc := 4) (dc dl_X6_isPlace 2 rfl) rfl rfl ?_
        refine s_aload_n (pc := 5) (dc dl_X6_isPlace 3 rfl) rfl rfl ?_
        refine s_getR (pc := 6) fl_X6_22 lk_Puzzles_0 kk_Puzzles_0_3 (dc dl_X6_isPlace 4 rfl) ?_
        refine s_alen (pc := 9) lk_Puzzles_3 (dc dl_X6_isPlace 5 rfl) (fun v5 => ?_)
        refine s_icmp_ge (pc := 10) (tgt := 17) (dc dl_X6_isPlace 6 rfl) rfl ?_ ?_
        · exact s_wk (hj3 ()) rfl
        · refine s_iconst (pc := 13) (v := 1) (dc dl_X6_isPlace 7 rfl) ic_1 ?_
          refine s_goto (pc := 14) (tgt := 18) (dc dl_X6_isPlace 8 rfl) rfl ?_
          exact s_wk (hj1 1) rfl
def gX6_placeBehind (x0 x1 x2 : Int32) : MM Int32 :=
  jn (fun (a2 : Int32) =>
  pr a2) (fun j1 =>
  (if 0 < x0 then
  nz x0 (
  j1 (irm (x1 + x2) x0))
  else
  j1 ((-1))))
set_option maxHeartbeats 4000000 in
theorem cn_X6_placeBehind (l : Launch) (G : Gl) (hG : gOk G) (ad : Nat → Nat) (x0 x1 x2 : Int32) : Cn l G mX6_placeBehind 0 lay_E ad [.int x0, .int x1, .int x2] (gX6_placeBehind x0 x1 x2) := by
  refine cn_of (lv := [some (.int x0), some (.int x1), some (.int x2)]) (by decide +kernel) rfl (Nat.le_of_ble_eq_true rfl) rfl ?_
  unfold gX6_placeBehind
  refine s_iload_n (pc := 0) (dc dl_X6_placeBehind 0 rfl) rfl rfl ?_
  refine s_jn (pj := 13) (fun a2 : Int32 => [none, none, none]) (fun a2 : Int32 => [.int a2]) (fun a2 => ?_) (fun j1 hj1 => ?_)
  · exact s_ireturn (pc := 13) rfl (dc dl_X6_placeBehind 9 rfl)
  · refine s_if_gt (pc := 1) (tgt := 8) (dc dl_X6_placeBehind 1 rfl) rfl ?_ ?_
    · refine s_iload_n (pc := 8) (dc dl_X6_placeBehind 4 rfl) rfl rfl ?_
      refine s_iload_n (pc := 9) (dc dl_X6_placeBehind 5 rfl) rfl rfl ?_
      refine s_iadd (pc := 10) (dc dl_X6_placeBehind 6 rfl) ?_
      refine s_iload_n (pc := 11) (dc dl_X6_placeBehind 7 rfl) rfl rfl ?_
      refine s_irem (pc := 12) (dc dl_X6_placeBehind 8 rfl) ?_
      exact s_wk (hj1 (irm (x1 + x2) x0)) rfl
    · refine s_iconst (pc := 4) (v := (-1)) (dc dl_X6_placeBehind 2 rfl) ic_m1 ?_
      refine s_goto (pc := 5) (tgt := 13) (dc dl_X6_placeBehind 3 rfl) rfl ?_
      exact s_wk (hj1 ((-1))) rfl
def gX6_looksFor (x1 x2 : Int32) : MM Int32 :=
  loopC 100000 (fun (self1 : Int32 → MM Int32) (s2 : Int32) =>
  (if x1 ≤ s2 then
  pr x1
  else
  bd (lf rh0 0 (gX6_placeBehind x1 x2 s2)) fun r3 =>
  bd (gX6_isPlace r3) fun r4 =>
  jn (fun (a6 : Unit) =>
  lt (s2 + 1) fun y7 =>
  self1 y7) (fun j5 =>
  (if r4 = 0 then
  j5 ()
  else
  bd (la 3 r3) fun v8 =>
  jn (fun (a10 : Unit) =>
  pr (s2 + 1)) (fun j9 =>
  (if v8 = ((-1)) then
  j9 ()
  else
  bd (la 3 r3) fun v11 =>
  (if v11 = x2 then
  j9 ()
  else
  j5 ()))))))) 0
set_option maxHeartbeats 4000000 in
theorem cn_X6_looksFor (l : Launch) (G : Gl) (hG : gOk G) (ad : Nat → Nat) (x1 x2 : Int32) : Cn l G mX6_looksFor 1 lay_Puzzles ad [.ref (ad 0), .int x1, .int x2] (gX6_looksFor x1 x2) := by
  refine cn_of (lv := [some (.ref (ad 0)), some (.int x1), some (.int x2), none, none]) (by decide +kernel) rfl (Nat.le_of_ble_eq_true rfl) rfl ?_
  unfold gX6_looksFor
  refine s_iconst (pc := 0) (v := 0) (dc dl_X6_looksFor 0 rfl) ic_0 ?_
  refine s_istore_n (pc := 1) (lv' := [some (.ref (ad 0)), some (.int x1), some (.int x2), some (.int 0), none]) (dc dl_X6_looksFor 1 rfl) rfl (Nat.le_of_ble_eq_true rfl) rfl ?_
  refine s_weak (lv' := [some (.ref (ad 0)), some (.int x1), some (.int x2), some (.int 0), none]) rfl ?_
  refine s_loop (pc := 2) (fun s2 : Int32 => [some (.ref (ad 0)), some (.int x1), some (.int x2), some (.int s2), none]) [] (fun self1 hself1 s2 => ?_) _ 0
  refine s_iload_n (pc := 2) (dc dl_X6_looksFor 2 rfl) rfl rfl ?_
  refine s_iload_n (pc := 3) (dc dl_X6_looksFor 3 rfl) rfl rfl ?_
  refine s_icmp_ge (pc := 4) (tgt := 56) (dc dl_X6_looksFor 4 rfl) rfl ?_ ?_
  · refine s_iload_n (pc := 56) (dc dl_X6_looksFor 32 rfl) rfl rfl ?_
    exact s_ireturn (pc := 57) rfl (dc dl_X6_looksFor 33 rfl)
  · refine s_iload_n (pc := 7) (dc dl_X6_looksFor 5 rfl) rfl rfl ?_
    refine s_iload_n (pc := 8) (dc dl_X6_looksFor 6 rfl) rfl rfl ?_
    refine s_iload_n (pc := 9) (dc dl_X6_looksFor 7 rfl) rfl rfl ?_
    refine s_calll (pc := 10) (ρ := rh0) (rest := []) hG (ss_Puzzles_E_rh0) (calls_S (mi := mX6_looksFor) (As := [.int x1, .int x2, .int s2]) (rest := []) hG (dc dl_X6_looksFor 8 rfl) mo_X6_placeBehind ms_X6_placeBehind ml_X6_76 ⟨Nat.le_of_ble_eq_true rfl, Nat.le_of_ble_eq_true rfl⟩ rfl rfl (Nat.le_of_ble_eq_true rfl)) (cn_X6_placeBehind l G hG (fun i => ad (rh0 i)) x1 x2 s2) rfl rfl (fun r3 => ?_)
    refine s_istore (pc := 13) (lv' := [some (.ref (ad 0)), some (.int x1), some (.int x2), some (.int s2), some (.int r3)]) (dc dl_X6_looksFor 9 rfl) (Nat.le_of_ble_eq_true rfl) rfl ?_
    refine s_aload_n (pc := 15) (dc dl_X6_looksFor 10 rfl) rfl rfl ?_
    refine s_iload (pc := 16) (dc dl_X6_looksFor 11 rfl) rfl ?_
    refine s_call (pc := 18) (rest := []) hG (calls_V (mi := mX6_looksFor) (o := 0) (As := [.int r3]) (rest := []) hG (dc dl_X6_looksFor 12 rfl) mo_X6_isPlace mv_X6_isPlace ml_X6_79 ⟨Nat.le_of_ble_eq_true rfl, Nat.le_of_ble_eq_true rfl⟩ rfl rfl (Nat.le_of_ble_eq_true rfl) lk_Puzzles_0 rfl) (cn_X6_isPlace l G hG ad r3) rfl (fun r4 => ?_)
    refine s_jn (pj := 50) (fun a6 : Unit => [some (.ref (ad 0)), some (.int x1), some (.int x2), some (.int s2), none]) (fun a6 : Unit => []) (fun a6 => ?_) (fun j5 hj5 => ?_)
    · refine s_iincL (pc := 50) (lf' := fun y7 => [some (.ref (ad 0)), some (.int x1), some (.int x2), some (.int y7), none]) (dc dl_X6_looksFor 30 rfl) rfl rfl (Nat.le_of_ble_eq_true rfl) (fun _ => rfl) (fun y7 => ?_)
      refine s_goto (pc := 53) (tgt := 2) (dc dl_X6_looksFor 31 rfl) rfl ?_
      exact s_wk (hself1 y7) rfl
    · refine s_if_eq (pc := 21) (tgt := 50) (dc dl_X6_looksFor 13 rfl) rfl ?_ ?_
      · exact s_wk (hj5 ()) rfl
      · refine s_aload_n (pc := 24) (dc dl_X6_looksFor 14 rfl) rfl rfl ?_
        refine s_getR (pc := 25) fl_X6_22 lk_Puzzles_0 kk_Puzzles_0_3 (dc dl_X6_looksFor 15 rfl) ?_
        refine s_iload (pc := 28) (dc dl_X6_looksFor 16 rfl) rfl ?_
        refine s_iald (pc := 30) lk_Puzzles_3 (dc dl_X6_looksFor 17 rfl) (fun v8 => ?_)
        refine s_iconst (pc := 31) (v := (-1)) (dc dl_X6_looksFor 18 rfl) ic_m1 ?_
        refine s_jn (pj := 46) (fun a10 : Unit => [none, none, none, some (.int s2), none]) (fun a10 : Unit => []) (fun a10 => ?_) (fun j9 hj9 => ?_)
        · refine s_iload_n (pc := 46) (dc dl_X6_looksFor 26 rfl) rfl rfl ?_
          refine s_iconst (pc := 47) (v := 1) (dc dl_X6_looksFor 27 rfl) ic_1 ?_
          refine s_iadd (pc := 48) (dc dl_X6_looksFor 28 rfl) ?_
          exact s_ireturn (pc := 49) rfl (dc dl_X6_looksFor 29 rfl)
        · refine s_icmp_eq (pc := 32) (tgt := 46) (dc dl_X6_looksFor 19 rfl) rfl ?_ ?_
          · exact s_wk (hj9 ()) rfl
          · refine s_aload_n (pc := 35) (dc dl_X6_looksFor 20 rfl) rfl rfl ?_
            refine s_getR (pc := 36) fl_X6_22 lk_Puzzles_0 kk_Puzzles_0_3 (dc dl_X6_looksFor 21 rfl) ?_
            refine s_iload (pc := 39) (dc dl_X6_looksFor 22 rfl) rfl ?_
            refine s_iald (pc := 41) lk_Puzzles_3 (dc dl_X6_looksFor 23 rfl) (fun v11 => ?_)
            refine s_iload_n (pc := 42) (dc dl_X6_looksFor 24 rfl) rfl rfl ?_
            refine s_icmp_ne (pc := 43) (tgt := 50) (dc dl_X6_looksFor 25 rfl) rfl ?_ ?_
            · exact s_wk (hj9 ()) rfl
            · exact s_wk (hj5 ()) rfl
def gX6_layTable (x2 : Int32) : MM Int32 :=
  bd (lf rh21 1 (gJ7_fill_53178 ((-1)))) fun r1 =>
  loopC 100000 (fun (self2 : Int32 → MM Int32) (s3 : Int32) =>
  bd (ld 4 0) fun v4 =>
  (if v4 ≤ s3 then
  pr 0
  else
  bd (lf rh20 2 (gX8_get s3)) fun r5 =>
  bd (lf rh22 4 (gX6_looksFor x2 r5)) fun r6 =>
  bd (lf rh0 0 (gX6_placeBehind x2 r5 (r6 - 1))) fun r7 =>
  bd (lf rh22 4 (gX6_isPlace r7)) fun r8 =>
  jn (fun (a10 : Unit) =>
  lt (s3 + 1) fun y11 =>
  self2 y11) (fun j9 =>
  (if r8 = 0 then
  j9 ()
  else
  bd (la 3 r7) fun v12 =>
  (if v12 = ((-1)) then
  bd (sa 3 r7 r5) fun _ =>
  j9 ()
  else
  j9 ()))))) 0
set_option maxHeartbeats 4000000 in
theorem cn_X6_layTable (l : Launch) (G : Gl) (hG : gOk G) (ad : Nat → Nat) (x2 : Int32) : Cn l G mX6_layTable 2 lay_PuzT ad [.ref (ad 0), .ref (ad 4), .int x2] (gX6_layTable x2) := by
  refine cn_of (lv := [some (.ref (ad 0)), some (.ref (ad 4)), some (.int x2), none, none, none]) (by decide +kernel) rfl (Nat.le_of_ble_eq_true rfl) rfl ?_
  unfold gX6_layTable
  refine s_aload_n (pc := 0) (dc dl_X6_layTable 0 rfl) rfl rfl ?_
  refine s_getR (pc := 1) fl_X6_22 lk_PuzT_0 kk_PuzT_0_3 (dc dl_X6_layTable 1 rfl) ?_
  refine s_iconst (pc := 4) (v := (-1)) (dc dl_X6_layTable 2 rfl) ic_m1 ?_
  refine s_calllv (pc := 5) (ρ := rh21) (rest := []) hG (ss_PuzT_A_rh21) (calls_S (mi := mX6_layTable) (As := [.ref (ad 3), .int ((-1))]) (rest := []) hG (dc dl_X6_layTable 3 rfl) mo_J7_fill_53178 ms_J7_fill_53178 ml_X6_67 ⟨Nat.le_of_ble_eq_true rfl, Nat.le_of_ble_eq_true rfl⟩ rfl rfl (Nat.le_of_ble_eq_true rfl)) (cn_J7_fill_53178 l G hG (fun i => ad (rh21 i)) ((-1))) rfl rfl (fun r1 => ?_)
  refine s_iconst (pc := 8) (v := 0) (dc dl_X6_layTable 4 rfl) ic_0 ?_
  refine s_istore_n (pc := 9) (lv' := [some (.ref (ad 0)), some (.ref (ad 4)), some (.int x2), some (.int 0), none, none]) (dc dl_X6_layTable 5 rfl) rfl (Nat.le_of_ble_eq_true rfl) rfl ?_
  refine s_weak (lv' := [some (.ref (ad 0)), some (.ref (ad 4)), some (.int x2), some (.int 0), none, none]) rfl ?_
  refine s_loop (pc := 10) (fun s3 : Int32 => [some (.ref (ad 0)), some (.ref (ad 4)), some (.int x2), some (.int s3), none, none]) [] (fun self2 hself2 s3 => ?_) _ 0
  refine s_iload_n (pc := 10) (dc dl_X6_layTable 6 rfl) rfl rfl ?_
  refine s_aload_n (pc := 11) (dc dl_X6_layTable 7 rfl) rfl rfl ?_
  refine s_getI (pc := 12) fl_X6_25 lk_PuzT_4 kk_PuzT_4_0 (dc dl_X6_layTable 8 rfl) (fun v4 => ?_)
  refine s_icmp_ge (pc := 15) (tgt := 77) (dc dl_X6_layTable 9 rfl) rfl ?_ ?_
  · exact s_return (pc := 77) rfl (dc dl_X6_layTable 41 rfl)
  · refine s_aload_n (pc := 18) (dc dl_X6_layTable 10 rfl) rfl rfl ?_
    refine s_iload_n (pc := 19) (dc dl_X6_layTable 11 rfl) rfl rfl ?_
    refine s_calll (pc := 20) (ρ := rh20) (rest := []) hG (ss_PuzT_Told_rh20) (calls_V (mi := mX6_layTable) (o := 4) (As := [.int s3]) (rest := []) hG (dc dl_X6_layTable 12 rfl) mo_X8_get mv_X8_get ml_X6_30 ⟨Nat.le_of_ble_eq_true rfl, Nat.le_of_ble_eq_true rfl⟩ rfl rfl (Nat.le_of_ble_eq_true rfl) lk_PuzT_4 rfl) (cn_X8_get l G hG (fun i => ad (rh20 i)) s3) rfl rfl (fun r5 => ?_)
    refine s_istore (pc := 23) (lv' := [some (.ref (ad 0)), some (.ref (ad 4)), some (.int x2), some (.int s3), some (.int r5), none]) (dc dl_X6_layTable 13 rfl) (Nat.le_of_ble_eq_true rfl) rfl ?_
    refine s_iload_n (pc := 25) (dc dl_X6_layTable 14 rfl) rfl rfl ?_
    refine s_iload (pc := 26) (dc dl_X6_layTable 15 rfl) rfl ?_
    refine s_aload_n (pc := 28) (dc dl_X6_layTable 16 rfl) rfl rfl ?_
    refine s_iload_n (pc := 29) (dc dl_X6_layTable 17 rfl) rfl rfl ?_
    refine s_iload (pc := 30) (dc dl_X6_layTable 18 rfl) rfl ?_
    refine s_calll (pc := 32) (ρ := rh22) (rest := [.int r5, .int x2]) hG (ss_PuzT_Puzzles_rh22) (calls_V (mi := mX6_layTable) (o := 0) (As := [.int x2, .int r5]) (rest := [.int r5, .int x2]) hG (dc dl_X6_layTable 19 rfl) mo_X6_looksFor mv_X6_looksFor ml_X6_73 ⟨Nat.le_of_ble_eq_true rfl, Nat.le_of_ble_eq_true rfl⟩ rfl rfl (Nat.le_of_ble_eq_true rfl) lk_PuzT_0 rfl) (cn_X6_looksFor l G hG (fun i => ad (rh22 i)) x2 r5) rfl rfl (fun r6 => ?_)
    refine s_iconst (pc := 35) (v := 1) (dc dl_X6_layTable 20 rfl) ic_1 ?_
    refine s_isub (pc := 36) (dc dl_X6_layTable 21 rfl) ?_
    refine s_calll (pc := 37) (ρ := rh0) (rest := []) hG (ss_PuzT_E_rh0) (calls_S (mi := mX6_layTable) (As := [.int x2, .int r5, .int (r6 - 1)]) (rest := []) hG (dc dl_X6_layTable 22 rfl) mo_X6_placeBehind ms_X6_placeBehind ml_X6_76 ⟨Nat.le_of_ble_eq_true rfl, Nat.le_of_ble_eq_true rfl⟩ rfl rfl (Nat.le_of_ble_eq_true rfl)) (cn_X6_placeBehind l G hG (fun i => ad (rh0 i)) x2 r5 (r6 - 1)) rfl rfl (fun r7 => ?_)
    refine s_istore (pc := 40) (lv' := [some (.ref (ad 0)), some (.ref (ad 4)), some (.int x2), some (.int s3), some (.int r5), some (.int r7)]) (dc dl_X6_layTable 23 rfl) (Nat.le_of_ble_eq_true rfl) rfl ?_
    refine s_aload_n (pc := 42) (dc dl_X6_layTable 24 rfl) rfl rfl ?_
    refine s_iload (pc := 43) (dc dl_X6_layTable 25 rfl) rfl ?_
    refine s_calll (pc := 45) (ρ := rh22) (rest := []) hG (ss_PuzT_Puzzles_rh22) (calls_V (mi := mX6_layTable) (o := 0) (As := [.int r7]) (rest := []) hG (dc dl_X6_layTable 26 rfl) mo_X6_isPlace mv_X6_isPlace ml_X6_79 ⟨Nat.le_of_ble_eq_true rfl, Nat.le_of_ble_eq_true rfl⟩ rfl rfl (Nat.le_of_ble_eq_true rfl) lk_PuzT_0 rfl) (cn_X6_isPlace l G hG (fun i => ad (rh22 i)) r7) rfl rfl (fun r8 => ?_)
    refine s_jn (pj := 71) (fun a10 : Unit => [some (.ref (ad 0)), some (.ref (ad 4)), some (.int x2), some (.int s3), none, none]) (fun a10 : Unit => []) (fun a10 => ?_) (fun j9 hj9 => ?_)
    · refine s_iincL (pc := 71) (lf' := fun y11 => [some (.ref (ad 0)), some (.ref (ad 4)), some (.int x2), some (.int y11), none, none]) (dc dl_X6_layTable 39 rfl) rfl rfl (Nat.le_of_ble_eq_true rfl) (fun _ => rfl) (fun y11 => ?_)
      refine s_goto (pc := 74) (tgt := 10) (dc dl_X6_layTable 40 rfl) rfl ?_
      exact s_wk (hself2 y11) rfl
    · refine s_if_eq (pc := 48) (tgt := 71) (dc dl_X6_layTable 27 rfl) rfl ?_ ?_
      · exact s_wk (hj9 ()) rfl
      · refine s_aload_n (pc := 51) (dc dl_X6_layTable 28 rfl) rfl rfl ?_
        refine s_getR (pc := 52) fl_X6_22 lk_PuzT_0 kk_PuzT_0_3 (dc dl_X6_layTable 29 rfl) ?_
        refine s_iload (pc := 55) (dc dl_X6_layTable 30 rfl) rfl ?_
        refine s_iald (pc := 57) lk_PuzT_3 (dc dl_X6_layTable 31 rfl) (fun v12 => ?_)
        refine s_iconst (pc := 58) (v := (-1)) (dc dl_X6_layTable 32 rfl) ic_m1 ?_
        refine s_icmp_ne (pc := 59) (tgt := 71) (dc dl_X6_layTable 33 rfl) rfl ?_ ?_
        · refine s_aload_n (pc := 62) (dc dl_X6_layTable 34 rfl) rfl rfl ?_
          refine s_getR (pc := 63) fl_X6_22 lk_PuzT_0 kk_PuzT_0_3 (dc dl_X6_layTable 35 rfl) ?_
          refine s_iload (pc := 66) (dc dl_X6_layTable 36 rfl) rfl ?_
          refine s_iload (pc := 68) (dc dl_X6_layTable 37 rfl) rfl ?_
          refine s_iast (pc := 70) lk_PuzT_3 (dc dl_X6_layTable 38 rfl) ?_
          exact s_wk (hj9 ()) rfl
        · exact s_wk (hj9 ()) rfl
def gX6_lastLookFound (x1 x2 x3 : Int32) : MM Int32 :=
  bd (lf rh0 0 (gX6_placeBehind x1 x2 (x3 - 1))) fun r1 =>
  bd (gX6_isPlace r1) fun r2 =>
  jn (fun (a4 : Int32) =>
  pr a4) (fun j3 =>
  jn (fun (a6 : Unit) =>
  j3 ((-1))) (fun j5 =>
  (if r2 = 0 then
  j5 ()
  else
  bd (la 3 r1) fun v7 =>
  (if v7 = x2 then
  j3 r1
  else
  j5 ()))))
set_option maxHeartbeats 4000000 in
theorem cn_X6_lastLookFound (l : Launch) (G : Gl) (hG : gOk G) (ad : Nat → Nat) (x1 x2 x3 : Int32) : Cn l G mX6_lastLookFound 1 lay_Puzzles ad [.ref (ad 0), .int x1, .int x2, .int x3] (gX6_lastLookFound x1 x2 x3) := by
  refine cn_of (lv := [some (.ref (ad 0)), some (.int x1), some (.int x2), some (.int x3), none]) (by decide +kernel) rfl (Nat.le_of_ble_eq_true rfl) rfl ?_
  unfold gX6_lastLookFound
  refine s_iload_n (pc := 0) (dc dl_X6_lastLookFound 0 rfl) rfl rfl ?_
  refine s_iload_n (pc := 1) (dc dl_X6_lastLookFound 1 rfl) rfl rfl ?_
  refine s_iload_n (pc := 2) (dc dl_X6_lastLookFound 2 rfl) rfl rfl ?_
  refine s_iconst (pc := 3) (v := 1) (dc dl_X6_lastLookFound 3 rfl) ic_1 ?_
  refine s_isub (pc := 4) (dc dl_X6_lastLookFound 4 rfl) ?_
  refine s_calll (pc := 5) (ρ := rh0) (rest := []) hG (ss_Puzzles_E_rh0) (calls_S (mi := mX6_lastLookFound) (As := [.int x1, .int x2, .int (x3 - 1)]) (rest := []) hG (dc dl_X6_lastLookFound 5 rfl) mo_X6_placeBehind ms_X6_placeBehind ml_X6_76 ⟨Nat.le_of_ble_eq_true rfl, Nat.le_of_ble_eq_true rfl⟩ rfl rfl (Nat.le_of_ble_eq_true rfl)) (cn_X6_placeBehind l G hG (fun i => ad (rh0 i)) x1 x2 (x3 - 1)) rfl rfl (fun r1 => ?_)
  refine s_istore (pc := 8) (lv' := [some (.ref (ad 0)), some (.int x1), some (.int x2), some (.int x3), some (.int r1)]) (dc dl_X6_lastLookFound 6 rfl) (Nat.le_of_ble_eq_true rfl) rfl ?_
  refine s_aload_n (pc := 10) (dc dl_X6_lastLookFound 7 rfl) rfl rfl ?_
  refine s_iload (pc := 11) (dc dl_X6_lastLookFound 8 rfl) rfl ?_
  refine s_call (pc := 13) (rest := []) hG (calls_V (mi := mX6_lastLookFound) (o := 0) (As := [.int r1]) (rest := []) hG (dc dl_X6_lastLookFound 9 rfl) mo_X6_isPlace mv_X6_isPlace ml_X6_79 ⟨Nat.le_of_ble_eq_true rfl, Nat.le_of_ble_eq_true rfl⟩ rfl rfl (Nat.le_of_ble_eq_true rfl) lk_Puzzles_0 rfl) (cn_X6_isPlace l G hG ad r1) rfl (fun r2 => ?_)
  refine s_jn (pj := 36) (fun a4 : Int32 => [none, none, none, none, none]) (fun a4 : Int32 => [.int a4]) (fun a4 => ?_) (fun j3 hj3 => ?_)
  · exact s_ireturn (pc := 36) rfl (dc dl_X6_lastLookFound 20 rfl)
  · refine s_jn (pj := 35) (fun a6 : Unit => [none, none, none, none, none]) (fun a6 : Unit => []) (fun a6 => ?_) (fun j5 hj5 => ?_)
    · refine s_iconst (pc := 35) (v := (-1)) (dc dl_X6_lastLookFound 19 rfl) ic_m1 ?_
      exact s_wk (hj3 ((-1))) rfl
    · refine s_if_eq (pc := 16) (tgt := 35) (dc dl_X6_lastLookFound 10 rfl) rfl ?_ ?_
      · exact s_wk (hj5 ()) rfl
      · refine s_aload_n (pc := 19) (dc dl_X6_lastLookFound 11 rfl) rfl rfl ?_
        refine s_getR (pc := 20) fl_X6_22 lk_Puzzles_0 kk_Puzzles_0_3 (dc dl_X6_lastLookFound 12 rfl) ?_
        refine s_iload (pc := 23) (dc dl_X6_lastLookFound 13 rfl) rfl ?_
        refine s_iald (pc := 25) lk_Puzzles_3 (dc dl_X6_lastLookFound 14 rfl) (fun v7 => ?_)
        refine s_iload_n (pc := 26) (dc dl_X6_lastLookFound 15 rfl) rfl rfl ?_
        refine s_icmp_ne (pc := 27) (tgt := 35) (dc dl_X6_lastLookFound 16 rfl) rfl ?_ ?_
        · refine s_iload (pc := 30) (dc dl_X6_lastLookFound 17 rfl) rfl ?_
          refine s_goto (pc := 32) (tgt := 36) (dc dl_X6_lastLookFound 18 rfl) rfl ?_
          exact s_wk (hj3 r1) rfl
        · exact s_wk (hj5 ()) rfl
def gX6_stepsTo (x1 x2 x3 : Int32) : MM Int32 :=
  loopC 100000 (fun (self1 : Int32 → MM Int32) (s2 : Int32) =>
  (if 16 ≤ s2 then
  pr 16
  else
  lt (x1 + (x3 * s2)) fun y3 =>
  jn (fun (a5 : Unit) =>
  lt (s2 + 1) fun y6 =>
  self1 y6) (fun j4 =>
  (if y3 < 0 then
  j4 ()
  else
  bd (ld 0 0) fun v7 =>
  (if v7 ≤ y3 then
  j4 ()
  else
  bd (gX8_get y3) fun r8 =>
  (if r8 = x2 then
  pr s2
  else
  j4 ())))))) 1
set_option maxHeartbeats 4000000 in
theorem cn_X6_stepsTo (l : Launch) (G : Gl) (hG : gOk G) (ad : Nat → Nat) (x1 x2 x3 : Int32) : Cn l G mX6_stepsTo 1 lay_Told ad [.ref (ad 0), .int x1, .int x2, .int x3] (gX6_stepsTo x1 x2 x3) := by
  refine cn_of (lv := [some (.ref (ad 0)), some (.int x1), some (.int x2), some (.int x3), none, none]) (by decide +kernel) rfl (Nat.le_of_ble_eq_true rfl) rfl ?_
  unfold gX6_stepsTo
  refine s_iconst (pc := 0) (v := 1) (dc dl_X6_stepsTo 0 rfl) ic_1 ?_
  refine s_istore (pc := 1) (lv' := [some (.ref (ad 0)), some (.int x1), some (.int x2), some (.int x3), some (.int 1), none]) (dc dl_X6_stepsTo 1 rfl) (Nat.le_of_ble_eq_true rfl) rfl ?_
  refine s_weak (lv' := [some (.ref (ad 0)), some (.int x1), some (.int x2), some (.int x3), some (.int 1), none]) rfl ?_
  refine s_loop (pc := 3) (fun s2 : Int32 => [some (.ref (ad 0)), some (.int x1), some (.int x2), some (.int x3), some (.int s2), none]) [] (fun self1 hself1 s2 => ?_) _ 1
  refine s_iload (pc := 3) (dc dl_X6_stepsTo 2 rfl) rfl ?_
  refine s_bipush (pc := 5) (v := 16) (dc dl_X6_stepsTo 3 rfl) bi_16 ?_
  refine s_icmp_ge (pc := 7) (tgt := 51) (dc dl_X6_stepsTo 4 rfl) rfl ?_ ?_
  · refine s_bipush (pc := 51) (v := 16) (dc dl_X6_stepsTo 26 rfl) bi_16 ?_
    exact s_ireturn (pc := 53) rfl (dc dl_X6_stepsTo 27 rfl)
  · refine s_iload_n (pc := 10) (dc dl_X6_stepsTo 5 rfl) rfl rfl ?_
    refine s_iload_n (pc := 11) (dc dl_X6_stepsTo 6 rfl) rfl rfl ?_
    refine s_iload (pc := 12) (dc dl_X6_stepsTo 7 rfl) rfl ?_
    refine s_imul (pc := 14) (dc dl_X6_stepsTo 8 rfl) ?_
    refine s_iadd (pc := 15) (dc dl_X6_stepsTo 9 rfl) ?_
    refine s_istoreL (pc := 16) (lf' := fun y3 => [some (.ref (ad 0)), some (.int x1), some (.int x2), some (.int x3), some (.int s2), some (.int y3)]) (dc dl_X6_stepsTo 10 rfl) (Nat.le_of_ble_eq_true rfl) (fun _ => rfl) (fun y3 => ?_)
    refine s_iload (pc := 18) (dc dl_X6_stepsTo 11 rfl) rfl ?_
    refine s_jn (pj := 45) (fun a5 : Unit => [some (.ref (ad 0)), some (.int x1), some (.int x2), some (.int x3), some (.int s2), none]) (fun a5 : Unit => []) (fun a5 => ?_) (fun j4 hj4 => ?_)
    · refine s_iincL (pc := 45) (lf' := fun y6 => [some (.ref (ad 0)), some (.int x1), some (.int x2), some (.int x3), some (.int y6), none]) (dc dl_X6_stepsTo 24 rfl) rfl rfl (Nat.le_of_ble_eq_true rfl) (fun _ => rfl) (fun y6 => ?_)
      refine s_goto (pc := 48) (tgt := 3) (dc dl_X6_stepsTo 25 rfl) rfl ?_
      exact s_wk (hself1 y6) rfl
    · refine s_if_lt (pc := 20) (tgt := 45) (dc dl_X6_stepsTo 12 rfl) rfl ?_ ?_
      · exact s_wk (hj4 ()) rfl
      · refine s_iload (pc := 23) (dc dl_X6_stepsTo 13 rfl) rfl ?_
        refine s_aload_n (pc := 25) (dc dl_X6_stepsTo 14 rfl) rfl rfl ?_
        refine s_getI (pc := 26) fl_X6_25 lk_Told_0 kk_Told_0_0 (dc dl_X6_stepsTo 15 rfl) (fun v7 => ?_)
        refine s_icmp_ge (pc := 29) (tgt := 45) (dc dl_X6_stepsTo 16 rfl) rfl ?_ ?_
        · exact s_wk (hj4 ()) rfl
        · refine s_aload_n (pc := 32) (dc dl_X6_stepsTo 17 rfl) rfl rfl ?_
          refine s_iload (pc := 33) (dc dl_X6_stepsTo 18 rfl) rfl ?_
          refine s_call (pc := 35) (rest := []) hG (calls_V (mi := mX6_stepsTo) (o := 0) (As := [.int y3]) (rest := []) hG (dc dl_X6_stepsTo 19 rfl) mo_X8_get mv_X8_get ml_X6_30 ⟨Nat.le_of_ble_eq_true rfl, Nat.le_of_ble_eq_true rfl⟩ rfl rfl (Nat.le_of_ble_eq_true rfl) lk_Told_0 rfl) (cn_X8_get l G hG ad y3) rfl (fun r8 => ?_)
          refine s_iload_n (pc := 38) (dc dl_X6_stepsTo 20 rfl) rfl rfl ?_
          refine s_icmp_ne (pc := 39) (tgt := 45) (dc dl_X6_stepsTo 21 rfl) rfl ?_ ?_
          · refine s_iload (pc := 42) (dc dl_X6_stepsTo 22 rfl) rfl ?_
            exact s_ireturn (pc := 44) rfl (dc dl_X6_stepsTo 23 rfl)
          · exact s_wk (hj4 ()) rfl
def gX6_whichGoes (x1 x2 x3 : Int32) : MM Int32 :=
  loopC 100000 (fun (self1 : (Int32 × Int32 × Int32) → MM Int32) (s2 : Int32 × Int32 × Int32) =>
  (if 10 ≤ s2.2.2 then
  pr s2.1
  else
  jn (fun (a4 : Int32) =>
  jn (fun (a6 : Int32 × Int32) =>
  lt (s2.2.2 + 1) fun y7 =>
  self1 (a6.1, a6.2, y7)) (fun j5 =>
  (if ((ish x2 s2.2.2) &&& 1) = 1 then
  (if a4 ≤ s2.2.1 then
  j5 (s2.1, s2.2.1)
  else
  j5 (s2.2.2, a4))
  else
  j5 (s2.1, s2.2.1)))) (fun j3 =>
  (if x3 = 0 then
  bd (gX6_stepsTo x1 s2.2.2 ((-1))) fun r8 =>
  j3 r8
  else
  bd (gX6_stepsTo x1 s2.2.2 1) fun r9 =>
  j3 r9)))) (0, ((-1)), 0)
set_option maxHeartbeats 4000000 in
theorem cn_X6_whichGoes (l : Launch) (G : Gl) (hG : gOk G) (ad : Nat → Nat) (x1 x2 x3 : Int32) : Cn l G mX6_whichGoes 2 lay_Told ad [.ref (ad 0), .int x1, .int x2, .int x3] (gX6_whichGoes x1 x2 x3) := by
  refine cn_of (lv := [some (.ref (ad 0)), some (.int x1), some (.int x2), some (.int x3), none, none, none, none]) (by decide +kernel) rfl (Nat.le_of_ble_eq_true rfl) rfl ?_
  unfold gX6_whichGoes
  refine s_iconst (pc := 0) (v := 0) (dc dl_X6_whichGoes 0 rfl) ic_0 ?_
  refine s_istore (pc := 1) (lv' := [some (.ref (ad 0)), some (.int x1), some (.int x2), some (.int x3), some (.int 0), none, none, none]) (dc dl_X6_whichGoes 1 rfl) (Nat.le_of_ble_eq_true rfl) rfl ?_
  refine s_iconst (pc := 3) (v := (-1)) (dc dl_X6_whichGoes 2 rfl) ic_m1 ?_
  refine s_istore (pc := 4) (lv' := [some (.ref (ad 0)), some (.int x1), some (.int x2), some (.int x3), some (.int 0), some (.int ((-1))), none, none]) (dc dl_X6_whichGoes 3 rfl) (Nat.le_of_ble_eq_true rfl) rfl ?_
  refine s_iconst (pc := 6) (v := 0) (dc dl_X6_whichGoes 4 rfl) ic_0 ?_
  refine s_istore (pc := 7) (lv' := [some (.ref (ad 0)), some (.int x1), some (.int x2), some (.int x3), some (.int 0), some (.int ((-1))), some (.int 0), none]) (dc dl_X6_whichGoes 5 rfl) (Nat.le_of_ble_eq_true rfl) rfl ?_
  refine s_weak (lv' := [some (.ref (ad 0)), some (.int x1), some (.int x2), some (.int x3), some (.int 0), some (.int ((-1))), some (.int 0), none]) rfl ?_
  refine s_loop (pc := 9) (fun s2 : Int32 × Int32 × Int32 => [some (.ref (ad 0)), some (.int x1), some (.int x2), some (.int x3), some (.int s2.1), some (.int s2.2.1), some (.int s2.2.2), none]) [] (fun self1 hself1 s2 => ?_) _ (0, ((-1)), 0)
  refine s_iload (pc := 9) (dc dl_X6_whichGoes 6 rfl) rfl ?_
  refine s_bipush (pc := 11) (v := 10) (dc dl_X6_whichGoes 7 rfl) bi_10 ?_
  refine s_icmp_ge (pc := 13) (tgt := 72) (dc dl_X6_whichGoes 8 rfl) rfl ?_ ?_
  · refine s_iload (pc := 72) (dc dl_X6_whichGoes 39 rfl) rfl ?_
    exact s_ireturn (pc := 74) rfl (dc dl_X6_whichGoes 40 rfl)
  · refine s_iload_n (pc := 16) (dc dl_X6_whichGoes 9 rfl) rfl rfl ?_
    refine s_jn (pj := 39) (fun a4 : Int32 => [some (.ref (ad 0)), some (.int x1), some (.int x2), some (.int x3), some (.int s2.1), some (.int s2.2.1), some (.int s2.2.2), none]) (fun a4 : Int32 => [.int a4]) (fun a4 => ?_) (fun j3 hj3 => ?_)
    · refine s_istore (pc := 39) (lv' := [some (.ref (ad 0)), some (.int x1), some (.int x2), some (.int x3), some (.int s2.1), some (.int s2.2.1), some (.int s2.2.2), some (.int a4)]) (dc dl_X6_whichGoes 22 rfl) (Nat.le_of_ble_eq_true rfl) rfl ?_
      refine s_iload_n (pc := 41) (dc dl_X6_whichGoes 23 rfl) rfl rfl ?_
      refine s_iload (pc := 42) (dc dl_X6_whichGoes 24 rfl) rfl ?_
      refine s_iushr (pc := 44) (dc dl_X6_whichGoes 25 rfl) ?_
      refine s_iconst (pc := 45) (v := 1) (dc dl_X6_whichGoes 26 rfl) ic_1 ?_
      refine s_iand (pc := 46) (dc dl_X6_whichGoes 27 rfl) ?_
      refine s_iconst (pc := 47) (v := 1) (dc dl_X6_whichGoes 28 rfl) ic_1 ?_
      refine s_jn (pj := 66) (fun a6 : Int32 × Int32 => [some (.ref (ad 0)), some (.int x1), some (.int x2), some (.int x3), some (.int a6.1), some (.int a6.2), some (.int s2.2.2), none]) (fun a6 : Int32 × Int32 => []) (fun a6 => ?_) (fun j5 hj5 => ?_)
      · refine s_iincL (pc := 66) (lf' := fun y7 => [some (.ref (ad 0)), some (.int x1), some (.int x2), some (.int x3), some (.int a6.1), some (.int a6.2), some (.int y7), none]) (dc dl_X6_whichGoes 37 rfl) rfl rfl (Nat.le_of_ble_eq_true rfl) (fun _ => rfl) (fun y7 => ?_)
        refine s_goto (pc := 69) (tgt := 9) (dc dl_X6_whichGoes 38 rfl) rfl ?_
        exact s_wk (hself1 (a6.1, a6.2, y7)) rfl
      · refine s_icmp_ne (pc := 48) (tgt := 66) (dc dl_X6_whichGoes 29 rfl) rfl ?_ ?_
        · refine s_iload (pc := 51) (dc dl_X6_whichGoes 30 rfl) rfl ?_
          refine s_iload (pc := 53) (dc dl_X6_whichGoes 31 rfl) rfl ?_
          refine s_icmp_le (pc := 55) (tgt := 66) (dc dl_X6_whichGoes 32 rfl) rfl ?_ ?_
          · exact s_wk (hj5 (s2.1, s2.2.1)) rfl
          · refine s_iload (pc := 58) (dc dl_X6_whichGoes 33 rfl) rfl ?_
            refine s_istore (pc := 60) (lv' := [some (.ref (ad 0)), some (.int x1), some (.int x2), some (.int x3), some (.int s2.1), some (.int a4), some (.int s2.2.2), some (.int a4)]) (dc dl_X6_whichGoes 34 rfl) (Nat.le_of_ble_eq_true rfl) rfl ?_
            refine s_iload (pc := 62) (dc dl_X6_whichGoes 35 rfl) rfl ?_
            refine s_istore (pc := 64) (lv' := [some (.ref (ad 0)), some (.int x1), some (.int x2), some (.int x3), some (.int s2.2.2), some (.int a4), some (.int s2.2.2), some (.int a4)]) (dc dl_X6_whichGoes 36 rfl) (Nat.le_of_ble_eq_true rfl) rfl ?_
            exact s_wk (hj5 (s2.2.2, a4)) rfl
        · exact s_wk (hj5 (s2.1, s2.2.1)) rfl
    · refine s_if_eq (pc := 17) (tgt := 31) (dc dl_X6_whichGoes 10 rfl) rfl ?_ ?_
      · refine s_aload_n (pc := 31) (dc dl_X6_whichGoes 17 rfl) rfl rfl ?_
        refine s_iload_n (pc := 32) (dc dl_X6_whichGoes 18 rfl) rfl rfl ?_
        refine s_iload (pc := 33) (dc dl_X6_whichGoes 19 rfl) rfl ?_
        refine s_iconst (pc := 35) (v := (-1)) (dc dl_X6_whichGoes 20 rfl) ic_m1 ?_
        refine s_call (pc := 36) (rest := []) hG (calls_S (mi := mX6_whichGoes) (As := [.ref (ad 0), .int x1, .int s2.2.2, .int ((-1))]) (rest := []) hG (dc dl_X6_whichGoes 21 rfl) mo_X6_stepsTo ms_X6_stepsTo ml_X6_91 ⟨Nat.le_of_ble_eq_true rfl, Nat.le_of_ble_eq_true rfl⟩ rfl rfl (Nat.le_of_ble_eq_true rfl)) (cn_X6_stepsTo l G hG ad x1 s2.2.2 ((-1))) rfl (fun r8 => ?_)
        exact s_wk (hj3 r8) rfl
      · refine s_aload_n (pc := 20) (dc dl_X6_whichGoes 11 rfl) rfl rfl ?_
        refine s_iload_n (pc := 21) (dc dl_X6_whichGoes 12 rfl) rfl rfl ?_
        refine s_iload (pc := 22) (dc dl_X6_whichGoes 13 rfl) rfl ?_
        refine s_iconst (pc := 24) (v := 1) (dc dl_X6_whichGoes 14 rfl) ic_1 ?_
        refine s_call (pc := 25) (rest := []) hG (calls_S (mi := mX6_whichGoes) (As := [.ref (ad 0), .int x1, .int s2.2.2, .int 1]) (rest := []) hG (dc dl_X6_whichGoes 15 rfl) mo_X6_stepsTo ms_X6_stepsTo ml_X6_91 ⟨Nat.le_of_ble_eq_true rfl, Nat.le_of_ble_eq_true rfl⟩ rfl rfl (Nat.le_of_ble_eq_true rfl)) (cn_X6_stepsTo l G hG ad x1 s2.2.2 1) rfl (fun r9 => ?_)
        refine s_goto (pc := 28) (tgt := 39) (dc dl_X6_whichGoes 16 rfl) rfl ?_
        exact s_wk (hj3 r9) rfl
def gX6_misses (x1 x2 : Int32) : MM Int32 :=
  loopC 100000 (fun (self1 : (Int32 × Int32 × Int32) → MM Int32) (s2 : Int32 × Int32 × Int32) =>
  bd (ld 0 0) fun v3 =>
  (if v3 ≤ s2.2.2 then
  pr s2.2.1
  else
  bd (gX8_get s2.2.2) fun r4 =>
  lt (1 <<< (r4 &&& 31)) fun y5 =>
  jn (fun (a7 : Int32 × Int32) =>
  lt (s2.2.2 + 1) fun y8 =>
  self1 (a7.1, a7.2, y8)) (fun j6 =>
  (if (s2.1 &&& y5) = 0 then
  lt (s2.2.1 + 1) fun y9 =>
  bd (lf rh0 0 (gJ6_bitCount_0f7a4 s2.1)) fun r10 =>
  jn (fun (a12 : Int32) =>
  lt (a12 ||| y5) fun y13 =>
  j6 (y13, y9)) (fun j11 =>
  (if r10 < x1 then
  j11 s2.1
  else
  bd (gX6_whichGoes s2.2.2 s2.1 x2) fun r14 =>
  lt (s2.1 ^^^ (1 <<< (r14 &&& 31))) fun y15 =>
  j11 y15))
  else
  j6 (s2.1, s2.2.1))))) (0, 0, 0)
set_option maxHeartbeats 4000000 in
theorem cn_X6_misses (l : Launch) (G : Gl) (hG : gOk G) (ad : Nat → Nat) (x1 x2 : Int32) : Cn l G mX6_misses 3 lay_Told ad [.ref (ad 0), .int x1, .int x2] (gX6_misses x1 x2) := by
  refine cn_of (lv := [some (.ref (ad 0)), some (.int x1), some (.int x2), none, none, none, none]) (by decide +kernel) rfl (Nat.le_of_ble_eq_true rfl) rfl ?_
  unfold gX6_misses
  refine s_iconst (pc := 0) (v := 0) (dc dl_X6_misses 0 rfl) ic_0 ?_
  refine s_istore_n (pc := 1) (lv' := [some (.ref (ad 0)), some (.int x1), some (.int x2), some (.int 0), none, none, none]) (dc dl_X6_misses 1 rfl) rfl (Nat.le_of_ble_eq_true rfl) rfl ?_
  refine s_iconst (pc := 2) (v := 0) (dc dl_X6_misses 2 rfl) ic_0 ?_
  refine s_istore (pc := 3) (lv' := [some (.ref (ad 0)), some (.int x1), some (.int x2), some (.int 0), some (.int 0), none, none]) (dc dl_X6_misses 3 rfl) (Nat.le_of_ble_eq_true rfl) rfl ?_
  refine s_iconst (pc := 5) (v := 0) (dc dl_X6_misses 4 rfl) ic_0 ?_
  refine s_istore (pc := 6) (lv' := [some (.ref (ad 0)), some (.int x1), some (.int x2), some (.int 0), some (.int 0), some (.int 0), none]) (dc dl_X6_misses 5 rfl) (Nat.le_of_ble_eq_true rfl) rfl ?_
  refine s_weak (lv' := [some (.ref (ad 0)), some (.int x1), some (.int x2), some (.int 0), some (.int 0), some (.int 0), none]) rfl ?_
  refine s_loop (pc := 8) (fun s2 : Int32 × Int32 × Int32 => [some (.ref (ad 0)), some (.int x1), some (.int x2), some (.int s2.1), some (.int s2.2.1), some (.int s2.2.2), none]) [] (fun self1 hself1 s2 => ?_) _ (0, 0, 0)
  refine s_iload (pc := 8) (dc dl_X6_misses 6 rfl) rfl ?_
  refine s_aload_n (pc := 10) (dc dl_X6_misses 7 rfl) rfl rfl ?_
  refine s_getI (pc := 11) fl_X6_25 lk_Told_0 kk_Told_0_0 (dc dl_X6_misses 8 rfl) (fun v3 => ?_)
  refine s_icmp_ge (pc := 14) (tgt := 69) (dc dl_X6_misses 9 rfl) rfl ?_ ?_
  · refine s_iload (pc := 69) (dc dl_X6_misses 41 rfl) rfl ?_
    exact s_ireturn (pc := 71) rfl (dc dl_X6_misses 42 rfl)
  · refine s_iconst (pc := 17) (v := 1) (dc dl_X6_misses 10 rfl) ic_1 ?_
    refine s_aload_n (pc := 18) (dc dl_X6_misses 11 rfl) rfl rfl ?_
    refine s_iload (pc := 19) (dc dl_X6_misses 12 rfl) rfl ?_
    refine s_call (pc := 21) (rest := [.int 1]) hG (calls_V (mi := mX6_misses) (o := 0) (As := [.int s2.2.2]) (rest := [.int 1]) hG (dc dl_X6_misses 13 rfl) mo_X8_get mv_X8_get ml_X6_30 ⟨Nat.le_of_ble_eq_true rfl, Nat.le_of_ble_eq_true rfl⟩ rfl rfl (Nat.le_of_ble_eq_true rfl) lk_Told_0 rfl) (cn_X8_get l G hG ad s2.2.2) rfl (fun r4 => ?_)
    refine s_ishl (pc := 24) (dc dl_X6_misses 14 rfl) ?_
    refine s_istoreL (pc := 25) (lf' := fun y5 => [some (.ref (ad 0)), some (.int x1), some (.int x2), some (.int s2.1), some (.int s2.2.1), some (.int s2.2.2), some (.int y5)]) (dc dl_X6_misses 15 rfl) (Nat.le_of_ble_eq_true rfl) (fun _ => rfl) (fun y5 => ?_)
    refine s_iload_n (pc := 27) (dc dl_X6_misses 16 rfl) rfl rfl ?_
    refine s_iload (pc := 28) (dc dl_X6_misses 17 rfl) rfl ?_
    refine s_iand (pc := 30) (dc dl_X6_misses 18 rfl) ?_
    refine s_jn (pj := 63) (fun a7 : Int32 × Int32 => [some (.ref (ad 0)), some (.int x1), some (.int x2), some (.int a7.1), some (.int a7.2), some (.int s2.2.2), none]) (fun a7 : Int32 × Int32 => []) (fun a7 => ?_) (fun j6 hj6 => ?_)
    · refine s_iincL (pc := 63) (lf' := fun y8 => [some (.ref (ad 0)), some (.int x1), some (.int x2), some (.int a7.1), some (.int a7.2), some (.int y8), none]) (dc dl_X6_misses 39 rfl) rfl rfl (Nat.le_of_ble_eq_true rfl) (fun _ => rfl) (fun y8 => ?_)
      refine s_goto (pc := 66) (tgt := 8) (dc dl_X6_misses 40 rfl) rfl ?_
      exact s_wk (hself1 (a7.1, a7.2, y8)) rfl
    · refine s_if_ne (pc := 31) (tgt := 63) (dc dl_X6_misses 19 rfl) rfl ?_ ?_
      · refine s_iincL (pc := 34) (lf' := fun y9 => [some (.ref (ad 0)), some (.int x1), some (.int x2), some (.int s2.1), some (.int y9), some (.int s2.2.2), some (.int y5)]) (dc dl_X6_misses 20 rfl) rfl rfl (Nat.le_of_ble_eq_true rfl) (fun _ => rfl) (fun y9 => ?_)
        refine s_iload_n (pc := 37) (dc dl_X6_misses 21 rfl) rfl rfl ?_
        refine s_calll (pc := 38) (ρ := rh0) (rest := []) hG (ss_Told_E_rh0) (calls_S (mi := mX6_misses) (As := [.int s2.1]) (rest := []) hG (dc dl_X6_misses 22 rfl) mo_J6_bitCount_0f7a4 ms_J6_bitCount_0f7a4 ml_X6_82 ⟨Nat.le_of_ble_eq_true rfl, Nat.le_of_ble_eq_true rfl⟩ rfl rfl (Nat.le_of_ble_eq_true rfl)) (cn_J6_bitCount_0f7a4 l G hG (fun i => ad (rh0 i)) s2.1) rfl rfl (fun r10 => ?_)
        refine s_iload_n (pc := 41) (dc dl_X6_misses 23 rfl) rfl rfl ?_
        refine s_jn (pj := 58) (fun a12 : Int32 => [some (.ref (ad 0)), some (.int x1), some (.int x2), some (.int a12), some (.int y9), some (.int s2.2.2), some (.int y5)]) (fun a12 : Int32 => []) (fun a12 => ?_) (fun j11 hj11 => ?_)
        · refine s_iload_n (pc := 58) (dc dl_X6_misses 35 rfl) rfl rfl ?_
          refine s_iload (pc := 59) (dc dl_X6_misses 36 rfl) rfl ?_
          refine s_ior (pc := 61) (dc dl_X6_misses 37 rfl) ?_
          refine s_istore_nL (pc := 62) (lf' := fun y13 => [some (.ref (ad 0)), some (.int x1), some (.int x2), some (.int y13), some (.int y9), some (.int s2.2.2), some (.int y5)]) (dc dl_X6_misses 38 rfl) rfl (Nat.le_of_ble_eq_true rfl) (fun _ => rfl) (fun y13 => ?_)
          exact s_wk (hj6 (y13, y9)) rfl
        · refine s_icmp_lt (pc := 42) (tgt := 58) (dc dl_X6_misses 24 rfl) rfl ?_ ?_
          · exact s_wk (hj11 s2.1) rfl
          · refine s_iload_n (pc := 45) (dc dl_X6_misses 25 rfl) rfl rfl ?_
            refine s_iconst (pc := 46) (v := 1) (dc dl_X6_misses 26 rfl) ic_1 ?_
            refine s_aload_n (pc := 47) (dc dl_X6_misses 27 rfl) rfl rfl ?_
            refine s_iload (pc := 48) (dc dl_X6_misses 28 rfl) rfl ?_
            refine s_iload_n (pc := 50) (dc dl_X6_misses 29 rfl) rfl rfl ?_
            refine s_iload_n (pc := 51) (dc dl_X6_misses 30 rfl) rfl rfl ?_
            refine s_call (pc := 52) (rest := [.int 1, .int s2.1]) hG (calls_S (mi := mX6_misses) (As := [.ref (ad 0), .int s2.2.2, .int s2.1, .int x2]) (rest := [.int 1, .int s2.1]) hG (dc dl_X6_misses 31 rfl) mo_X6_whichGoes ms_X6_whichGoes ml_X6_87 ⟨Nat.le_of_ble_eq_true rfl, Nat.le_of_ble_eq_true rfl⟩ rfl rfl (Nat.le_of_ble_eq_true rfl)) (cn_X6_whichGoes l G hG ad s2.2.2 s2.1 x2) rfl (fun r14 => ?_)
            refine s_ishl (pc := 55) (dc dl_X6_misses 32 rfl) ?_
            refine s_ixor (pc := 56) (dc dl_X6_misses 33 rfl) ?_
            refine s_istore_nL (pc := 57) (lf' := fun y15 => [some (.ref (ad 0)), some (.int x1), some (.int x2), some (.int y15), some (.int y9), some (.int s2.2.2), some (.int y5)]) (dc dl_X6_misses 34 rfl) rfl (Nat.le_of_ble_eq_true rfl) (fun _ => rfl) (fun y15 => ?_)
            exact s_wk (hj11 y15) rfl
      · exact s_wk (hj6 (s2.1, s2.2.1)) rfl
def gX6_casesOf (x0 x1 : Int32) : MM Int32 :=
  loopC 100000 (fun (self1 : (Int32 × Int32) → MM Int32) (s2 : Int32 × Int32) =>
  (if 4 ≤ s2.2 then
  pr s2.1
  else
  jn (fun (a4 : Int32) =>
  lt (s2.2 + 1) fun y5 =>
  self1 (a4, y5)) (fun j3 =>
  (if ((ish x0 s2.2) &&& 1) = 1 then
  jn (fun (a7 : Int32) =>
  lt (s2.1 &&& a7) fun y8 =>
  j3 y8) (fun j6 =>
  (if ((ish x1 s2.2) &&& 1) = 1 then
  bd (lc CWl s2.2) fun v10 =>
  j6 v10
  else
  bd (lc CWl s2.2) fun v9 =>
  j6 (v9 ^^^ ((-1)))))
  else
  j3 s2.1)))) (65535, 0)
set_option maxHeartbeats 4000000 in
theorem cn_X6_casesOf (l : Launch) (G : Gl) (hG : gOk G) (ad : Nat → Nat) (x0 x1 : Int32) : Cn l G mX6_casesOf 0 lay_E ad [.int x0, .int x1] (gX6_casesOf x0 x1) := by
  refine cn_of (lv := [some (.int x0), some (.int x1), none, none]) (by decide +kernel) rfl (Nat.le_of_ble_eq_true rfl) rfl ?_
  unfold gX6_casesOf
  refine s_ldc (pc := 0) (v := 65535) ct_X6_101 (dc dl_X6_casesOf 0 rfl) ?_
  refine s_istore_n (pc := 2) (lv' := [some (.int x0), some (.int x1), some (.int 65535), none]) (dc dl_X6_casesOf 1 rfl) rfl (Nat.le_of_ble_eq_true rfl) rfl ?_
  refine s_iconst (pc := 3) (v := 0) (dc dl_X6_casesOf 2 rfl) ic_0 ?_
  refine s_istore_n (pc := 4) (lv' := [some (.int x0), some (.int x1), some (.int 65535), some (.int 0)]) (dc dl_X6_casesOf 3 rfl) rfl (Nat.le_of_ble_eq_true rfl) rfl ?_
  refine s_weak (lv' := [some (.int x0), some (.int x1), some (.int 65535), some (.int 0)]) rfl ?_
  refine s_loop (pc := 5) (fun s2 : Int32 × Int32 => [some (.int x0), some (.int x1), some (.int s2.1), some (.int s2.2)]) [] (fun self1 hself1 s2 => ?_) _ (65535, 0)
  refine s_iload_n (pc := 5) (dc dl_X6_casesOf 4 rfl) rfl rfl ?_
  refine s_getsC (pc := 6) sl_X6_102 (dc dl_X6_casesOf 5 rfl) ?_
  refine s_tlenC (pc := 9) (dc dl_X6_casesOf 6 rfl) ?_
  refine s_icmp_ge (pc := 10) (tgt := 55) (dc dl_X6_casesOf 7 rfl) rfl ?_ ?_
  · refine s_iload_n (pc := 55) (dc dl_X6_casesOf 36 rfl) rfl rfl ?_
    exact s_ireturn (pc := 56) rfl (dc dl_X6_casesOf 37 rfl)
  · refine s_iload_n (pc := 13) (dc dl_X6_casesOf 8 rfl) rfl rfl ?_
    refine s_iload_n (pc := 14) (dc dl_X6_casesOf 9 rfl) rfl rfl ?_
    refine s_iushr (pc := 15) (dc dl_X6_casesOf 10 rfl) ?_
    refine s_iconst (pc := 16) (v := 1) (dc dl_X6_casesOf 11 rfl) ic_1 ?_
    refine s_iand (pc := 17) (dc dl_X6_casesOf 12 rfl) ?_
    refine s_iconst (pc := 18) (v := 1) (dc dl_X6_casesOf 13 rfl) ic_1 ?_
    refine s_jn (pj := 49) (fun a4 : Int32 => [some (.int x0), some (.int x1), some (.int a4), some (.int s2.2)]) (fun a4 : Int32 => []) (fun a4 => ?_) (fun j3 hj3 => ?_)
    · refine s_iincL (pc := 49) (lf' := fun y5 => [some (.int x0), some (.int x1), some (.int a4), some (.int y5)]) (dc dl_X6_casesOf 34 rfl) rfl rfl (Nat.le_of_ble_eq_true rfl) (fun _ => rfl) (fun y5 => ?_)
      refine s_goto (pc := 52) (tgt := 5) (dc dl_X6_casesOf 35 rfl) rfl ?_
      exact s_wk (hself1 (a4, y5)) rfl
    · refine s_icmp_ne (pc := 19) (tgt := 49) (dc dl_X6_casesOf 14 rfl) rfl ?_ ?_
      · refine s_iload_n (pc := 22) (dc dl_X6_casesOf 15 rfl) rfl rfl ?_
        refine s_iload_n (pc := 23) (dc dl_X6_casesOf 16 rfl) rfl rfl ?_
        refine s_iload_n (pc := 24) (dc dl_X6_casesOf 17 rfl) rfl rfl ?_
        refine s_iushr (pc := 25) (dc dl_X6_casesOf 18 rfl) ?_
        refine s_iconst (pc := 26) (v := 1) (dc dl_X6_casesOf 19 rfl) ic_1 ?_
        refine s_iand (pc := 27) (dc dl_X6_casesOf 20 rfl) ?_
        refine s_iconst (pc := 28) (v := 1) (dc dl_X6_casesOf 21 rfl) ic_1 ?_
        refine s_jn (pj := 47) (fun a7 : Int32 => [some (.int x0), some (.int x1), none, some (.int s2.2)]) (fun a7 : Int32 => [.int a7, .int s2.1]) (fun a7 => ?_) (fun j6 hj6 => ?_)
        · refine s_iand (pc := 47) (dc dl_X6_casesOf 32 rfl) ?_
          refine s_istore_nL (pc := 48) (lf' := fun y8 => [some (.int x0), some (.int x1), some (.int y8), some (.int s2.2)]) (dc dl_X6_casesOf 33 rfl) rfl (Nat.le_of_ble_eq_true rfl) (fun _ => rfl) (fun y8 => ?_)
          exact s_wk (hj3 y8) rfl
        · refine s_icmp_ne (pc := 29) (tgt := 40) (dc dl_X6_casesOf 22 rfl) rfl ?_ ?_
          · refine s_getsC (pc := 32) sl_X6_102 (dc dl_X6_casesOf 23 rfl) ?_
            refine s_iload_n (pc := 35) (dc dl_X6_casesOf 24 rfl) rfl rfl ?_
            refine s_taldC (pc := 36) (dc dl_X6_casesOf 25 rfl) (fun v10 => ?_)
            refine s_goto (pc := 37) (tgt := 47) (dc dl_X6_casesOf 26 rfl) rfl ?_
            exact s_wk (hj6 v10) rfl
          · refine s_getsC (pc := 40) sl_X6_102 (dc dl_X6_casesOf 27 rfl) ?_
            refine s_iload_n (pc := 43) (dc dl_X6_casesOf 28 rfl) rfl rfl ?_
            refine s_taldC (pc := 44) (dc dl_X6_casesOf 29 rfl) (fun v9 => ?_)
            refine s_iconst (pc := 45) (v := (-1)) (dc dl_X6_casesOf 30 rfl) ic_m1 ?_
            refine s_ixor (pc := 46) (dc dl_X6_casesOf 31 rfl) ?_
            exact s_wk (hj6 (v9 ^^^ ((-1)))) rfl
      · exact s_wk (hj3 s2.1) rfl
def gX6_isSide (x0 x1 x2 : Int32) : MM Int32 :=
  jn (fun (a2 : Unit) =>
  rz 0) (fun j1 =>
  (if (x2 &&& (x1 ^^^ ((-1)))) = 0 then
  bd (gX6_casesOf x1 x2) fun r3 =>
  (if (r3 &&& (x0 ^^^ ((-1)))) = 0 then
  loopC 100000 (fun (self4 : Int32 → MM Int32) (s5 : Int32) =>
  (if 16 ≤ s5 then
  rz 1
  else
  jn (fun (a7 : Unit) =>
  lt (s5 * 2) fun y8 =>
  self4 y8) (fun j6 =>
  (if (x1 &&& s5) = 0 then
  j6 ()
  else
  bd (gX6_casesOf (x1 &&& (s5 ^^^ ((-1)))) (x2 &&& (s5 ^^^ ((-1))))) fun r9 =>
  (if (r9 &&& (x0 ^^^ ((-1)))) = 0 then
  rz 0
  else
  j6 ()))))) 1
  else
  j1 ())
  else
  j1 ()))
set_option maxHeartbeats 4000000 in
theorem cn_X6_isSide (l : Launch) (G : Gl) (hG : gOk G) (ad : Nat → Nat) (x0 x1 x2 : Int32) : Cn l G mX6_isSide 1 lay_E ad [.int x0, .int x1, .int x2] (gX6_isSide x0 x1 x2) := by
  refine cn_of (lv := [some (.int x0), some (.int x1), some (.int x2), none]) (by decide +kernel) rfl (Nat.le_of_ble_eq_true rfl) rfl ?_
  unfold gX6_isSide
  refine s_iload_n (pc := 0) (dc dl_X6_isSide 0 rfl) rfl rfl ?_
  refine s_iload_n (pc := 1) (dc dl_X6_isSide 1 rfl) rfl rfl ?_
  refine s_iconst (pc := 2) (v := (-1)) (dc dl_X6_isSide 2 rfl) ic_m1 ?_
  refine s_ixor (pc := 3) (dc dl_X6_isSide 3 rfl) ?_
  refine s_iand (pc := 4) (dc dl_X6_isSide 4 rfl) ?_
  refine s_jn (pj := 20) (fun a2 : Unit => [none, none, none, none]) (fun a2 : Unit => []) (fun a2 => ?_) (fun j1 hj1 => ?_)
  · refine s_iconst (pc := 20) (v := 0) (dc dl_X6_isSide 14 rfl) ic_0 ?_
    exact s_zreturn (pc := 21) rfl (dc dl_X6_isSide 15 rfl)
  · refine s_if_ne (pc := 5) (tgt := 20) (dc dl_X6_isSide 5 rfl) rfl ?_ ?_
    · refine s_iload_n (pc := 8) (dc dl_X6_isSide 6 rfl) rfl rfl ?_
      refine s_iload_n (pc := 9) (dc dl_X6_isSide 7 rfl) rfl rfl ?_
      refine s_call (pc := 10) (rest := []) hG (calls_S (mi := mX6_isSide) (As := [.int x1, .int x2]) (rest := []) hG (dc dl_X6_isSide 8 rfl) mo_X6_casesOf ms_X6_casesOf ml_X6_98 ⟨Nat.le_of_ble_eq_true rfl, Nat.le_of_ble_eq_true rfl⟩ rfl rfl (Nat.le_of_ble_eq_true rfl)) (cn_X6_casesOf l G hG ad x1 x2) rfl (fun r3 => ?_)
      refine s_iload_n (pc := 13) (dc dl_X6_isSide 9 rfl) rfl rfl ?_
      refine s_iconst (pc := 14) (v := (-1)) (dc dl_X6_isSide 10 rfl) ic_m1 ?_
      refine s_ixor (pc := 15) (dc dl_X6_isSide 11 rfl) ?_
      refine s_iand (pc := 16) (dc dl_X6_isSide 12 rfl) ?_
      refine s_if_eq (pc := 17) (tgt := 22) (dc dl_X6_isSide 13 rfl) rfl ?_ ?_
      · refine s_iconst (pc := 22) (v := 1) (dc dl_X6_isSide 16 rfl) ic_1 ?_
        refine s_istore_n (pc := 23) (lv' := [some (.int x0), some (.int x1), some (.int x2), some (.int 1)]) (dc dl_X6_isSide 17 rfl) rfl (Nat.le_of_ble_eq_true rfl) rfl ?_
        refine s_weak (lv' := [some (.int x0), some (.int x1), some (.int x2), some (.int 1)]) rfl ?_
        refine s_loop (pc := 24) (fun s5 : Int32 => [some (.int x0), some (.int x1), some (.int x2), some (.int s5)]) [] (fun self4 hself4 s5 => ?_) _ 1
        refine s_iload_n (pc := 24) (dc dl_X6_isSide 18 rfl) rfl rfl ?_
        refine s_bipush (pc := 25) (v := 16) (dc dl_X6_isSide 19 rfl) bi_16 ?_
        refine s_icmp_ge (pc := 27) (tgt := 65) (dc dl_X6_isSide 20 rfl) rfl ?_ ?_
        · refine s_iconst (pc := 65) (v := 1) (dc dl_X6_isSide 48 rfl) ic_1 ?_
          exact s_zreturn (pc := 66) rfl (dc dl_X6_isSide 49 rfl)
        · refine s_iload_n (pc := 30) (dc dl_X6_isSide 21 rfl) rfl rfl ?_
          refine s_iload_n (pc := 31) (dc dl_X6_isSide 22 rfl) rfl rfl ?_
          refine s_iand (pc := 32) (dc dl_X6_isSide 23 rfl) ?_
          refine s_jn (pj := 58) (fun a7 : Unit => [some (.int x0), some (.int x1), some (.int x2), some (.int s5)]) (fun a7 : Unit => []) (fun a7 => ?_) (fun j6 hj6 => ?_)
          · refine s_iload_n (pc := 58) (dc dl_X6_isSide 43 rfl) rfl rfl ?_
            refine s_iconst (pc := 59) (v := 2) (dc dl_X6_isSide 44 rfl) ic_2 ?_
            refine s_imul (pc := 60) (dc dl_X6_isSide 45 rfl) ?_
            refine s_istore_nL (pc := 61) (lf' := fun y8 => [some (.int x0), some (.int x1), some (.int x2), some (.int y8)]) (dc dl_X6_isSide 46 rfl) rfl (Nat.le_of_ble_eq_true rfl) (fun _ => rfl) (fun y8 => ?_)
            refine s_goto (pc := 62) (tgt := 24) (dc dl_X6_isSide 47 rfl) rfl ?_
            exact s_wk (hself4 y8) rfl
          · refine s_if_eq (pc := 33) (tgt := 58) (dc dl_X6_isSide 24 rfl) rfl ?_ ?_
            · exact s_wk (hj6 ()) rfl
            · refine s_iload_n (pc := 36) (dc dl_X6_isSide 25 rfl) rfl rfl ?_
              refine s_iload_n (pc := 37) (dc dl_X6_isSide 26 rfl) rfl rfl ?_
              refine s_iconst (pc := 38) (v := (-1)) (dc dl_X6_isSide 27 rfl) ic_m1 ?_
              refine s_ixor (pc := 39) (dc dl_X6_isSide 28 rfl) ?_
              refine s_iand (pc := 40) (dc dl_X6_isSide 29 rfl) ?_
              refine s_iload_n (pc := 41) (dc dl_X6_isSide 30 rfl) rfl rfl ?_
              refine s_iload_n (pc := 42) (dc dl_X6_isSide 31 rfl) rfl rfl ?_
              refine s_iconst (pc := 43) (v := (-1)) (dc dl_X6_isSide 32 rfl) ic_m1 ?_
              refine s_ixor (pc := 44) (dc dl_X6_isSide 33 rfl) ?_
              refine s_iand (pc := 45) (dc dl_X6_isSide 34 rfl) ?_
              refine s_call (pc := 46) (rest := []) hG (calls_S (mi := mX6_isSide) (As := [.int (x1 &&& (s5 ^^^ ((-1)))), .int (x2 &&& (s5 ^^^ ((-1))))]) (rest := []) hG (dc dl_X6_isSide 35 rfl) mo_X6_casesOf ms_X6_casesOf ml_X6_98 ⟨Nat.le_of_ble_eq_true rfl, Nat.le_of_ble_eq_true rfl⟩ rfl rfl (Nat.le_of_ble_eq_true rfl)) (cn_X6_casesOf l G hG ad (x1 &&& (s5 ^^^ ((-1)))) (x2 &&& (s5 ^^^ ((-1))))) rfl (fun r9 => ?_)
              refine s_iload_n (pc := 49) (dc dl_X6_isSide 36 rfl) rfl rfl ?_
              refine s_iconst (pc := 50) (v := (-1)) (dc dl_X6_isSide 37 rfl) ic_m1 ?_
              refine s_ixor (pc := 51) (dc dl_X6_isSide 38 rfl) ?_
              refine s_iand (pc := 52) (dc dl_X6_isSide 39 rfl) ?_
              refine s_if_ne (pc := 53) (tgt := 58) (dc dl_X6_isSide 40 rfl) rfl ?_ ?_
              · refine s_iconst (pc := 56) (v := 0) (dc dl_X6_isSide 41 rfl) ic_0 ?_
                exact s_zreturn (pc := 57) rfl (dc dl_X6_isSide 42 rfl)
              · exact s_wk (hj6 ()) rfl
      · exact s_wk (hj1 ()) rfl
    · exact s_wk (hj1 ()) rfl
def gX6_sidesWith (x0 x1 : Int32) : MM Int32 :=
  loopC 100000 (fun (self1 : (Int32 × Int32) → MM Int32) (s2 : Int32 × Int32) =>
  (if 16 ≤ s2.2 then
  pr s2.1
  else
  loopC 100000 (fun (self3 : (Int32 × Int32) → MM Int32) (s4 : Int32 × Int32) =>
  (if 16 ≤ s4.2 then
  lt (s2.2 + 1) fun y5 =>
  self1 (s4.1, y5)
  else
  bd (gX6_isSide x0 s2.2 s4.2) fun r6 =>
  jn (fun (a8 : Int32) =>
  lt (s4.2 + 1) fun y9 =>
  self3 (a8, y9)) (fun j7 =>
  (if r6 = 0 then
  j7 s4.1
  else
  bd (gX6_casesOf s2.2 s4.2) fun r10 =>
  (if (r10 &&& x1) = 0 then
  j7 s4.1
  else
  lt (s4.1 + 1) fun y11 =>
  j7 y11))))) (s2.1, 0))) (0, 0)
set_option maxHeartbeats 4000000 in
theorem cn_X6_sidesWith (l : Launch) (G : Gl) (hG : gOk G) (ad : Nat → Nat) (x0 x1 : Int32) : Cn l G mX6_sidesWith 2 lay_E ad [.int x0, .int x1] (gX6_sidesWith x0 x1) := by
  refine cn_of (lv := [some (.int x0), some (.int x1), none, none, none]) (by decide +kernel) rfl (Nat.le_of_ble_eq_true rfl) rfl ?_
  unfold gX6_sidesWith
  refine s_iconst (pc := 0) (v := 0) (dc dl_X6_sidesWith 0 rfl) ic_0 ?_
  refine s_istore_n (pc := 1) (lv' := [some (.int x0), some (.int x1), some (.int 0), none, none]) (dc dl_X6_sidesWith 1 rfl) rfl (Nat.le_of_ble_eq_true rfl) rfl ?_
  refine s_iconst (pc := 2) (v := 0) (dc dl_X6_sidesWith 2 rfl) ic_0 ?_
  refine s_istore_n (pc := 3) (lv' := [some (.int x0), some (.int x1), some (.int 0), some (.int 0), none]) (dc dl_X6_sidesWith 3 rfl) rfl (Nat.le_of_ble_eq_true rfl) rfl ?_
  refine s_weak (lv' := [some (.int x0), some (.int x1), some (.int 0), some (.int 0), none]) rfl ?_
  refine s_loop (pc := 4) (fun s2 : Int32 × Int32 => [some (.int x0), some (.int x1), some (.int s2.1), some (.int s2.2), none]) [] (fun self1 hself1 s2 => ?_) _ (0, 0)
  refine s_iload_n (pc := 4) (dc dl_X6_sidesWith 4 rfl) rfl rfl ?_
  refine s_bipush (pc := 5) (v := 16) (dc dl_X6_sidesWith 5 rfl) bi_16 ?_
  refine s_icmp_ge (pc := 7) (tgt := 56) (dc dl_X6_sidesWith 6 rfl) rfl ?_ ?_
  · refine s_iload_n (pc := 56) (dc dl_X6_sidesWith 28 rfl) rfl rfl ?_
    exact s_ireturn (pc := 57) rfl (dc dl_X6_sidesWith 29 rfl)
  · refine s_iconst (pc := 10) (v := 0) (dc dl_X6_sidesWith 7 rfl) ic_0 ?_
    refine s_istore (pc := 11) (lv' := [some (.int x0), some (.int x1), some (.int s2.1), some (.int s2.2), some (.int 0)]) (dc dl_X6_sidesWith 8 rfl) (Nat.le_of_ble_eq_true rfl) rfl ?_
    refine s_weak (lv' := [some (.int x0), some (.int x1), some (.int s2.1), some (.int s2.2), some (.int 0)]) rfl ?_
    refine s_loop (pc := 13) (fun s4 : Int32 × Int32 => [some (.int x0), some (.int x1), some (.int s4.1), some (.int s2.2), some (.int s4.2)]) [] (fun self3 hself3 s4 => ?_) _ (s2.1, 0)
    refine s_iload (pc := 13) (dc dl_X6_sidesWith 9 rfl) rfl ?_
    refine s_bipush (pc := 15) (v := 16) (dc dl_X6_sidesWith 10 rfl) bi_16 ?_
    refine s_icmp_ge (pc := 17) (tgt := 50) (dc dl_X6_sidesWith 11 rfl) rfl ?_ ?_
    · refine s_iincL (pc := 50) (lf' := fun y5 => [some (.int x0), some (.int x1), some (.int s4.1), some (.int y5), some (.int s4.2)]) (dc dl_X6_sidesWith 26 rfl) rfl rfl (Nat.le_of_ble_eq_true rfl) (fun _ => rfl) (fun y5 => ?_)
      refine s_goto (pc := 53) (tgt := 4) (dc dl_X6_sidesWith 27 rfl) rfl ?_
      exact s_wk (hself1 (s4.1, y5)) rfl
    · refine s_iload_n (pc := 20) (dc dl_X6_sidesWith 12 rfl) rfl rfl ?_
      refine s_iload_n (pc := 21) (dc dl_X6_sidesWith 13 rfl) rfl rfl ?_
      refine s_iload (pc := 22) (dc dl_X6_sidesWith 14 rfl) rfl ?_
      refine s_call (pc := 24) (rest := []) hG (calls_S (mi := mX6_sidesWith) (As := [.int x0, .int s2.2, .int s4.2]) (rest := []) hG (dc dl_X6_sidesWith 15 rfl) mo_X6_isSide ms_X6_isSide ml_X6_95 ⟨Nat.le_of_ble_eq_true rfl, Nat.le_of_ble_eq_true rfl⟩ rfl rfl (Nat.le_of_ble_eq_true rfl)) (cn_X6_isSide l G hG ad x0 s2.2 s4.2) rfl (fun r6 => ?_)
      refine s_jn (pj := 44) (fun a8 : Int32 => [some (.int x0), some (.int x1), some (.int a8), some (.int s2.2), some (.int s4.2)]) (fun a8 : Int32 => []) (fun a8 => ?_) (fun j7 hj7 => ?_)
      · refine s_iincL (pc := 44) (lf' := fun y9 => [some (.int x0), some (.int x1), some (.int a8), some (.int s2.2), some (.int y9)]) (dc dl_X6_sidesWith 24 rfl) rfl rfl (Nat.le_of_ble_eq_true rfl) (fun _ => rfl) (fun y9 => ?_)
        refine s_goto (pc := 47) (tgt := 13) (dc dl_X6_sidesWith 25 rfl) rfl ?_
        exact s_wk (hself3 (a8, y9)) rfl
      · refine s_if_eq (pc := 27) (tgt := 44) (dc dl_X6_sidesWith 16 rfl) rfl ?_ ?_
        · exact s_wk (hj7 s4.1) rfl
        · refine s_iload_n (pc := 30) (dc dl_X6_sidesWith 17 rfl) rfl rfl ?_
          refine s_iload (pc := 31) (dc dl_X6_sidesWith 18 rfl) rfl ?_
          refine s_call (pc := 33) (rest := []) hG (calls_S (mi := mX6_sidesWith) (As := [.int s2.2, .int s4.2]) (rest := []) hG (dc dl_X6_sidesWith 19 rfl) mo_X6_casesOf ms_X6_casesOf ml_X6_98 ⟨Nat.le_of_ble_eq_true rfl, Nat.le_of_ble_eq_true rfl⟩ rfl rfl (Nat.le_of_ble_eq_true rfl)) (cn_X6_casesOf l G hG ad s2.2 s4.2) rfl (fun r10 => ?_)
          refine s_iload_n (pc := 36) (dc dl_X6_sidesWith 20 rfl) rfl rfl ?_
          refine s_iand (pc := 37) (dc dl_X6_sidesWith 21 rfl) ?_
          refine s_if_eq (pc := 38) (tgt := 44) (dc dl_X6_sidesWith 22 rfl) rfl ?_ ?_
          · exact s_wk (hj7 s4.1) rfl
          · refine s_iincL (pc := 41) (lf' := fun y11 => [some (.int x0), some (.int x1), some (.int y11), some (.int s2.2), some (.int s4.2)]) (dc dl_X6_sidesWith 23 rfl) rfl rfl (Nat.le_of_ble_eq_true rfl) (fun _ => rfl) (fun y11 => ?_)
            exact s_wk (hj7 y11) rfl
def gX6_casesOfOneSide (x0 : Int32) : MM Int32 :=
  loopC 100000 (fun (self1 : (Int32 × Int32 × Int32) → MM Int32) (s2 : Int32 × Int32 × Int32) =>
  (if 16 ≤ s2.2.2 then
  pr (s2.1 &&& (s2.2.1 ^^^ ((-1))))
  else
  loopC 100000 (fun (self3 : (Int32 × Int32 × Int32) → MM Int32) (s4 : Int32 × Int32 × Int32) =>
  (if 16 ≤ s4.2.2 then
  lt (s2.2.2 + 1) fun y5 =>
  self1 (s4.1, s4.2.1, y5)
  else
  bd (gX6_isSide x0 s2.2.2 s4.2.2) fun r6 =>
  jn (fun (a8 : Int32 × Int32) =>
  lt (s4.2.2 + 1) fun y9 =>
  self3 (a8.1, a8.2, y9)) (fun j7 =>
  (if r6 = 0 then
  j7 (s4.1, s4.2.1)
  else
  bd (gX6_casesOf s2.2.2 s4.2.2) fun r10 =>
  lt (s4.2.1 ||| (s4.1 &&& r10)) fun y11 =>
  lt (s4.1 ||| r10) fun y12 =>
  j7 (y12, y11))))) (s2.1, s2.2.1, 0))) (0, 0, 0)
set_option maxHeartbeats 4000000 in
theorem cn_X6_casesOfOneSide (l : Launch) (G : Gl) (hG : gOk G) (ad : Nat → Nat) (x0 : Int32) : Cn l G mX6_casesOfOneSide 2 lay_E ad [.int x0] (gX6_casesOfOneSide x0) := by
  refine cn_of (lv := [some (.int x0), none, none, none, none, none]) (by decide +kernel) rfl (Nat.le_of_ble_eq_true rfl) rfl ?_
  unfold gX6_casesOfOneSide
  refine s_iconst (pc := 0) (v := 0) (dc dl_X6_casesOfOneSide 0 rfl) ic_0 ?_
  refine s_istore_n (pc := 1) (lv' := [some (.int x0), some (.int 0), none, none, none, none]) (dc dl_X6_casesOfOneSide 1 rfl) rfl (Nat.le_of_ble_eq_true rfl) rfl ?_
  refine s_iconst (pc := 2) (v := 0) (dc dl_X6_casesOfOneSide 2 rfl) ic_0 ?_
  refine s_istore_n (pc := 3) (lv' := [some (.int x0), some (.int 0), some (.int 0), none, none, none]) (dc dl_X6_casesOfOneSide 3 rfl) rfl (Nat.le_of_ble_eq_true rfl) rfl ?_
  refine s_iconst (pc := 4) (v := 0) (dc dl_X6_casesOfOneSide 4 rfl) ic_0 ?_
  refine s_istore_n (pc := 5) (lv' := [some (.int x0), some (.int 0), some (.int 0), some (.int 0), none, none]) (dc dl_X6_casesOfOneSide 5 rfl) rfl (Nat.le_of_ble_eq_true rfl) rfl ?_
  refine s_weak (lv' := [some (.int x0), some (.int 0), some (.int 0), some (.int 0), none, none]) rfl ?_
  refine s_loop (pc := 6) (fun s2 : Int32 × Int32 × Int32 => [some (.int x0), some (.int s2.1), some (.int s2.2.1), some (.int s2.2.2), none, none]) [] (fun self1 hself1 s2 => ?_) _ (0, 0, 0)
  refine s_iload_n (pc := 6) (dc dl_X6_casesOfOneSide 6 rfl) rfl rfl ?_
  refine s_bipush (pc := 7) (v := 16) (dc dl_X6_casesOfOneSide 7 rfl) bi_16 ?_
  refine s_icmp_ge (pc := 9) (tgt := 64) (dc dl_X6_casesOfOneSide 8 rfl) rfl ?_ ?_
  · refine s_iload_n (pc := 64) (dc dl_X6_casesOfOneSide 37 rfl) rfl rfl ?_
    refine s_iload_n (pc := 65) (dc dl_X6_casesOfOneSide 38 rfl) rfl rfl ?_
    refine s_iconst (pc := 66) (v := (-1)) (dc dl_X6_casesOfOneSide 39 rfl) ic_m1 ?_
    refine s_ixor (pc := 67) (dc dl_X6_casesOfOneSide 40 rfl) ?_
    refine s_iand (pc := 68) (dc dl_X6_casesOfOneSide 41 rfl) ?_
    exact s_ireturn (pc := 69) rfl (dc dl_X6_casesOfOneSide 42 rfl)
  · refine s_iconst (pc := 12) (v := 0) (dc dl_X6_casesOfOneSide 9 rfl) ic_0 ?_
    refine s_istore (pc := 13) (lv' := [some (.int x0), some (.int s2.1), some (.int s2.2.1), some (.int s2.2.2), some (.int 0), none]) (dc dl_X6_casesOfOneSide 10 rfl) (Nat.le_of_ble_eq_true rfl) rfl ?_
    refine s_weak (lv' := [some (.int x0), some (.int s2.1), some (.int s2.2.1), some (.int s2.2.2), some (.int 0), none]) rfl ?_
    refine s_loop (pc := 15) (fun s4 : Int32 × Int32 × Int32 => [some (.int x0), some (.int s4.1), some (.int s4.2.1), some (.int s2.2.2), some (.int s4.2.2), none]) [] (fun self3 hself3 s4 => ?_) _ (s2.1, s2.2.1, 0)
    refine s_iload (pc := 15) (dc dl_X6_casesOfOneSide 11 rfl) rfl ?_
    refine s_bipush (pc := 17) (v := 16) (dc dl_X6_casesOfOneSide 12 rfl) bi_16 ?_
    refine s_icmp_ge (pc := 19) (tgt := 58) (dc dl_X6_casesOfOneSide 13 rfl) rfl ?_ ?_
    · refine s_iincL (pc := 58) (lf' := fun y5 => [some (.int x0), some (.int s4.1), some (.int s4.2.1), some (.int y5), some (.int s4.2.2), none]) (dc dl_X6_casesOfOneSide 35 rfl) rfl rfl (Nat.le_of_ble_eq_true rfl) (fun _ => rfl) (fun y5 => ?_)
      refine s_goto (pc := 61) (tgt := 6) (dc dl_X6_casesOfOneSide 36 rfl) rfl ?_
      exact s_wk (hself1 (s4.1, s4.2.1, y5)) rfl
    · refine s_iload_n (pc := 22) (dc dl_X6_casesOfOneSide 14 rfl) rfl rfl ?_
      refine s_iload_n (pc := 23) (dc dl_X6_casesOfOneSide 15 rfl) rfl rfl ?_
      refine s_iload (pc := 24) (dc dl_X6_casesOfOneSide 16 rfl) rfl ?_
      refine s_call (pc := 26) (rest := []) hG (calls_S (mi := mX6_casesOfOneSide) (As := [.int x0, .int s2.2.2, .int s4.2.2]) (rest := []) hG (dc dl_X6_casesOfOneSide 17 rfl) mo_X6_isSide ms_X6_isSide ml_X6_95 ⟨Nat.le_of_ble_eq_true rfl, Nat.le_of_ble_eq_true rfl⟩ rfl rfl (Nat.le_of_ble_eq_true rfl)) (cn_X6_isSide l G hG ad x0 s2.2.2 s4.2.2) rfl (fun r6 => ?_)
      refine s_jn (pj := 52) (fun a8 : Int32 × Int32 => [some (.int x0), some (.int a8.1), some (.int a8.2), some (.int s2.2.2), some (.int s4.2.2), none]) (fun a8 : Int32 × Int32 => []) (fun a8 => ?_) (fun j7 hj7 => ?_)
      · refine s_iincL (pc := 52) (lf' := fun y9 => [some (.int x0), some (.int a8.1), some (.int a8.2), some (.int s2.2.2), some (.int y9), none]) (dc dl_X6_casesOfOneSide 33 rfl) rfl rfl (Nat.le_of_ble_eq_true rfl) (fun _ => rfl) (fun y9 => ?_)
        refine s_goto (pc := 55) (tgt := 15) (dc dl_X6_casesOfOneSide 34 rfl) rfl ?_
        exact s_wk (hself3 (a8.1, a8.2, y9)) rfl
      · refine s_if_eq (pc := 29) (tgt := 52) (dc dl_X6_casesOfOneSide 18 rfl) rfl ?_ ?_
        · exact s_wk (hj7 (s4.1, s4.2.1)) rfl
        · refine s_iload_n (pc := 32) (dc dl_X6_casesOfOneSide 19 rfl) rfl rfl ?_
          refine s_iload (pc := 33) (dc dl_X6_casesOfOneSide 20 rfl) rfl ?_
          refine s_call (pc := 35) (rest := []) hG (calls_S (mi := mX6_casesOfOneSide) (As := [.int s2.2.2, .int s4.2.2]) (rest := []) hG (dc dl_X6_casesOfOneSide 21 rfl) mo_X6_casesOf ms_X6_casesOf ml_X6_98 ⟨Nat.le_of_ble_eq_true rfl, Nat.le_of_ble_eq_true rfl⟩ rfl rfl (Nat.le_of_ble_eq_true rfl)) (cn_X6_casesOf l G hG ad s2.2.2 s4.2.2) rfl (fun r10 => ?_)
          refine s_istore (pc := 38) (lv' := [some (.int x0), some (.int s4.1), some (.int s4.2.1), some (.int s2.2.2), some (.int s4.2.2), some (.int r10)]) (dc dl_X6_casesOfOneSide 22 rfl) (Nat.le_of_ble_eq_true rfl) rfl ?_
          refine s_iload_n (pc := 40) (dc dl_X6_casesOfOneSide 23 rfl) rfl rfl ?_
          refine s_iload_n (pc := 41) (dc dl_X6_casesOfOneSide 24 rfl) rfl rfl ?_
          refine s_iload (pc := 42) (dc dl_X6_casesOfOneSide 25 rfl) rfl ?_
          refine s_iand (pc := 44) (dc dl_X6_casesOfOneSide 26 rfl) ?_
          refine s_ior (pc := 45) (dc dl_X6_casesOfOneSide 27 rfl) ?_
          refine s_istore_nL (pc := 46) (lf' := fun y11 => [some (.int x0), some (.int s4.1), some (.int y11), some (.int s2.2.2), some (.int s4.2.2), some (.int r10)]) (dc dl_X6_casesOfOneSide 28 rfl) rfl (Nat.le_of_ble_eq_true rfl) (fun _ => rfl) (fun y11 => ?_)
          refine s_iload_n (pc := 47) (dc dl_X6_casesOfOneSide 29 rfl) rfl rfl ?_
          refine s_iload (pc := 48) (dc dl_X6_casesOfOneSide 30 rfl) rfl ?_
          refine s_ior (pc := 50) (dc dl_X6_casesOfOneSide 31 rfl) ?_
          refine s_istore_nL (pc := 51) (lf' := fun y12 => [some (.int x0), some (.int y12), some (.int y11), some (.int s2.2.2), some (.int s4.2.2), some (.int r10)]) (dc dl_X6_casesOfOneSide 32 rfl) rfl (Nat.le_of_ble_eq_true rfl) (fun _ => rfl) (fun y12 => ?_)
          exact s_wk (hj7 (y12, y11)) rfl
def gX6_meetsInRound (x0 x1 x2 : Int32) : MM Int32 :=
  (if x2 = x0 then
  pr x1
  else
  jn (fun (a2 : Unit) =>
  pr x0) (fun j1 =>
  (if x2 = x1 then
  j1 ()
  else
  (if 0 < x0 then
  bd (gJ9_floorMod_7cf53 ((2 * x1) - x2) x0) fun r3 =>
  pr r3
  else
  j1 ()))))
set_option maxHeartbeats 4000000 in
theorem cn_X6_meetsInRound (l : Launch) (G : Gl) (hG : gOk G) (ad : Nat → Nat) (x0 x1 x2 : Int32) : Cn l G mX6_meetsInRound 1 lay_E ad [.int x0, .int x1, .int x2] (gX6_meetsInRound x0 x1 x2) := by
  refine cn_of (lv := [some (.int x0), some (.int x1), some (.int x2)]) (by decide +kernel) rfl (Nat.le_of_ble_eq_true rfl) rfl ?_
  unfold gX6_meetsInRound
  refine s_iload_n (pc := 0) (dc dl_X6_meetsInRound 0 rfl) rfl rfl ?_
  refine s_iload_n (pc := 1) (dc dl_X6_meetsInRound 1 rfl) rfl rfl ?_
  refine s_icmp_ne (pc := 2) (tgt := 7) (dc dl_X6_meetsInRound 2 rfl) rfl ?_ ?_
  · refine s_iload_n (pc := 5) (dc dl_X6_meetsInRound 3 rfl) rfl rfl ?_
    exact s_ireturn (pc := 6) rfl (dc dl_X6_meetsInRound 4 rfl)
  · refine s_iload_n (pc := 7) (dc dl_X6_meetsInRound 5 rfl) rfl rfl ?_
    refine s_iload_n (pc := 8) (dc dl_X6_meetsInRound 6 rfl) rfl rfl ?_
    refine s_jn (pj := 16) (fun a2 : Unit => [some (.int x0), none, none]) (fun a2 : Unit => []) (fun a2 => ?_) (fun j1 hj1 => ?_)
    · refine s_iload_n (pc := 16) (dc dl_X6_meetsInRound 10 rfl) rfl rfl ?_
      exact s_ireturn (pc := 17) rfl (dc dl_X6_meetsInRound 11 rfl)
    · refine s_icmp_eq (pc := 9) (tgt := 16) (dc dl_X6_meetsInRound 7 rfl) rfl ?_ ?_
      · exact s_wk (hj1 ()) rfl
      · refine s_iload_n (pc := 12) (dc dl_X6_meetsInRound 8 rfl) rfl rfl ?_
        refine s_if_gt (pc := 13) (tgt := 18) (dc dl_X6_meetsInRound 9 rfl) rfl ?_ ?_
        · refine s_iconst (pc := 18) (v := 2) (dc dl_X6_meetsInRound 12 rfl) ic_2 ?_
          refine s_iload_n (pc := 19) (dc dl_X6_meetsInRound 13 rfl) rfl rfl ?_
          refine s_imul (pc := 20) (dc dl_X6_meetsInRound 14 rfl) ?_
          refine s_iload_n (pc := 21) (dc dl_X6_meetsInRound 15 rfl) rfl rfl ?_
          refine s_isub (pc := 22) (dc dl_X6_meetsInRound 16 rfl) ?_
          refine s_iload_n (pc := 23) (dc dl_X6_meetsInRound 17 rfl) rfl rfl ?_
          refine s_call (pc := 24) (rest := []) hG (calls_S (mi := mX6_meetsInRound) (As := [.int ((2 * x1) - x2), .int x0]) (rest := []) hG (dc dl_X6_meetsInRound 18 rfl) mo_J9_floorMod_7cf53 ms_J9_floorMod_7cf53 ml_X6_105 ⟨Nat.le_of_ble_eq_true rfl, Nat.le_of_ble_eq_true rfl⟩ rfl rfl (Nat.le_of_ble_eq_true rfl)) (cn_J9_floorMod_7cf53 l G hG ad ((2 * x1) - x2) x0) rfl (fun r3 => ?_)
          exact s_ireturn (pc := 27) rfl (dc dl_X6_meetsInRound 19 rfl)
        · exact s_wk (hj1 ()) rfl
def gX6_waysInRows (x0 x1 : Int32) : MM Int32 :=
  jn (fun (a2 : Unit) =>
  jn (fun (a4 : Int32) =>
  pr a4) (fun j3 =>
  (if x0 = x1 then
  j3 1
  else
  j3 0))) (fun j1 =>
  (if x0 = 0 then
  j1 ()
  else
  (if x1 = 0 then
  j1 ()
  else
  loopC 100000 (fun (self5 : (Int32 × Int32) → MM Int32) (s6 : Int32 × Int32) =>
  (if x1 ≤ s6.2 then
  lt (x1 + 1) fun y7 =>
  loopC 100000 (fun (self8 : (Int32 × Int32) → MM Int32) (s9 : Int32 × Int32) =>
  (if x0 < s9.2 then
  jn (fun (a11 : Int32) =>
  pr a11) (fun j10 =>
  (if x1 ≤ x0 then
  j10 s9.1
  else
  j10 0))
  else
  lt (s9.1 * s9.2) fun y12 =>
  lt (s9.2 + 1) fun y13 =>
  self8 (y12, y13))) (s6.1, y7)
  else
  nz s6.2 (
  lt ((s6.1 * (x0 - s6.2)) / s6.2) fun y14 =>
  lt (s6.2 + 1) fun y15 =>
  self5 (y14, y15)))) (1, 1))))
set_option maxHeartbeats 4000000 in
theorem cn_X6_waysInRows (l : Launch) (G : Gl) (hG : gOk G) (ad : Nat → Nat) (x0 x1 : Int32) : Cn l G mX6_waysInRows 0 lay_E ad [.int x0, .int x1] (gX6_waysInRows x0 x1) := by
  refine cn_of (lv := [some (.int x0), some (.int x1), none, none]) (by decide +kernel) rfl (Nat.le_of_ble_eq_true rfl) rfl ?_
  unfold gX6_waysInRows
  refine s_iload_n (pc := 0) (dc dl_X6_waysInRows 0 rfl) rfl rfl ?_
  refine s_jn (pj := 8) (fun a2 : Unit => [some (.int x0), some (.int x1), none, none]) (fun a2 : Unit => []) (fun a2 => ?_) (fun j1 hj1 => ?_)
  · refine s_iload_n (pc := 8) (dc dl_X6_waysInRows 4 rfl) rfl rfl ?_
    refine s_iload_n (pc := 9) (dc dl_X6_waysInRows 5 rfl) rfl rfl ?_
    refine s_jn (pj := 18) (fun a4 : Int32 => [none, none, none, none]) (fun a4 : Int32 => [.int a4]) (fun a4 => ?_) (fun j3 hj3 => ?_)
    · exact s_ireturn (pc := 18) rfl (dc dl_X6_waysInRows 10 rfl)
    · refine s_icmp_ne (pc := 10) (tgt := 17) (dc dl_X6_waysInRows 6 rfl) rfl ?_ ?_
      · refine s_iconst (pc := 13) (v := 1) (dc dl_X6_waysInRows 7 rfl) ic_1 ?_
        refine s_goto (pc := 14) (tgt := 18) (dc dl_X6_waysInRows 8 rfl) rfl ?_
        exact s_wk (hj3 1) rfl
      · refine s_iconst (pc := 17) (v := 0) (dc dl_X6_waysInRows 9 rfl) ic_0 ?_
        exact s_wk (hj3 0) rfl
  · refine s_if_eq (pc := 1) (tgt := 8) (dc dl_X6_waysInRows 1 rfl) rfl ?_ ?_
    · exact s_wk (hj1 ()) rfl
    · refine s_iload_n (pc := 4) (dc dl_X6_waysInRows 2 rfl) rfl rfl ?_
      refine s_if_ne (pc := 5) (tgt := 19) (dc dl_X6_waysInRows 3 rfl) rfl ?_ ?_
      · exact s_wk (hj1 ()) rfl
      · refine s_iconst (pc := 19) (v := 1) (dc dl_X6_waysInRows 11 rfl) ic_1 ?_
        refine s_istore_n (pc := 20) (lv' := [some (.int x0), some (.int x1), some (.int 1), none]) (dc dl_X6_waysInRows 12 rfl) rfl (Nat.le_of_ble_eq_true rfl) rfl ?_
        refine s_iconst (pc := 21) (v := 1) (dc dl_X6_waysInRows 13 rfl) ic_1 ?_
        refine s_istore_n (pc := 22) (lv' := [some (.int x0), some (.int x1), some (.int 1), some (.int 1)]) (dc dl_X6_waysInRows 14 rfl) rfl (Nat.le_of_ble_eq_true rfl) rfl ?_
        refine s_weak (lv' := [some (.int x0), some (.int x1), some (.int 1), some (.int 1)]) rfl ?_
        refine s_loop (pc := 23) (fun s6 : Int32 × Int32 => [some (.int x0), some (.int x1), some (.int s6.1), some (.int s6.2)]) [] (fun self5 hself5 s6 => ?_) _ (1, 1)
        refine s_iload_n (pc := 23) (dc dl_X6_waysInRows 15 rfl) rfl rfl ?_
        refine s_iload_n (pc := 24) (dc dl_X6_waysInRows 16 rfl) rfl rfl ?_
        refine s_icmp_ge (pc := 25) (tgt := 42) (dc dl_X6_waysInRows 17 rfl) rfl ?_ ?_
        · refine s_iload_n (pc := 42) (dc dl_X6_waysInRows 28 rfl) rfl rfl ?_
          refine s_iconst (pc := 43) (v := 1) (dc dl_X6_waysInRows 29 rfl) ic_1 ?_
          refine s_iadd (pc := 44) (dc dl_X6_waysInRows 30 rfl) ?_
          refine s_istore_nL (pc := 45) (lf' := fun y7 => [some (.int x0), some (.int x1), some (.int s6.1), some (.int y7)]) (dc dl_X6_waysInRows 31 rfl) rfl (Nat.le_of_ble_eq_true rfl) (fun _ => rfl) (fun y7 => ?_)
          refine s_weak (lv' := [some (.int x0), some (.int x1), some (.int s6.1), some (.int y7)]) rfl ?_
          refine s_loop (pc := 46) (fun s9 : Int32 × Int32 => [some (.int x0), some (.int x1), some (.int s9.1), some (.int s9.2)]) [] (fun self8 hself8 s9 => ?_) _ (s6.1, y7)
          refine s_iload_n (pc := 46) (dc dl_X6_waysInRows 32 rfl) rfl rfl ?_
          refine s_iload_n (pc := 47) (dc dl_X6_waysInRows 33 rfl) rfl rfl ?_
          refine s_icmp_gt (pc := 48) (tgt := 61) (dc dl_X6_waysInRows 34 rfl) rfl ?_ ?_
          · refine s_iload_n (pc := 61) (dc dl_X6_waysInRows 41 rfl) rfl rfl ?_
            refine s_iload_n (pc := 62) (dc dl_X6_waysInRows 42 rfl) rfl rfl ?_
            refine s_jn (pj := 71) (fun a11 : Int32 => [none, none, none, none]) (fun a11 : Int32 => [.int a11]) (fun a11 => ?_) (fun j10 hj10 => ?_)
            · exact s_ireturn (pc := 71) rfl (dc dl_X6_waysInRows 47 rfl)
            · refine s_icmp_le (pc := 63) (tgt := 70) (dc dl_X6_waysInRows 43 rfl) rfl ?_ ?_
              · refine s_iload_n (pc := 70) (dc dl_X6_waysInRows 46 rfl) rfl rfl ?_
                exact s_wk (hj10 s9.1) rfl
              · refine s_iconst (pc := 66) (v := 0) (dc dl_X6_waysInRows 44 rfl) ic_0 ?_
                refine s_goto (pc := 67) (tgt := 71) (dc dl_X6_waysInRows 45 rfl) rfl ?_
                exact s_wk (hj10 0) rfl
          · refine s_iload_n (pc := 51) (dc dl_X6_waysInRows 35 rfl) rfl rfl ?_
            refine s_iload_n (pc := 52) (dc dl_X6_waysInRows 36 rfl) rfl rfl ?_
            refine s_imul (pc := 53) (dc dl_X6_waysInRows 37 rfl) ?_
            refine s_istore_nL (pc := 54) (lf' := fun y12 => [some (.int x0), some (.int x1), some (.int y12), some (.int s9.2)]) (dc dl_X6_waysInRows 38 rfl) rfl (Nat.le_of_ble_eq_true rfl) (fun _ => rfl) (fun y12 => ?_)
            refine s_iincL (pc := 55) (lf' := fun y13 => [some (.int x0), some (.int x1), some (.int y12), some (.int y13)]) (dc dl_X6_waysInRows 39 rfl) rfl rfl (Nat.le_of_ble_eq_true rfl) (fun _ => rfl) (fun y13 => ?_)
            refine s_goto (pc := 58) (tgt := 46) (dc dl_X6_waysInRows 40 rfl) rfl ?_
            exact s_wk (hself8 (y12, y13)) rfl
        · refine s_iload_n (pc := 28) (dc dl_X6_waysInRows 18 rfl) rfl rfl ?_
          refine s_iload_n (pc := 29) (dc dl_X6_waysInRows 19 rfl) rfl rfl ?_
          refine s_iload_n (pc := 30) (dc dl_X6_waysInRows 20 rfl) rfl rfl ?_
          refine s_isub (pc := 31) (dc dl_X6_waysInRows 21 rfl) ?_
          refine s_imul (pc := 32) (dc dl_X6_waysInRows 22 rfl) ?_
          refine s_iload_n (pc := 33) (dc dl_X6_waysInRows 23 rfl) rfl rfl ?_
          refine s_idiv (pc := 34) (dc dl_X6_waysInRows 24 rfl) ?_
          refine s_istore_nL (pc := 35) (lf' := fun y14 => [some (.int x0), some (.int x1), some (.int y14), some (.int s6.2)]) (dc dl_X6_waysInRows 25 rfl) rfl (Nat.le_of_ble_eq_true rfl) (fun _ => rfl) (fun y14 => ?_)
          refine s_iincL (pc := 36) (lf' := fun y15 => [some (.int x0), some (.int x1), some (.int y14), some (.int y15)]) (dc dl_X6_waysInRows 26 rfl) rfl rfl (Nat.le_of_ble_eq_true rfl) (fun _ => rfl) (fun y15 => ?_)
          refine s_goto (pc := 39) (tgt := 23) (dc dl_X6_waysInRows 27 rfl) rfl ?_
          exact s_wk (hself5 (y14, y15)) rfl
def gX6_lettersOf (x0 : Int32) : MM Int32 :=
  (if 1 < x0 then
  jn (fun (a2 : Int32) =>
  pr a2) (fun j1 =>
  jn (fun (a4 : Unit) =>
  j1 4) (fun j3 =>
  (if x0 = 7 then
  j3 ()
  else
  (if x0 = 9 then
  j3 ()
  else
  j1 3))))
  else
  pr 0)
set_option maxHeartbeats 4000000 in
theorem cn_X6_lettersOf (l : Launch) (G : Gl) (hG : gOk G) (ad : Nat → Nat) (x0 : Int32) : Cn l G mX6_lettersOf 0 lay_E ad [.int x0] (gX6_lettersOf x0) := by
  refine cn_of (lv := [some (.int x0)]) (by decide +kernel) rfl (Nat.le_of_ble_eq_true rfl) rfl ?_
  unfold gX6_lettersOf
  refine s_iload_n (pc := 0) (dc dl_X6_lettersOf 0 rfl) rfl rfl ?_
  refine s_iconst (pc := 1) (v := 1) (dc dl_X6_lettersOf 1 rfl) ic_1 ?_
  refine s_icmp_gt (pc := 2) (tgt := 7) (dc dl_X6_lettersOf 2 rfl) rfl ?_ ?_
  · refine s_iload_n (pc := 7) (dc dl_X6_lettersOf 5 rfl) rfl rfl ?_
    refine s_bipush (pc := 8) (v := 7) (dc dl_X6_lettersOf 6 rfl) bi_7 ?_
    refine s_jn (pj := 24) (fun a2 : Int32 => [none]) (fun a2 : Int32 => [.int a2]) (fun a2 => ?_) (fun j1 hj1 => ?_)
    · exact s_ireturn (pc := 24) rfl (dc dl_X6_lettersOf 14 rfl)
    · refine s_jn (pj := 19) (fun a4 : Unit => [none]) (fun a4 : Unit => []) (fun a4 => ?_) (fun j3 hj3 => ?_)
      · refine s_iconst (pc := 19) (v := 4) (dc dl_X6_lettersOf 11 rfl) ic_4 ?_
        refine s_goto (pc := 20) (tgt := 24) (dc dl_X6_lettersOf 12 rfl) rfl ?_
        exact s_wk (hj1 4) rfl
      · refine s_icmp_eq (pc := 10) (tgt := 19) (dc dl_X6_lettersOf 7 rfl) rfl ?_ ?_
        · exact s_wk (hj3 ()) rfl
        · refine s_iload_n (pc := 13) (dc dl_X6_lettersOf 8 rfl) rfl rfl ?_
          refine s_bipush (pc := 14) (v := 9) (dc dl_X6_lettersOf 9 rfl) bi_9 ?_
          refine s_icmp_ne (pc := 16) (tgt := 23) (dc dl_X6_lettersOf 10 rfl) rfl ?_ ?_
          · exact s_wk (hj3 ()) rfl
          · refine s_iconst (pc := 23) (v := 3) (dc dl_X6_lettersOf 13 rfl) ic_3 ?_
            exact s_wk (hj1 3) rfl
  · refine s_iconst (pc := 5) (v := 0) (dc dl_X6_lettersOf 3 rfl) ic_0 ?_
    exact s_ireturn (pc := 6) rfl (dc dl_X6_lettersOf 4 rfl)
def gX6_spellings (x1 : Int32) : MM Int32 :=
  bd (lf rh0 0 (gJ9_max_7cf53 x1 0)) fun r1 =>
  loopC 100000 (fun (self2 : (Int32 × Int32) → MM Int32) (s3 : Int32 × Int32) =>
  bd (ld 0 0) fun v4 =>
  (if v4 ≤ s3.2 then
  pr s3.1
  else
  bd (gX8_get s3.2) fun r5 =>
  bd (lf rh0 0 (gX6_lettersOf r5)) fun r6 =>
  bd (lf rh0 0 (gJ9_max_7cf53 1 r6)) fun r7 =>
  lt (s3.1 * r7) fun y8 =>
  lt (s3.2 + 1) fun y9 =>
  self2 (y8, y9))) (1, r1)
set_option maxHeartbeats 4000000 in
theorem cn_X6_spellings (l : Launch) (G : Gl) (hG : gOk G) (ad : Nat → Nat) (x1 : Int32) : Cn l G mX6_spellings 1 lay_Told ad [.ref (ad 0), .int x1] (gX6_spellings x1) := by
  refine cn_of (lv := [some (.ref (ad 0)), some (.int x1), none, none]) (by decide +kernel) rfl (Nat.le_of_ble_eq_true rfl) rfl ?_
  unfold gX6_spellings
  refine s_iconst (pc := 0) (v := 1) (dc dl_X6_spellings 0 rfl) ic_1 ?_
  refine s_istore_n (pc := 1) (lv' := [some (.ref (ad 0)), some (.int x1), some (.int 1), none]) (dc dl_X6_spellings 1 rfl) rfl (Nat.le_of_ble_eq_true rfl) rfl ?_
  refine s_iload_n (pc := 2) (dc dl_X6_spellings 2 rfl) rfl rfl ?_
  refine s_iconst (pc := 3) (v := 0) (dc dl_X6_spellings 3 rfl) ic_0 ?_
  refine s_calll (pc := 4) (ρ := rh0) (rest := []) hG (ss_Told_E_rh0) (calls_S (mi := mX6_spellings) (As := [.int x1, .int 0]) (rest := []) hG (dc dl_X6_spellings 4 rfl) mo_J9_max_7cf53 ms_J9_max_7cf53 ml_X6_108 ⟨Nat.le_of_ble_eq_true rfl, Nat.le_of_ble_eq_true rfl⟩ rfl rfl (Nat.le_of_ble_eq_true rfl)) (cn_J9_max_7cf53 l G hG (fun i => ad (rh0 i)) x1 0) rfl rfl (fun r1 => ?_)
  refine s_istore_n (pc := 7) (lv' := [some (.ref (ad 0)), some (.int x1), some (.int 1), some (.int r1)]) (dc dl_X6_spellings 5 rfl) rfl (Nat.le_of_ble_eq_true rfl) rfl ?_
  refine s_weak (lv' := [some (.ref (ad 0)), none, some (.int 1), some (.int r1)]) rfl ?_
  refine s_loop (pc := 8) (fun s3 : Int32 × Int32 => [some (.ref (ad 0)), none, some (.int s3.1), some (.int s3.2)]) [] (fun self2 hself2 s3 => ?_) _ (1, r1)
  refine s_iload_n (pc := 8) (dc dl_X6_spellings 6 rfl) rfl rfl ?_
  refine s_aload_n (pc := 9) (dc dl_X6_spellings 7 rfl) rfl rfl ?_
  refine s_getI (pc := 10) fl_X6_25 lk_Told_0 kk_Told_0_0 (dc dl_X6_spellings 8 rfl) (fun v4 => ?_)
  refine s_icmp_ge (pc := 13) (tgt := 37) (dc dl_X6_spellings 9 rfl) rfl ?_ ?_
  · refine s_iload_n (pc := 37) (dc dl_X6_spellings 21 rfl) rfl rfl ?_
    exact s_ireturn (pc := 38) rfl (dc dl_X6_spellings 22 rfl)
  · refine s_iload_n (pc := 16) (dc dl_X6_spellings 10 rfl) rfl rfl ?_
    refine s_iconst (pc := 17) (v := 1) (dc dl_X6_spellings 11 rfl) ic_1 ?_
    refine s_aload_n (pc := 18) (dc dl_X6_spellings 12 rfl) rfl rfl ?_
    refine s_iload_n (pc := 19) (dc dl_X6_spellings 13 rfl) rfl rfl ?_
    refine s_call (pc := 20) (rest := [.int 1, .int s3.1]) hG (calls_V (mi := mX6_spellings) (o := 0) (As := [.int s3.2]) (rest := [.int 1, .int s3.1]) hG (dc dl_X6_spellings 14 rfl) mo_X8_get mv_X8_get ml_X6_30 ⟨Nat.le_of_ble_eq_true rfl, Nat.le_of_ble_eq_true rfl⟩ rfl rfl (Nat.le_of_ble_eq_true rfl) lk_Told_0 rfl) (cn_X8_get l G hG ad s3.2) rfl (fun r5 => ?_)
    refine s_calll (pc := 23) (ρ := rh0) (rest := [.int 1, .int s3.1]) hG (ss_Told_E_rh0) (calls_S (mi := mX6_spellings) (As := [.int r5]) (rest := [.int 1, .int s3.1]) hG (dc dl_X6_spellings 15 rfl) mo_X6_lettersOf ms_X6_lettersOf ml_X6_111 ⟨Nat.le_of_ble_eq_true rfl, Nat.le_of_ble_eq_true rfl⟩ rfl rfl (Nat.le_of_ble_eq_true rfl)) (cn_X6_lettersOf l G hG (fun i => ad (rh0 i)) r5) rfl rfl (fun r6 => ?_)
    refine s_calll (pc := 26) (ρ := rh0) (rest := [.int s3.1]) hG (ss_Told_E_rh0) (calls_S (mi := mX6_spellings) (As := [.int 1, .int r6]) (rest := [.int s3.1]) hG (dc dl_X6_spellings 16 rfl) mo_J9_max_7cf53 ms_J9_max_7cf53 ml_X6_108 ⟨Nat.le_of_ble_eq_true rfl, Nat.le_of_ble_eq_true rfl⟩ rfl rfl (Nat.le_of_ble_eq_true rfl)) (cn_J9_max_7cf53 l G hG (fun i => ad (rh0 i)) 1 r6) rfl rfl (fun r7 => ?_)
    refine s_imul (pc := 29) (dc dl_X6_spellings 17 rfl) ?_
    refine s_istore_nL (pc := 30) (lf' := fun y8 => [some (.ref (ad 0)), none, some (.int y8), some (.int s3.2)]) (dc dl_X6_spellings 18 rfl) rfl (Nat.le_of_ble_eq_true rfl) (fun _ => rfl) (fun y8 => ?_)
    refine s_iincL (pc := 31) (lf' := fun y9 => [some (.ref (ad 0)), none, some (.int y8), some (.int y9)]) (dc dl_X6_spellings 19 rfl) rfl rfl (Nat.le_of_ble_eq_true rfl) (fun _ => rfl) (fun y9 => ?_)
    refine s_goto (pc := 34) (tgt := 8) (dc dl_X6_spellings 20 rfl) rfl ?_
    exact s_wk (hself2 (y8, y9)) rfl
def gX6_letterAt (x1 x2 : Int32) : MM Int32 :=
  bd (gX8_get x1) fun r1 =>
  bd (lf rh0 0 (gX6_lettersOf r1)) fun r2 =>
  bd (gX6_spellings (x1 + 1)) fun r3 =>
  jn (fun (a5 : Unit) =>
  pr ((-1))) (fun j4 =>
  (if r2 = 0 then
  j4 ()
  else
  (if 0 < r3 then
  nz r3 (
  nz r2 (
  pr (irm (x2 / r3) r2)))
  else
  j4 ())))
set_option maxHeartbeats 4000000 in
theorem cn_X6_letterAt (l : Launch) (G : Gl) (hG : gOk G) (ad : Nat → Nat) (x1 x2 : Int32) : Cn l G mX6_letterAt 2 lay_Told ad [.ref (ad 0), .int x1, .int x2] (gX6_letterAt x1 x2) := by
  refine cn_of (lv := [some (.ref (ad 0)), some (.int x1), some (.int x2), none, none]) (by decide +kernel) rfl (Nat.le_of_ble_eq_true rfl) rfl ?_
  unfold gX6_letterAt
  refine s_aload_n (pc := 0) (dc dl_X6_letterAt 0 rfl) rfl rfl ?_
  refine s_iload_n (pc := 1) (dc dl_X6_letterAt 1 rfl) rfl rfl ?_
  refine s_call (pc := 2) (rest := []) hG (calls_V (mi := mX6_letterAt) (o := 0) (As := [.int x1]) (rest := []) hG (dc dl_X6_letterAt 2 rfl) mo_X8_get mv_X8_get ml_X6_30 ⟨Nat.le_of_ble_eq_true rfl, Nat.le_of_ble_eq_true rfl⟩ rfl rfl (Nat.le_of_ble_eq_true rfl) lk_Told_0 rfl) (cn_X8_get l G hG ad x1) rfl (fun r1 => ?_)
  refine s_calll (pc := 5) (ρ := rh0) (rest := []) hG (ss_Told_E_rh0) (calls_S (mi := mX6_letterAt) (As := [.int r1]) (rest := []) hG (dc dl_X6_letterAt 3 rfl) mo_X6_lettersOf ms_X6_lettersOf ml_X6_111 ⟨Nat.le_of_ble_eq_true rfl, Nat.le_of_ble_eq_true rfl⟩ rfl rfl (Nat.le_of_ble_eq_true rfl)) (cn_X6_lettersOf l G hG (fun i => ad (rh0 i)) r1) rfl rfl (fun r2 => ?_)
  refine s_istore_n (pc := 8) (lv' := [some (.ref (ad 0)), some (.int x1), some (.int x2), some (.int r2), none]) (dc dl_X6_letterAt 4 rfl) rfl (Nat.le_of_ble_eq_true rfl) rfl ?_
  refine s_aload_n (pc := 9) (dc dl_X6_letterAt 5 rfl) rfl rfl ?_
  refine s_iload_n (pc := 10) (dc dl_X6_letterAt 6 rfl) rfl rfl ?_
  refine s_iconst (pc := 11) (v := 1) (dc dl_X6_letterAt 7 rfl) ic_1 ?_
  refine s_iadd (pc := 12) (dc dl_X6_letterAt 8 rfl) ?_
  refine s_call (pc := 13) (rest := []) hG (calls_S (mi := mX6_letterAt) (As := [.ref (ad 0), .int (x1 + 1)]) (rest := []) hG (dc dl_X6_letterAt 9 rfl) mo_X6_spellings ms_X6_spellings ml_X6_114 ⟨Nat.le_of_ble_eq_true rfl, Nat.le_of_ble_eq_true rfl⟩ rfl rfl (Nat.le_of_ble_eq_true rfl)) (cn_X6_spellings l G hG ad (x1 + 1)) rfl (fun r3 => ?_)
  refine s_istore (pc := 16) (lv' := [some (.ref (ad 0)), some (.int x1), some (.int x2), some (.int r2), some (.int r3)]) (dc dl_X6_letterAt 10 rfl) (Nat.le_of_ble_eq_true rfl) rfl ?_
  refine s_iload_n (pc := 18) (dc dl_X6_letterAt 11 rfl) rfl rfl ?_
  refine s_jn (pj := 27) (fun a5 : Unit => [none, none, none, none, none]) (fun a5 : Unit => []) (fun a5 => ?_) (fun j4 hj4 => ?_)
  · refine s_iconst (pc := 27) (v := (-1)) (dc dl_X6_letterAt 15 rfl) ic_m1 ?_
    exact s_ireturn (pc := 28) rfl (dc dl_X6_letterAt 16 rfl)
  · refine s_if_eq (pc := 19) (tgt := 27) (dc dl_X6_letterAt 12 rfl) rfl ?_ ?_
    · exact s_wk (hj4 ()) rfl
    · refine s_iload (pc := 22) (dc dl_X6_letterAt 13 rfl) rfl ?_
      refine s_if_gt (pc := 24) (tgt := 29) (dc dl_X6_letterAt 14 rfl) rfl ?_ ?_
      · refine s_iload_n (pc := 29) (dc dl_X6_letterAt 17 rfl) rfl rfl ?_
        refine s_iload (pc := 30) (dc dl_X6_letterAt 18 rfl) rfl ?_
        refine s_idiv (pc := 32) (dc dl_X6_letterAt 19 rfl) ?_
        refine s_iload_n (pc := 33) (dc dl_X6_letterAt 20 rfl) rfl rfl ?_
        refine s_irem (pc := 34) (dc dl_X6_letterAt 21 rfl) ?_
        exact s_ireturn (pc := 35) rfl (dc dl_X6_letterAt 22 rfl)
      · exact s_wk (hj4 ()) rfl
def gX6_hasThree (x0 : Int32) : MM Int32 :=
  jn (fun (a2 : Int32) =>
  rz a2) (fun j1 =>
  (if ((x0 &&& (ish x0 1)) &&& (ish x0 2)) = 0 then
  j1 0
  else
  j1 1))
set_option maxHeartbeats 4000000 in
theorem cn_X6_hasThree (l : Launch) (G : Gl) (hG : gOk G) (ad : Nat → Nat) (x0 : Int32) : Cn l G mX6_hasThree 0 lay_E ad [.int x0] (gX6_hasThree x0) := by
  refine cn_of (lv := [some (.int x0)]) (by decide +kernel) rfl (Nat.le_of_ble_eq_true rfl) rfl ?_
  unfold gX6_hasThree
  refine s_iload_n (pc := 0) (dc dl_X6_hasThree 0 rfl) rfl rfl ?_
  refine s_iload_n (pc := 1) (dc dl_X6_hasThree 1 rfl) rfl rfl ?_
  refine s_iconst (pc := 2) (v := 1) (dc dl_X6_hasThree 2 rfl) ic_1 ?_
  refine s_iushr (pc := 3) (dc dl_X6_hasThree 3 rfl) ?_
  refine s_iand (pc := 4) (dc dl_X6_hasThree 4 rfl) ?_
  refine s_iload_n (pc := 5) (dc dl_X6_hasThree 5 rfl) rfl rfl ?_
  refine s_iconst (pc := 6) (v := 2) (dc dl_X6_hasThree 6 rfl) ic_2 ?_
  refine s_iushr (pc := 7) (dc dl_X6_hasThree 7 rfl) ?_
  refine s_iand (pc := 8) (dc dl_X6_hasThree 8 rfl) ?_
  refine s_jn (pj := 17) (fun a2 : Int32 => [none]) (fun a2 : Int32 => [.int a2]) (fun a2 => ?_) (fun j1 hj1 => ?_)
  · exact s_zreturn (pc := 17) rfl (dc dl_X6_hasThree 13 rfl)
  · refine s_if_eq (pc := 9) (tgt := 16) (dc dl_X6_hasThree 9 rfl) rfl ?_ ?_
    · refine s_iconst (pc := 16) (v := 0) (dc dl_X6_hasThree 12 rfl) ic_0 ?_
      exact s_wk (hj1 0) rfl
    · refine s_iconst (pc := 12) (v := 1) (dc dl_X6_hasThree 10 rfl) ic_1 ?_
      refine s_goto (pc := 13) (tgt := 17) (dc dl_X6_hasThree 11 rfl) rfl ?_
      exact s_wk (hj1 1) rfl
def gX6_isSafe (x0 x1 : Int32) : MM Int32 :=
  lt ((((x0 ||| (x0 <<< (1 &&& 31))) ||| (x0 <<< (2 &&& 31))) ||| (ish x0 1)) ||| (ish x0 2)) fun y1 =>
  jn (fun (a3 : Int32) =>
  rz a3) (fun j2 =>
  (if ((ish y1 x1) &&& 1) = 0 then
  j2 1
  else
  j2 0))
set_option maxHeartbeats 4000000 in
theorem cn_X6_isSafe (l : Launch) (G : Gl) (hG : gOk G) (ad : Nat → Nat) (x0 x1 : Int32) : Cn l G mX6_isSafe 0 lay_E ad [.int x0, .int x1] (gX6_isSafe x0 x1) := by
  refine cn_of (lv := [some (.int x0), some (.int x1), none]) (by decide +kernel) rfl (Nat.le_of_ble_eq_true rfl) rfl ?_
  unfold gX6_isSafe
  refine s_iload_n (pc := 0) (dc dl_X6_isSafe 0 rfl) rfl rfl ?_
  refine s_iload_n (pc := 1) (dc dl_X6_isSafe 1 rfl) rfl rfl ?_
  refine s_iconst (pc := 2) (v := 1) (dc dl_X6_isSafe 2 rfl) ic_1 ?_
  refine s_ishl (pc := 3) (dc dl_X6_isSafe 3 rfl) ?_
  refine s_ior (pc := 4) (dc dl_X6_isSafe 4 rfl) ?_
  refine s_iload_n (pc := 5) (dc dl_X6_isSafe 5 rfl) rfl rfl ?_
  refine s_iconst (pc := 6) (v := 2) (dc dl_X6_isSafe 6 rfl) ic_2 ?_
  refine s_ishl (pc := 7) (dc dl_X6_isSafe 7 rfl) ?_
  refine s_ior (pc := 8) (dc dl_X6_isSafe 8 rfl) ?_
  refine s_iload_n (pc := 9) (dc dl_X6_isSafe 9 rfl) rfl rfl ?_
  refine s_iconst (pc := 10) (v := 1) (dc dl_X6_isSafe 10 rfl) ic_1 ?_
  refine s_iushr (pc := 11) (dc dl_X6_isSafe 11 rfl) ?_
  refine s_ior (pc := 12) (dc dl_X6_isSafe 12 rfl) ?_
  refine s_iload_n (pc := 13) (dc dl_X6_isSafe 13 rfl) rfl rfl ?_
  refine s_iconst (pc := 14) (v := 2) (dc dl_X6_isSafe 14 rfl) ic_2 ?_
  refine s_iushr (pc := 15) (dc dl_X6_isSafe 15 rfl) ?_
  refine s_ior (pc := 16) (dc dl_X6_isSafe 16 rfl) ?_
  refine s_istore_nL (pc := 17) (lf' := fun y1 => [some (.int x0), some (.int x1), some (.int y1)]) (dc dl_X6_isSafe 17 rfl) rfl (Nat.le_of_ble_eq_true rfl) (fun _ => rfl) (fun y1 => ?_)
  refine s_iload_n (pc := 18) (dc dl_X6_isSafe 18 rfl) rfl rfl ?_
  refine s_iload_n (pc := 19) (dc dl_X6_isSafe 19 rfl) rfl rfl ?_
  refine s_iushr (pc := 20) (dc dl_X6_isSafe 20 rfl) ?_
  refine s_iconst (pc := 21) (v := 1) (dc dl_X6_isSafe 21 rfl) ic_1 ?_
  refine s_iand (pc := 22) (dc dl_X6_isSafe 22 rfl) ?_
  refine s_jn (pj := 31) (fun a3 : Int32 => [none, none, none]) (fun a3 : Int32 => [.int a3]) (fun a3 => ?_) (fun j2 hj2 => ?_)
  · exact s_zreturn (pc := 31) rfl (dc dl_X6_isSafe 27 rfl)
  · refine s_if_ne (pc := 23) (tgt := 30) (dc dl_X6_isSafe 23 rfl) rfl ?_ ?_
    · refine s_iconst (pc := 26) (v := 1) (dc dl_X6_isSafe 24 rfl) ic_1 ?_
      refine s_goto (pc := 27) (tgt := 31) (dc dl_X6_isSafe 25 rfl) rfl ?_
      exact s_wk (hj2 1) rfl
    · refine s_iconst (pc := 30) (v := 0) (dc dl_X6_isSafe 26 rfl) ic_0 ?_
      exact s_wk (hj2 0) rfl
def gX6_nimberLeft (x0 x1 : Int32) : MM Int32 :=
  loopC 100000 (fun (self1 : (Int32 × Int32 × Int32) → MM Int32) (s2 : Int32 × Int32 × Int32) =>
  (if x0 < s2.2.2 then
  pr s2.1
  else
  jn (fun (a4 : Int32 × Int32) =>
  lt (s2.2.2 + 1) fun y5 =>
  self1 (a4.1, a4.2, y5)) (fun j3 =>
  jn (fun (a7 : Unit) =>
  jn (fun (a9 : Int32) =>
  lt (s2.1 ^^^ a9) fun y10 =>
  j3 (y10, 0)) (fun j8 =>
  (if 14 ≤ s2.2.1 then
  j8 0
  else
  bd (lc NBl s2.2.1) fun v11 =>
  j8 v11))) (fun j6 =>
  (if x0 ≤ s2.2.2 then
  j6 ()
  else
  bd (gX6_isSafe x1 s2.2.2) fun r12 =>
  (if r12 = 0 then
  j6 ()
  else
  lt (s2.2.1 + 1) fun y13 =>
  j3 (s2.1, y13))))))) (0, 0, 0)
set_option maxHeartbeats 4000000 in
theorem cn_X6_nimberLeft (l : Launch) (G : Gl) (hG : gOk G) (ad : Nat → Nat) (x0 x1 : Int32) : Cn l G mX6_nimberLeft 1 lay_E ad [.int x0, .int x1] (gX6_nimberLeft x0 x1) := by
  refine cn_of (lv := [some (.int x0), some (.int x1), none, none, none]) (by decide +kernel) rfl (Nat.le_of_ble_eq_true rfl) rfl ?_
  unfold gX6_nimberLeft
  refine s_iconst (pc := 0) (v := 0) (dc dl_X6_nimberLeft 0 rfl) ic_0 ?_
  refine s_istore_n (pc := 1) (lv' := [some (.int x0), some (.int x1), some (.int 0), none, none]) (dc dl_X6_nimberLeft 1 rfl) rfl (Nat.le_of_ble_eq_true rfl) rfl ?_
  refine s_iconst (pc := 2) (v := 0) (dc dl_X6_nimberLeft 2 rfl) ic_0 ?_
  refine s_istore_n (pc := 3) (lv' := [some (.int x0), some (.int x1), some (.int 0), some (.int 0), none]) (dc dl_X6_nimberLeft 3 rfl) rfl (Nat.le_of_ble_eq_true rfl) rfl ?_
  refine s_iconst (pc := 4) (v := 0) (dc dl_X6_nimberLeft 4 rfl) ic_0 ?_
  refine s_istore (pc := 5) (lv' := [some (.int x0), some (.int x1), some (.int 0), some (.int 0), some (.int 0)]) (dc dl_X6_nimberLeft 5 rfl) (Nat.le_of_ble_eq_true rfl) rfl ?_
  refine s_weak (lv' := [some (.int x0), some (.int x1), some (.int 0), some (.int 0), some (.int 0)]) rfl ?_
  refine s_loop (pc := 7) (fun s2 : Int32 × Int32 × Int32 => [some (.int x0), some (.int x1), some (.int s2.1), some (.int s2.2.1), some (.int s2.2.2)]) [] (fun self1 hself1 s2 => ?_) _ (0, 0, 0)
  refine s_iload (pc := 7) (dc dl_X6_nimberLeft 6 rfl) rfl ?_
  refine s_iload_n (pc := 9) (dc dl_X6_nimberLeft 7 rfl) rfl rfl ?_
  refine s_icmp_gt (pc := 10) (tgt := 62) (dc dl_X6_nimberLeft 8 rfl) rfl ?_ ?_
  · refine s_iload_n (pc := 62) (dc dl_X6_nimberLeft 34 rfl) rfl rfl ?_
    exact s_ireturn (pc := 63) rfl (dc dl_X6_nimberLeft 35 rfl)
  · refine s_iload (pc := 13) (dc dl_X6_nimberLeft 9 rfl) rfl ?_
    refine s_iload_n (pc := 15) (dc dl_X6_nimberLeft 10 rfl) rfl rfl ?_
    refine s_jn (pj := 56) (fun a4 : Int32 × Int32 => [some (.int x0), some (.int x1), some (.int a4.1), some (.int a4.2), some (.int s2.2.2)]) (fun a4 : Int32 × Int32 => []) (fun a4 => ?_) (fun j3 hj3 => ?_)
    · refine s_iincL (pc := 56) (lf' := fun y5 => [some (.int x0), some (.int x1), some (.int a4.1), some (.int a4.2), some (.int y5)]) (dc dl_X6_nimberLeft 32 rfl) rfl rfl (Nat.le_of_ble_eq_true rfl) (fun _ => rfl) (fun y5 => ?_)
      refine s_goto (pc := 59) (tgt := 7) (dc dl_X6_nimberLeft 33 rfl) rfl ?_
      exact s_wk (hself1 (a4.1, a4.2, y5)) rfl
    · refine s_jn (pj := 34) (fun a7 : Unit => [some (.int x0), some (.int x1), some (.int s2.1), some (.int s2.2.1), some (.int s2.2.2)]) (fun a7 : Unit => []) (fun a7 => ?_) (fun j6 hj6 => ?_)
      · refine s_iload_n (pc := 34) (dc dl_X6_nimberLeft 18 rfl) rfl rfl ?_
        refine s_iload_n (pc := 35) (dc dl_X6_nimberLeft 19 rfl) rfl rfl ?_
        refine s_getsN (pc := 36) sl_X6_127 (dc dl_X6_nimberLeft 20 rfl) ?_
        refine s_tlenN (pc := 39) (dc dl_X6_nimberLeft 21 rfl) ?_
        refine s_jn (pj := 52) (fun a9 : Int32 => [some (.int x0), some (.int x1), none, none, some (.int s2.2.2)]) (fun a9 : Int32 => [.int a9, .int s2.1]) (fun a9 => ?_) (fun j8 hj8 => ?_)
        · refine s_ixor (pc := 52) (dc dl_X6_nimberLeft 28 rfl) ?_
          refine s_istore_nL (pc := 53) (lf' := fun y10 => [some (.int x0), some (.int x1), some (.int y10), none, some (.int s2.2.2)]) (dc dl_X6_nimberLeft 29 rfl) rfl (Nat.le_of_ble_eq_true rfl) (fun _ => rfl) (fun y10 => ?_)
          refine s_iconst (pc := 54) (v := 0) (dc dl_X6_nimberLeft 30 rfl) ic_0 ?_
          refine s_istore_n (pc := 55) (lv' := [some (.int x0), some (.int x1), some (.int y10), some (.int 0), some (.int s2.2.2)]) (dc dl_X6_nimberLeft 31 rfl) rfl (Nat.le_of_ble_eq_true rfl) rfl ?_
          exact s_wk (hj3 (y10, 0)) rfl
        · refine s_icmp_ge (pc := 40) (tgt := 51) (dc dl_X6_nimberLeft 22 rfl) rfl ?_ ?_
          · refine s_iconst (pc := 51) (v := 0) (dc dl_X6_nimberLeft 27 rfl) ic_0 ?_
            exact s_wk (hj8 0) rfl
          · refine s_getsN (pc := 43) sl_X6_127 (dc dl_X6_nimberLeft 23 rfl) ?_
            refine s_iload_n (pc := 46) (dc dl_X6_nimberLeft 24 rfl) rfl rfl ?_
            refine s_taldN (pc := 47) (dc dl_X6_nimberLeft 25 rfl) (fun v11 => ?_)
            refine s_goto (pc := 48) (tgt := 52) (dc dl_X6_nimberLeft 26 rfl) rfl ?_
            exact s_wk (hj8 v11) rfl
      · refine s_icmp_ge (pc := 16) (tgt := 34) (dc dl_X6_nimberLeft 11 rfl) rfl ?_ ?_
        · exact s_wk (hj6 ()) rfl
        · refine s_iload_n (pc := 19) (dc dl_X6_nimberLeft 12 rfl) rfl rfl ?_
          refine s_iload (pc := 20) (dc dl_X6_nimberLeft 13 rfl) rfl ?_
          refine s_call (pc := 22) (rest := []) hG (calls_S (mi := mX6_nimberLeft) (As := [.int x1, .int s2.2.2]) (rest := []) hG (dc dl_X6_nimberLeft 14 rfl) mo_X6_isSafe ms_X6_isSafe ml_X6_120 ⟨Nat.le_of_ble_eq_true rfl, Nat.le_of_ble_eq_true rfl⟩ rfl rfl (Nat.le_of_ble_eq_true rfl)) (cn_X6_isSafe l G hG ad x1 s2.2.2) rfl (fun r12 => ?_)
          refine s_if_eq (pc := 25) (tgt := 34) (dc dl_X6_nimberLeft 15 rfl) rfl ?_ ?_
          · exact s_wk (hj6 ()) rfl
          · refine s_iincL (pc := 28) (lf' := fun y13 => [some (.int x0), some (.int x1), some (.int s2.1), some (.int y13), some (.int s2.2.2)]) (dc dl_X6_nimberLeft 16 rfl) rfl rfl (Nat.le_of_ble_eq_true rfl) (fun _ => rfl) (fun y13 => ?_)
            refine s_goto (pc := 31) (tgt := 56) (dc dl_X6_nimberLeft 17 rfl) rfl ?_
            exact s_wk (hj3 (s2.1, y13)) rfl
def gX6_winningPlace (x0 x1 : Int32) : MM Int32 :=
  bd (gX6_hasThree x1) fun r1 =>
  (if r1 = 0 then
  loopC 100000 (fun (self2 : Int32 → MM Int32) (s3 : Int32) =>
  (if x0 ≤ s3 then
  loopC 100000 (fun (self4 : Int32 → MM Int32) (s5 : Int32) =>
  (if x0 ≤ s5 then
  pr ((-1))
  else
  jn (fun (a7 : Unit) =>
  lt (s5 + 1) fun y8 =>
  self4 y8) (fun j6 =>
  (if ((ish x1 s5) &&& 1) = 0 then
  bd (gX6_isSafe x1 s5) fun r9 =>
  (if r9 = 0 then
  j6 ()
  else
  bd (gX6_nimberLeft x0 (x1 ||| (1 <<< (s5 &&& 31)))) fun r10 =>
  (if r10 = 0 then
  pr s5
  else
  j6 ()))
  else
  j6 ())))) 0
  else
  bd (gX6_hasThree (x1 ||| (1 <<< (s3 &&& 31)))) fun r11 =>
  (if r11 = 0 then
  lt (s3 + 1) fun y12 =>
  self2 y12
  else
  pr s3))) 0
  else
  pr ((-1)))
set_option maxHeartbeats 4000000 in
theorem cn_X6_winningPlace (l : Launch) (G : Gl) (hG : gOk G) (ad : Nat → Nat) (x0 x1 : Int32) : Cn l G mX6_winningPlace 2 lay_E ad [.int x0, .int x1] (gX6_winningPlace x0 x1) := by
  refine cn_of (lv := [some (.int x0), some (.int x1), none]) (by decide +kernel) rfl (Nat.le_of_ble_eq_true rfl) rfl ?_
  unfold gX6_winningPlace
  refine s_iload_n (pc := 0) (dc dl_X6_winningPlace 0 rfl) rfl rfl ?_
  refine s_call (pc := 1) (rest := []) hG (calls_S (mi := mX6_winningPlace) (As := [.int x1]) (rest := []) hG (dc dl_X6_winningPlace 1 rfl) mo_X6_hasThree ms_X6_hasThree ml_X6_117 ⟨Nat.le_of_ble_eq_true rfl, Nat.le_of_ble_eq_true rfl⟩ rfl rfl (Nat.le_of_ble_eq_true rfl)) (cn_X6_hasThree l G hG ad x1) rfl (fun r1 => ?_)
  refine s_if_eq (pc := 4) (tgt := 9) (dc dl_X6_winningPlace 2 rfl) rfl ?_ ?_
  · refine s_iconst (pc := 9) (v := 0) (dc dl_X6_winningPlace 5 rfl) ic_0 ?_
    refine s_istore_n (pc := 10) (lv' := [some (.int x0), some (.int x1), some (.int 0)]) (dc dl_X6_winningPlace 6 rfl) rfl (Nat.le_of_ble_eq_true rfl) rfl ?_
    refine s_weak (lv' := [some (.int x0), some (.int x1), some (.int 0)]) rfl ?_
    refine s_loop (pc := 11) (fun s3 : Int32 => [some (.int x0), some (.int x1), some (.int s3)]) [] (fun self2 hself2 s3 => ?_) _ 0
    refine s_iload_n (pc := 11) (dc dl_X6_winningPlace 7 rfl) rfl rfl ?_
    refine s_iload_n (pc := 12) (dc dl_X6_winningPlace 8 rfl) rfl rfl ?_
    refine s_icmp_ge (pc := 13) (tgt := 35) (dc dl_X6_winningPlace 9 rfl) rfl ?_ ?_
    · refine s_iconst (pc := 35) (v := 0) (dc dl_X6_winningPlace 21 rfl) ic_0 ?_
      refine s_istore_n (pc := 36) (lv' := [some (.int x0), some (.int x1), some (.int 0)]) (dc dl_X6_winningPlace 22 rfl) rfl (Nat.le_of_ble_eq_true rfl) rfl ?_
      refine s_weak (lv' := [some (.int x0), some (.int x1), some (.int 0)]) rfl ?_
      refine s_loop (pc := 37) (fun s5 : Int32 => [some (.int x0), some (.int x1), some (.int s5)]) [] (fun self4 hself4 s5 => ?_) _ 0
      refine s_iload_n (pc := 37) (dc dl_X6_winningPlace 23 rfl) rfl rfl ?_
      refine s_iload_n (pc := 38) (dc dl_X6_winningPlace 24 rfl) rfl rfl ?_
      refine s_icmp_ge (pc := 39) (tgt := 78) (dc dl_X6_winningPlace 25 rfl) rfl ?_ ?_
      · refine s_iconst (pc := 78) (v := (-1)) (dc dl_X6_winningPlace 48 rfl) ic_m1 ?_
        exact s_ireturn (pc := 79) rfl (dc dl_X6_winningPlace 49 rfl)
      · refine s_iload_n (pc := 42) (dc dl_X6_winningPlace 26 rfl) rfl rfl ?_
        refine s_iload_n (pc := 43) (dc dl_X6_winningPlace 27 rfl) rfl rfl ?_
        refine s_iushr (pc := 44) (dc dl_X6_winningPlace 28 rfl) ?_
        refine s_iconst (pc := 45) (v := 1) (dc dl_X6_winningPlace 29 rfl) ic_1 ?_
        refine s_iand (pc := 46) (dc dl_X6_winningPlace 30 rfl) ?_
        refine s_jn (pj := 72) (fun a7 : Unit => [some (.int x0), some (.int x1), some (.int s5)]) (fun a7 : Unit => []) (fun a7 => ?_) (fun j6 hj6 => ?_)
        · refine s_iincL (pc := 72) (lf' := fun y8 => [some (.int x0), some (.int x1), some (.int y8)]) (dc dl_X6_winningPlace 46 rfl) rfl rfl (Nat.le_of_ble_eq_true rfl) (fun _ => rfl) (fun y8 => ?_)
          refine s_goto (pc := 75) (tgt := 37) (dc dl_X6_winningPlace 47 rfl) rfl ?_
          exact s_wk (hself4 y8) rfl
        · refine s_if_ne (pc := 47) (tgt := 72) (dc dl_X6_winningPlace 31 rfl) rfl ?_ ?_
          · refine s_iload_n (pc := 50) (dc dl_X6_winningPlace 32 rfl) rfl rfl ?_
            refine s_iload_n (pc := 51) (dc dl_X6_winningPlace 33 rfl) rfl rfl ?_
            refine s_call (pc := 52) (rest := []) hG (calls_S (mi := mX6_winningPlace) (As := [.int x1, .int s5]) (rest := []) hG (dc dl_X6_winningPlace 34 rfl) mo_X6_isSafe ms_X6_isSafe ml_X6_120 ⟨Nat.le_of_ble_eq_true rfl, Nat.le_of_ble_eq_true rfl⟩ rfl rfl (Nat.le_of_ble_eq_true rfl)) (cn_X6_isSafe l G hG ad x1 s5) rfl (fun r9 => ?_)
            refine s_if_eq (pc := 55) (tgt := 72) (dc dl_X6_winningPlace 35 rfl) rfl ?_ ?_
            · exact s_wk (hj6 ()) rfl
            · refine s_iload_n (pc := 58) (dc dl_X6_winningPlace 36 rfl) rfl rfl ?_
              refine s_iload_n (pc := 59) (dc dl_X6_winningPlace 37 rfl) rfl rfl ?_
              refine s_iconst (pc := 60) (v := 1) (dc dl_X6_winningPlace 38 rfl) ic_1 ?_
              refine s_iload_n (pc := 61) (dc dl_X6_winningPlace 39 rfl) rfl rfl ?_
              refine s_ishl (pc := 62) (dc dl_X6_winningPlace 40 rfl) ?_
              refine s_ior (pc := 63) (dc dl_X6_winningPlace 41 rfl) ?_
              refine s_call (pc := 64) (rest := []) hG (calls_S (mi := mX6_winningPlace) (As := [.int x0, .int (x1 ||| (1 <<< (s5 &&& 31)))]) (rest := []) hG (dc dl_X6_winningPlace 42 rfl) mo_X6_nimberLeft ms_X6_nimberLeft ml_X6_124 ⟨Nat.le_of_ble_eq_true rfl, Nat.le_of_ble_eq_true rfl⟩ rfl rfl (Nat.le_of_ble_eq_true rfl)) (cn_X6_nimberLeft l G hG ad x0 (x1 ||| (1 <<< (s5 &&& 31)))) rfl (fun r10 => ?_)
              refine s_if_ne (pc := 67) (tgt := 72) (dc dl_X6_winningPlace 43 rfl) rfl ?_ ?_
              · refine s_iload_n (pc := 70) (dc dl_X6_winningPlace 44 rfl) rfl rfl ?_
                exact s_ireturn (pc := 71) rfl (dc dl_X6_winningPlace 45 rfl)
              · exact s_wk (hj6 ()) rfl
          · exact s_wk (hj6 ()) rfl
    · refine s_iload_n (pc := 16) (dc dl_X6_winningPlace 10 rfl) rfl rfl ?_
      refine s_iconst (pc := 17) (v := 1) (dc dl_X6_winningPlace 11 rfl) ic_1 ?_
      refine s_iload_n (pc := 18) (dc dl_X6_winningPlace 12 rfl) rfl rfl ?_
      refine s_ishl (pc := 19) (dc dl_X6_winningPlace 13 rfl) ?_
      refine s_ior (pc := 20) (dc dl_X6_winningPlace 14 rfl) ?_
      refine s_call (pc := 21) (rest := []) hG (calls_S (mi := mX6_winningPlace) (As := [.int (x1 ||| (1 <<< (s3 &&& 31)))]) (rest := []) hG (dc dl_X6_winningPlace 15 rfl) mo_X6_hasThree ms_X6_hasThree ml_X6_117 ⟨Nat.le_of_ble_eq_true rfl, Nat.le_of_ble_eq_true rfl⟩ rfl rfl (Nat.le_of_ble_eq_true rfl)) (cn_X6_hasThree l G hG ad (x1 ||| (1 <<< (s3 &&& 31)))) rfl (fun r11 => ?_)
      refine s_if_eq (pc := 24) (tgt := 29) (dc dl_X6_winningPlace 16 rfl) rfl ?_ ?_
      · refine s_iincL (pc := 29) (lf' := fun y12 => [some (.int x0), some (.int x1), some (.int y12)]) (dc dl_X6_winningPlace 19 rfl) rfl rfl (Nat.le_of_ble_eq_true rfl) (fun _ => rfl) (fun y12 => ?_)
        refine s_goto (pc := 32) (tgt := 11) (dc dl_X6_winningPlace 20 rfl) rfl ?_
        exact s_wk (hself2 y12) rfl
      · refine s_iload_n (pc := 27) (dc dl_X6_winningPlace 17 rfl) rfl rfl ?_
        exact s_ireturn (pc := 28) rfl (dc dl_X6_winningPlace 18 rfl)
  · refine s_iconst (pc := 7) (v := (-1)) (dc dl_X6_winningPlace 3 rfl) ic_m1 ?_
    exact s_ireturn (pc := 8) rfl (dc dl_X6_winningPlace 4 rfl)
