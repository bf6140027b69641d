def sb_X9_init_0 : Bk := fun i => ([List.replicate 19 0,
  List.replicate 12 0,
  List.replicate 12 0,
  List.replicate 12 0,
  List.replicate 14 0,
  List.replicate 14 0,
  List.replicate 14 0,
  List.replicate 56 0,
  List.replicate 20 0,
  List.replicate 20 0,
  List.replicate 20 0,
  List.replicate 20 0,
  List.replicate 20 0] : List (List Int32)).getD i []
set_option maxRecDepth 100000 in
set_option maxHeartbeats 8000000 in
theorem ck_X9_init_0 (l : Launch) (G : Gl) : Ck l G mX9_init 1 12 234 lay_World sb_X9_init_0 9 [.int 0, .int 0, .int 0, .int 0, .int 0, .int 0, .int 0, .null, .null, .null, .null, .null, .null, .null, .null, .null, .null, .null, .null] [.int 0] := by
  refine ck_of (lvf := fun h0 => [some (.ref h0), some (.int 0)]) rfl (Nat.le_of_ble_eq_true rfl) (by decide +kernel) rfl (fun _ => rfl) (fun ad hA hB => ?_)
  rw [opL_one]
  refine k_aload_n (pc := 0) (dc dl_X9_init 0 rfl) rfl rfl ?_
  refine k_obj (pc := 1) cob_X9_3 cobj.1 cobj.2 (Nat.le_of_ble_eq_true rfl) (Nat.le_of_ble_eq_true rfl) (dc dl_X9_init 1 rfl) ?_
  refine k_aload_n (pc := 4) (dc dl_X9_init 2 rfl) rfl rfl ?_
  refine k_iconst (pc := 5) (v := 0) (dc dl_X9_init 3 rfl) ic_0 ?_
  refine K_put (pc := 6) (i := 0) (fs' := [.int 0, .int 0, .int 0, .int 0, .int 0, .int 0, .int 0, .null, .null, .null, .null, .null, .null, .null, .null, .null, .null, .null, .null]) (L' := [(0, .inr (9, [.int 0, .int 0, .int 0, .int 0, .int 0, .int 0, .int 0, .null, .null, .null, .null, .null, .null, .null, .null, .null, .null, .null, .null]))]) hA (Nat.le_of_ble_eq_true rfl) rfl cfw_X9_9 (by decide) (by decide) (Nat.le_of_ble_eq_true rfl) (dc dl_X9_init 4 rfl) rfl rfl ?_
  refine k_aload_n (pc := 9) (dc dl_X9_init 5 rfl) rfl rfl ?_
  refine k_iconst (pc := 10) (v := 0) (dc dl_X9_init 6 rfl) ic_0 ?_
  refine K_put (pc := 11) (i := 0) (fs' := [.int 0, .int 0, .int 0, .int 0, .int 0, .int 0, .int 0, .null, .null, .null, .null, .null, .null, .null, .null, .null, .null, .null, .null]) (L' := [(0, .inr (9, [.int 0, .int 0, .int 0, .int 0, .int 0, .int 0, .int 0, .null, .null, .null, .null, .null, .null, .null, .null, .null, .null, .null, .null]))]) hA (Nat.le_of_ble_eq_true rfl) rfl cfw_X9_15 (by decide) (by decide) (Nat.le_of_ble_eq_true rfl) (dc dl_X9_init 7 rfl) rfl rfl ?_
  refine k_aload_n (pc := 14) (dc dl_X9_init 8 rfl) rfl rfl ?_
  refine k_iconst (pc := 15) (v := 0) (dc dl_X9_init 9 rfl) ic_0 ?_
  refine K_put (pc := 16) (i := 0) (fs' := [.int 0, .int 0, .int 0, .int 0, .int 0, .int 0, .int 0, .null, .null, .null, .null, .null, .null, .null, .null, .null, .null, .null, .null]) (L' := [(0, .inr (9, [.int 0, .int 0, .int 0, .int 0, .int 0, .int 0, .int 0, .null, .null, .null, .null, .null, .null, .null, .null, .null, .null, .null, .null]))]) hA (Nat.le_of_ble_eq_true rfl) rfl cfw_X9_18 (by decide) (by decide) (Nat.le_of_ble_eq_true rfl) (dc dl_X9_init 10 rfl) rfl rfl ?_
  refine k_aload_n (pc := 19) (dc dl_X9_init 11 rfl) rfl rfl ?_
  refine k_iconst (pc := 20) (v := 0) (dc dl_X9_init 12 rfl) ic_0 ?_
  refine K_put (pc := 21) (i := 0) (fs' := [.int 0, .int 0, .int 0, .int 0, .int 0, .int 0, .int 0, .null, .null, .null, .null, .null, .null, .null, .null, .null, .null, .null, .null]) (L' := [(0, .inr (9, [.int 0, .int 0, .int 0, .int 0, .int 0, .int 0, .int 0, .null, .null, .null, .null, .null, .null, .null, .null, .null, .null, .null, .null]))]) hA (Nat.le_of_ble_eq_true rfl) rfl cfw_X9_21 (by decide) (by decide) (Nat.le_of_ble_eq_true rfl) (dc dl_X9_init 13 rfl) rfl rfl ?_
  refine k_aload_n (pc := 24) (dc dl_X9_init 14 rfl) rfl rfl ?_
  refine k_iconst (pc := 25) (v := 0) (dc dl_X9_init 15 rfl) ic_0 ?_
  refine K_put (pc := 26) (i := 0) (fs' := [.int 0, .int 0, .int 0, .int 0, .int 0, .int 0, .int 0, .null, .null, .null, .null, .null, .null, .null, .null, .null, .null, .null, .null]) (L' := [(0, .inr (9, [.int 0, .int 0, .int 0, .int 0, .int 0, .int 0, .int 0, .null, .null, .null, .null, .null, .null, .null, .null, .null, .null, .null, .null]))]) hA (Nat.le_of_ble_eq_true rfl) rfl cfw_X9_24 (by decide) (by decide) (Nat.le_of_ble_eq_true rfl) (dc dl_X9_init 16 rfl) rfl rfl ?_
  refine k_aload_n (pc := 29) (dc dl_X9_init 17 rfl) rfl rfl ?_
  refine k_iconst (pc := 30) (v := 0) (dc dl_X9_init 18 rfl) ic_0 ?_
  refine K_put (pc := 31) (i := 0) (fs' := [.int 0, .int 0, .int 0, .int 0, .int 0, .int 0, .int 0, .null, .null, .null, .null, .null, .null, .null, .null, .null, .null, .null, .null]) (L' := [(0, .inr (9, [.int 0, .int 0, .int 0, .int 0, .int 0, .int 0, .int 0, .null, .null, .null, .null, .null, .null, .null, .null, .null, .null, .null, .null]))]) hA (Nat.le_of_ble_eq_true rfl) rfl cfw_X9_27 (by decide) (by decide) (Nat.le_of_ble_eq_true rfl) (dc dl_X9_init 19 rfl) rfl rfl ?_
  refine k_aload_n (pc := 34) (dc dl_X9_init 20 rfl) rfl rfl ?_
  refine k_bipush (pc := 35) (v := 12) (dc dl_X9_init 21 rfl) bi_12 ?_
  refine K_newaF (pc := 37) (N := 12) hA (Nat.le_of_ble_eq_true rfl) (by decide) (by decide) (Nat.le_of_ble_eq_true rfl) ⟨Nat.le_of_ble_eq_true rfl, Nat.le_of_ble_eq_true rfl⟩ rfl rfl rfl (dc dl_X9_init 22 rfl) rfl rfl rfl ?_
  refine K_putF (pc := 39) (i := 0) (fs' := [.int 0, .int 0, .int 0, .int 0, .int 0, .int 0, .int 0, .ref (ad 1), .null, .null, .null, .null, .null, .null, .null, .null, .null, .null, .null]) (L' := [(0, .inr (9, [.int 0, .int 0, .int 0, .int 0, .int 0, .int 0, .int 0, .ref (ad 1), .null, .null, .null, .null, .null, .null, .null, .null, .null, .null, .null]))]) hA (Nat.le_of_ble_eq_true rfl) rfl cfx_X9_30 (by rfl) (by rfl) (Nat.le_of_ble_eq_true rfl) (dc dl_X9_init 23 rfl) rfl rfl ?_
  refine k_aload_n (pc := 42) (dc dl_X9_init 24 rfl) rfl rfl ?_
  refine k_bipush (pc := 43) (v := 12) (dc dl_X9_init 25 rfl) bi_12 ?_
  refine K_newaF (pc := 45) (N := 12) hA (Nat.le_of_ble_eq_true rfl) (by decide) (by decide) (Nat.le_of_ble_eq_true rfl) ⟨Nat.le_of_ble_eq_true rfl, Nat.le_of_ble_eq_true rfl⟩ rfl rfl rfl (dc dl_X9_init 26 rfl) rfl rfl rfl ?_
  refine K_putF (pc := 47) (i := 0) (fs' := [.int 0, .int 0, .int 0, .int 0, .int 0, .int 0, .int 0, .ref (ad 1), .ref (ad 2), .null, .null, .null, .null, .null, .null, .null, .null, .null, .null]) (L' := [(0, .inr (9, [.int 0, .int 0, .int 0, .int 0, .int 0, .int 0, .int 0, .ref (ad 1), .ref (ad 2), .null, .null, .null, .null, .null, .null, .null, .null, .null, .null]))]) hA (Nat.le_of_ble_eq_true rfl) rfl cfx_X9_34 (by rfl) (by rfl) (Nat.le_of_ble_eq_true rfl) (dc dl_X9_init 27 rfl) rfl rfl ?_
  refine k_aload_n (pc := 50) (dc dl_X9_init 28 rfl) rfl rfl ?_
  refine k_bipush (pc := 51) (v := 12) (dc dl_X9_init 29 rfl) bi_12 ?_
  refine K_newaF (pc := 53) (N := 12) hA (Nat.le_of_ble_eq_true rfl) (by decide) (by decide) (Nat.le_of_ble_eq_true rfl) ⟨Nat.le_of_ble_eq_true rfl, Nat.le_of_ble_eq_true rfl⟩ rfl rfl rfl (dc dl_X9_init 30 rfl) rfl rfl rfl ?_
  refine K_putF (pc := 55) (i := 0) (fs' := [.int 0, .int 0, .int 0, .int 0, .int 0, .int 0, .int 0, .ref (ad 1), .ref (ad 2), .ref (ad 3), .null, .null, .null, .null, .null, .null, .null, .null, .null]) (L' := [(0, .inr (9, [.int 0, .int 0, .int 0, .int 0, .int 0, .int 0, .int 0, .ref (ad 1), .ref (ad 2), .ref (ad 3), .null, .null, .null, .null, .null, .null, .null, .null, .null]))]) hA (Nat.le_of_ble_eq_true rfl) rfl cfx_X9_37 (by rfl) (by rfl) (Nat.le_of_ble_eq_true rfl) (dc dl_X9_init 31 rfl) rfl rfl ?_
  refine k_aload_n (pc := 58) (dc dl_X9_init 32 rfl) rfl rfl ?_
  refine k_bipush (pc := 59) (v := 14) (dc dl_X9_init 33 rfl) bi_14 ?_
  refine K_newaF (pc := 61) (N := 14) hA (Nat.le_of_ble_eq_true rfl) (by decide) (by decide) (Nat.le_of_ble_eq_true rfl) ⟨Nat.le_of_ble_eq_true rfl, Nat.le_of_ble_eq_true rfl⟩ rfl rfl rfl (dc dl_X9_init 34 rfl) rfl rfl rfl ?_
  refine K_putF (pc := 63) (i := 0) (fs' := [.int 0, .int 0, .int 0, .int 0, .int 0, .int 0, .int 0, .ref (ad 1), .ref (ad 2), .ref (ad 3), .ref (ad 4), .null, .null, .null, .null, .null, .null, .null, .null]) (L' := [(0, .inr (9, [.int 0, .int 0, .int 0, .int 0, .int 0, .int 0, .int 0, .ref (ad 1), .ref (ad 2), .ref (ad 3), .ref (ad 4), .null, .null, .null, .null, .null, .null, .null, .null]))]) hA (Nat.le_of_ble_eq_true rfl) rfl cfx_X9_40 (by rfl) (by rfl) (Nat.le_of_ble_eq_true rfl) (dc dl_X9_init 35 rfl) rfl rfl ?_
  refine k_aload_n (pc := 66) (dc dl_X9_init 36 rfl) rfl rfl ?_
  refine k_bipush (pc := 67) (v := 14) (dc dl_X9_init 37 rfl) bi_14 ?_
  refine K_newaF (pc := 69) (N := 14) hA (Nat.le_of_ble_eq_true rfl) (by decide) (by decide) (Nat.le_of_ble_eq_true rfl) ⟨Nat.le_of_ble_eq_true rfl, Nat.le_of_ble_eq_true rfl⟩ rfl rfl rfl (dc dl_X9_init 38 rfl) rfl rfl rfl ?_
  refine K_putF (pc := 71) (i := 0) (fs' := [.int 0, .int 0, .int 0, .int 0, .int 0, .int 0, .int 0, .ref (ad 1), .ref (ad 2), .ref (ad 3), .ref (ad 4), .ref (ad 5), .null, .null, .null, .null, .null, .null, .null]) (L' := [(0, .inr (9, [.int 0, .int 0, .int 0, .int 0, .int 0, .int 0, .int 0, .ref (ad 1), .ref (ad 2), .ref (ad 3), .ref (ad 4), .ref (ad 5), .null, .null, .null, .null, .null, .null, .null]))]) hA (Nat.le_of_ble_eq_true rfl) rfl cfx_X9_43 (by rfl) (by rfl) (Nat.le_of_ble_eq_true rfl) (dc dl_X9_init 39 rfl) rfl rfl ?_
  refine k_aload_n (pc := 74) (dc dl_X9_init 40 rfl) rfl rfl ?_
  refine k_bipush (pc := 75) (v := 14) (dc dl_X9_init 41 rfl) bi_14 ?_
  refine K_newaF (pc := 77) (N := 14) hA (Nat.le_of_ble_eq_true rfl) (by decide) (by decide) (Nat.le_of_ble_eq_true rfl) ⟨Nat.le_of_ble_eq_true rfl, Nat.le_of_ble_eq_true rfl⟩ rfl rfl rfl (dc dl_X9_init 42 rfl) rfl rfl rfl ?_
  refine K_putF (pc := 79) (i := 0) (fs' := [.int 0, .int 0, .int 0, .int 0, .int 0, .int 0, .int 0, .ref (ad 1), .ref (ad 2), .ref (ad 3), .ref (ad 4), .ref (ad 5), .ref (ad 6), .null, .null, .null, .null, .null, .null]) (L' := [(0, .inr (9, [.int 0, .int 0, .int 0, .int 0, .int 0, .int 0, .int 0, .ref (ad 1), .ref (ad 2), .ref (ad 3), .ref (ad 4), .ref (ad 5), .ref (ad 6), .null, .null, .null, .null, .null, .null]))]) hA (Nat.le_of_ble_eq_true rfl) rfl cfx_X9_46 (by rfl) (by rfl) (Nat.le_of_ble_eq_true rfl) (dc dl_X9_init 43 rfl) rfl rfl ?_
  refine k_aload_n (pc := 82) (dc dl_X9_init 44 rfl) rfl rfl ?_
  refine k_bipush (pc := 83) (v := 56) (dc dl_X9_init 45 rfl) bi_56 ?_
  refine K_newaF (pc := 85) (N := 56) hA (Nat.le_of_ble_eq_true rfl) (by decide) (by decide) (Nat.le_of_ble_eq_true rfl) ⟨Nat.le_of_ble_eq_true rfl, Nat.le_of_ble_eq_true rfl⟩ rfl rfl rfl (dc dl_X9_init 46 rfl) rfl rfl rfl ?_
  refine K_putF (pc := 87) (i := 0) (fs' := [.int 0, .int 0, .int 0, .int 0, .int 0, .int 0, .int 0, .ref (ad 1), .ref (ad 2), .ref (ad 3), .ref (ad 4), .ref (ad 5), .ref (ad 6), .ref (ad 7), .null, .null, .null, .null, .null]) (L' := [(0, .inr (9, [.int 0, .int 0, .int 0, .int 0, .int 0, .int 0, .int 0, .ref (ad 1), .ref (ad 2), .ref (ad 3), .ref (ad 4), .ref (ad 5), .ref (ad 6), .ref (ad 7), .null, .null, .null, .null, .null]))]) hA (Nat.le_of_ble_eq_true rfl) rfl cfx_X9_49 (by rfl) (by rfl) (Nat.le_of_ble_eq_true rfl) (dc dl_X9_init 47 rfl) rfl rfl ?_
  refine k_aload_n (pc := 90) (dc dl_X9_init 48 rfl) rfl rfl ?_
  refine k_bipush (pc := 91) (v := 20) (dc dl_X9_init 49 rfl) bi_20 ?_
  refine K_newaF (pc := 93) (N := 20) hA (Nat.le_of_ble_eq_true rfl) (by decide) (by decide) (Nat.le_of_ble_eq_true rfl) ⟨Nat.le_of_ble_eq_true rfl, Nat.le_of_ble_eq_true rfl⟩ rfl rfl rfl (dc dl_X9_init 50 rfl) rfl rfl rfl ?_
  refine K_putF (pc := 95) (i := 0) (fs' := [.int 0, .int 0, .int 0, .int 0, .int 0, .int 0, .int 0, .ref (ad 1), .ref (ad 2), .ref (ad 3), .ref (ad 4), .ref (ad 5), .ref (ad 6), .ref (ad 7), .ref (ad 8), .null, .null, .null, .null]) (L' := [(0, .inr (9, [.int 0, .int 0, .int 0, .int 0, .int 0, .int 0, .int 0, .ref (ad 1), .ref (ad 2), .ref (ad 3), .ref (ad 4), .ref (ad 5), .ref (ad 6), .ref (ad 7), .ref (ad 8), .null, .null, .null, .null]))]) hA (Nat.le_of_ble_eq_true rfl) rfl cfx_X9_52 (by rfl) (by rfl) (Nat.le_of_ble_eq_true rfl) (dc dl_X9_init 51 rfl) rfl rfl ?_
  refine k_aload_n (pc := 98) (dc dl_X9_init 52 rfl) rfl rfl ?_
  refine k_bipush (pc := 99) (v := 20) (dc dl_X9_init 53 rfl) bi_20 ?_
  refine K_newaF (pc := 101) (N := 20) hA (Nat.le_of_ble_eq_true rfl) (by decide) (by decide) (Nat.le_of_ble_eq_true rfl) ⟨Nat.le_of_ble_eq_true rfl, Nat.le_of_ble_eq_true rfl⟩ rfl rfl rfl (dc dl_X9_init 54 rfl) rfl rfl rfl ?_
  refine K_putF (pc := 103) (i := 0) (fs' := [.int 0, .int 0, .int 0, .int 0, .int 0, .int 0, .int 0, .ref (ad 1), .ref (ad 2), .ref (ad 3), .ref (ad 4), .ref (ad 5), .ref (ad 6), .ref (ad 7), .ref (ad 8), .ref (ad 9), .null, .null, .null]) (L' := [(0, .inr (9, [.int 0, .int 0, .int 0, .int 0, .int 0, .int 0, .int 0, .ref (ad 1), .ref (ad 2), .ref (ad 3), .ref (ad 4), .ref (ad 5), .ref (ad 6), .ref (ad 7), .ref (ad 8), .ref (ad 9), .null, .null, .null]))]) hA (Nat.le_of_ble_eq_true rfl) rfl cfx_X9_55 (by rfl) (by rfl) (Nat.le_of_ble_eq_true rfl) (dc dl_X9_init 55 rfl) rfl rfl ?_
  refine k_aload_n (pc := 106) (dc dl_X9_init 56 rfl) rfl rfl ?_
  refine k_bipush (pc := 107) (v := 20) (dc dl_X9_init 57 rfl) bi_20 ?_
  refine K_newaF (pc := 109) (N := 20) hA (Nat.le_of_ble_eq_true rfl) (by decide) (by decide) (Nat.le_of_ble_eq_true rfl) ⟨Nat.le_of_ble_eq_true rfl, Nat.le_of_ble_eq_true rfl⟩ rfl rfl rfl (dc dl_X9_init 58 rfl) rfl rfl rfl ?_
  refine K_putF (pc := 111) (i := 0) (fs' := [.int 0, .int 0, .int 0, .int 0, .int 0, .int 0, .int 0, .ref (ad 1), .ref (ad 2), .ref (ad 3), .ref (ad 4), .ref (ad 5), .ref (ad 6), .ref (ad 7), .ref (ad 8), .ref (ad 9), .ref (ad 10), .null, .null]) (L' := [(0, .inr (9, [.int 0, .int 0, .int 0, .int 0, .int 0, .int 0, .int 0, .ref (ad 1), .ref (ad 2), .ref (ad 3), .ref (ad 4), .ref (ad 5), .ref (ad 6), .ref (ad 7), .ref (ad 8), .ref (ad 9), .ref (ad 10), .null, .null]))]) hA (Nat.le_of_ble_eq_true rfl) rfl cfx_X9_58 (by rfl) (by rfl) (Nat.le_of_ble_eq_true rfl) (dc dl_X9_init 59 rfl) rfl rfl ?_
  refine k_aload_n (pc := 114) (dc dl_X9_init 60 rfl) rfl rfl ?_
  refine k_bipush (pc := 115) (v := 20) (dc dl_X9_init 61 rfl) bi_20 ?_
  refine K_newaF (pc := 117) (N := 20) hA (Nat.le_of_ble_eq_true rfl) (by decide) (by decide) (Nat.le_of_ble_eq_true rfl) ⟨Nat.le_of_ble_eq_true rfl, Nat.le_of_ble_eq_true rfl⟩ rfl rfl rfl (dc dl_X9_init 62 rfl) rfl rfl rfl ?_
  refine K_putF (pc := 119) (i := 0) (fs' := [.int 0, .int 0, .int 0, .int 0, .int 0, .int 0, .int 0, .ref (ad 1), .ref (ad 2), .ref (ad 3), .ref (ad 4), .ref (ad 5), .ref (ad 6), .ref (ad 7), .ref (ad 8), .ref (ad 9), .ref (ad 10), .ref (ad 11), .null]) (L' := [(0, .inr (9, [.int 0, .int 0, .int 0, .int 0, .int 0, .int 0, .int 0, .ref (ad 1), .ref (ad 2), .ref (ad 3), .ref (ad 4), .ref (ad 5), .ref (ad 6), .ref (ad 7), .ref (ad 8), .ref (ad 9), .ref (ad 10), .ref (ad 11), .null]))]) hA (Nat.le_of_ble_eq_true rfl) rfl cfx_X9_61 (by rfl) (by rfl) (Nat.le_of_ble_eq_true rfl) (dc dl_X9_init 63 rfl) rfl rfl ?_
  refine k_aload_n (pc := 122) (dc dl_X9_init 64 rfl) rfl rfl ?_
  refine k_bipush (pc := 123) (v := 20) (dc dl_X9_init 65 rfl) bi_20 ?_
  refine K_newaF (pc := 125) (N := 20) hA (Nat.le_of_ble_eq_true rfl) (by decide) (by decide) (Nat.le_of_ble_eq_true rfl) ⟨Nat.le_of_ble_eq_true rfl, Nat.le_of_ble_eq_true rfl⟩ rfl rfl rfl (dc dl_X9_init 66 rfl) rfl rfl rfl ?_
  refine K_putF (pc := 127) (i := 0) (fs' := [.int 0, .int 0, .int 0, .int 0, .int 0, .int 0, .int 0, .ref (ad 1), .ref (ad 2), .ref (ad 3), .ref (ad 4), .ref (ad 5), .ref (ad 6), .ref (ad 7), .ref (ad 8), .ref (ad 9), .ref (ad 10), .ref (ad 11), .ref (ad 12)]) (L' := [(0, .inr (9, [.int 0, .int 0, .int 0, .int 0, .int 0, .int 0, .int 0, .ref (ad 1), .ref (ad 2), .ref (ad 3), .ref (ad 4), .ref (ad 5), .ref (ad 6), .ref (ad 7), .ref (ad 8), .ref (ad 9), .ref (ad 10), .ref (ad 11), .ref (ad 12)]))]) hA (Nat.le_of_ble_eq_true rfl) rfl cfx_X9_64 (by rfl) (by rfl) (Nat.le_of_ble_eq_true rfl) (dc dl_X9_init 67 rfl) rfl rfl ?_
  refine k_aload_n (pc := 130) (dc dl_X9_init 68 rfl) rfl rfl ?_
  refine k_iload_n (pc := 131) (dc dl_X9_init 69 rfl) rfl rfl ?_
  refine K_putF (pc := 132) (i := 0) (fs' := [.int 0, .int 0, .int 0, .int 0, .int 0, .int 0, .int 0, .ref (ad 1), .ref (ad 2), .ref (ad 3), .ref (ad 4), .ref (ad 5), .ref (ad 6), .ref (ad 7), .ref (ad 8), .ref (ad 9), .ref (ad 10), .ref (ad 11), .ref (ad 12)]) (L' := [(0, .inr (9, [.int 0, .int 0, .int 0, .int 0, .int 0, .int 0, .int 0, .ref (ad 1), .ref (ad 2), .ref (ad 3), .ref (ad 4), .ref (ad 5), .ref (ad 6), .ref (ad 7), .ref (ad 8), .ref (ad 9), .ref (ad 10), .ref (ad 11), .ref (ad 12)]))]) hA (Nat.le_of_ble_eq_true rfl) rfl cfx_X9_67 (by decide) (by decide) (Nat.le_of_ble_eq_true rfl) (dc dl_X9_init 70 rfl) rfl rfl ?_
  exact K_ret (pc := 135) rfl rfl rfl (dc dl_X9_init 71 rfl)
def sb_X0_init : Bk := fun i => ([List.replicate 1 0,
  List.replicate 600 0] : List (List Int32)).getD i []
set_option maxRecDepth 100000 in
set_option maxHeartbeats 8000000 in
theorem ck_X0_init (l : Launch) (G : Gl) : Ck l G mX0_init 1 1 600 lay_Book sb_X0_init 0 [.null] [] := by
  refine ck_of (lvf := fun h0 => [some (.ref h0)]) rfl (Nat.le_of_ble_eq_true rfl) (by decide +kernel) rfl (fun _ => rfl) (fun ad hA hB => ?_)
  rw [opL_one]
  refine k_aload_n (pc := 0) (dc dl_X0_init 0 rfl) rfl rfl ?_
  refine k_obj (pc := 1) cob_X0_3 cobj.1 cobj.2 (Nat.le_of_ble_eq_true rfl) (Nat.le_of_ble_eq_true rfl) (dc dl_X0_init 1 rfl) ?_
  refine k_aload_n (pc := 4) (dc dl_X0_init 2 rfl) rfl rfl ?_
  refine k_sipush (pc := 5) (v := 600) (dc dl_X0_init 3 rfl) si_600 ?_
  refine K_newaF (pc := 8) (N := 600) hA (Nat.le_of_ble_eq_true rfl) (by decide) (by decide) (Nat.le_of_ble_eq_true rfl) ⟨Nat.le_of_ble_eq_true rfl, Nat.le_of_ble_eq_true rfl⟩ rfl rfl rfl (dc dl_X0_init 4 rfl) rfl rfl rfl ?_
  refine K_putF (pc := 10) (i := 0) (fs' := [.ref (ad 1)]) (L' := [(0, .inr (0, [.ref (ad 1)]))]) hA (Nat.le_of_ble_eq_true rfl) rfl cfx_X0_9 (by rfl) (by rfl) (Nat.le_of_ble_eq_true rfl) (dc dl_X0_init 5 rfl) rfl rfl ?_
  exact K_ret (pc := 13) rfl rfl rfl (dc dl_X0_init 6 rfl)
def sb_X2_init : Bk := fun i => ([List.replicate 8 0,
  List.replicate 16 0,
  List.replicate 16 0,
  List.replicate 16 0,
  List.replicate 16 0,
  List.replicate 400 0,
  List.replicate 400 0] : List (List Int32)).getD i []
set_option maxRecDepth 100000 in
set_option maxHeartbeats 8000000 in
theorem ck_X2_init (l : Launch) (G : Gl) : Ck l G mX2_init 1 6 864 lay_Law sb_X2_init 2 [.int 0, .int 0, .null, .null, .null, .null, .null, .null] [] := by
  refine ck_of (lvf := fun h0 => [some (.ref h0)]) rfl (Nat.le_of_ble_eq_true rfl) (by decide +kernel) rfl (fun _ => rfl) (fun ad hA hB => ?_)
  rw [opL_one]
  refine k_aload_n (pc := 0) (dc dl_X2_init 0 rfl) rfl rfl ?_
  refine k_obj (pc := 1) cob_X2_3 cobj.1 cobj.2 (Nat.le_of_ble_eq_true rfl) (Nat.le_of_ble_eq_true rfl) (dc dl_X2_init 1 rfl) ?_
  refine k_aload_n (pc := 4) (dc dl_X2_init 2 rfl) rfl rfl ?_
  refine k_iconst (pc := 5) (v := 0) (dc dl_X2_init 3 rfl) ic_0 ?_
  refine K_put (pc := 6) (i := 0) (fs' := [.int 0, .int 0, .null, .null, .null, .null, .null, .null]) (L' := [(0, .inr (2, [.int 0, .int 0, .null, .null, .null, .null, .null, .null]))]) hA (Nat.le_of_ble_eq_true rfl) rfl cfw_X2_9 (by decide) (by decide) (Nat.le_of_ble_eq_true rfl) (dc dl_X2_init 4 rfl) rfl rfl ?_
  refine k_aload_n (pc := 9) (dc dl_X2_init 5 rfl) rfl rfl ?_
  refine k_iconst (pc := 10) (v := 0) (dc dl_X2_init 6 rfl) ic_0 ?_
  refine K_put (pc := 11) (i := 0) (fs' := [.int 0, .int 0, .null, .null, .null, .null, .null, .null]) (L' := [(0, .inr (2, [.int 0, .int 0, .null, .null, .null, .null, .null, .null]))]) hA (Nat.le_of_ble_eq_true rfl) rfl cfw_X2_15 (by decide) (by decide) (Nat.le_of_ble_eq_true rfl) (dc dl_X2_init 7 rfl) rfl rfl ?_
  refine k_aload_n (pc := 14) (dc dl_X2_init 8 rfl) rfl rfl ?_
  refine k_bipush (pc := 15) (v := 16) (dc dl_X2_init 9 rfl) bi_16 ?_
  refine K_newaF (pc := 17) (N := 16) hA (Nat.le_of_ble_eq_true rfl) (by decide) (by decide) (Nat.le_of_ble_eq_true rfl) ⟨Nat.le_of_ble_eq_true rfl, Nat.le_of_ble_eq_true rfl⟩ rfl rfl rfl (dc dl_X2_init 10 rfl) rfl rfl rfl ?_
  refine K_putF (pc := 19) (i := 0) (fs' := [.int 0, .int 0, .ref (ad 1), .null, .null, .null, .null, .null]) (L' := [(0, .inr (2, [.int 0, .int 0, .ref (ad 1), .null, .null, .null, .null, .null]))]) hA (Nat.le_of_ble_eq_true rfl) rfl cfx_X2_18 (by rfl) (by rfl) (Nat.le_of_ble_eq_true rfl) (dc dl_X2_init 11 rfl) rfl rfl ?_
  refine k_aload_n (pc := 22) (dc dl_X2_init 12 rfl) rfl rfl ?_
  refine k_bipush (pc := 23) (v := 16) (dc dl_X2_init 13 rfl) bi_16 ?_
  refine K_newaF (pc := 25) (N := 16) hA (Nat.le_of_ble_eq_true rfl) (by decide) (by decide) (Nat.le_of_ble_eq_true rfl) ⟨Nat.le_of_ble_eq_true rfl, Nat.le_of_ble_eq_true rfl⟩ rfl rfl rfl (dc dl_X2_init 14 rfl) rfl rfl rfl ?_
  refine K_putF (pc := 27) (i := 0) (fs' := [.int 0, .int 0, .ref (ad 1), .ref (ad 2), .null, .null, .null, .null]) (L' := [(0, .inr (2, [.int 0, .int 0, .ref (ad 1), .ref (ad 2), .null, .null, .null, .null]))]) hA (Nat.le_of_ble_eq_true rfl) rfl cfx_X2_22 (by rfl) (by rfl) (Nat.le_of_ble_eq_true rfl) (dc dl_X2_init 15 rfl) rfl rfl ?_
  refine k_aload_n (pc := 30) (dc dl_X2_init 16 rfl) rfl rfl ?_
  refine k_bipush (pc := 31) (v := 16) (dc dl_X2_init 17 rfl) bi_16 ?_
  refine K_newaF (pc := 33) (N := 16) hA (Nat.le_of_ble_eq_true rfl) (by decide) (by decide) (Nat.le_of_ble_eq_true rfl) ⟨Nat.le_of_ble_eq_true rfl, Nat.le_of_ble_eq_true rfl⟩ rfl rfl rfl (dc dl_X2_init 18 rfl) rfl rfl rfl ?_
  refine K_putF (pc := 35) (i := 0) (fs' := [.int 0, .int 0, .ref (ad 1), .ref (ad 2), .ref (ad 3), .null, .null, .null]) (L' := [(0, .inr (2, [.int 0, .int 0, .ref (ad 1), .ref (ad 2), .ref (ad 3), .null, .null, .null]))]) hA (Nat.le_of_ble_eq_true rfl) rfl cfx_X2_25 (by rfl) (by rfl) (Nat.le_of_ble_eq_true rfl) (dc dl_X2_init 19 rfl) rfl rfl ?_
  refine k_aload_n (pc := 38) (dc dl_X2_init 20 rfl) rfl rfl ?_
  refine k_bipush (pc := 39) (v := 16) (dc dl_X2_init 21 rfl) bi_16 ?_
  refine K_newaF (pc := 41) (N := 16) hA (Nat.le_of_ble_eq_true rfl) (by decide) (by decide) (Nat.le_of_ble_eq_true rfl) ⟨Nat.le_of_ble_eq_true rfl, Nat.le_of_ble_eq_true rfl⟩ rfl rfl rfl (dc dl_X2_init 22 rfl) rfl rfl rfl ?_
  refine K_putF (pc := 43) (i := 0) (fs' := [.int 0, .int 0, .ref (ad 1), .ref (ad 2), .ref (ad 3), .ref (ad 4), .null, .null]) (L' := [(0, .inr (2, [.int 0, .int 0, .ref (ad 1), .ref (ad 2), .ref (ad 3), .ref (ad 4), .null, .null]))]) hA (Nat.le_of_ble_eq_true rfl) rfl cfx_X2_28 (by rfl) (by rfl) (Nat.le_of_ble_eq_true rfl) (dc dl_X2_init 23 rfl) rfl rfl ?_
  refine k_aload_n (pc := 46) (dc dl_X2_init 24 rfl) rfl rfl ?_
  refine k_sipush (pc := 47) (v := 400) (dc dl_X2_init 25 rfl) si_400 ?_
  refine K_newaF (pc := 50) (N := 400) hA (Nat.le_of_ble_eq_true rfl) (by decide) (by decide) (Nat.le_of_ble_eq_true rfl) ⟨Nat.le_of_ble_eq_true rfl, Nat.le_of_ble_eq_true rfl⟩ rfl rfl rfl (dc dl_X2_init 26 rfl) rfl rfl rfl ?_
  refine K_putF (pc := 52) (i := 0) (fs' := [.int 0, .int 0, .ref (ad 1), .ref (ad 2), .ref (ad 3), .ref (ad 4), .ref (ad 5), .null]) (L' := [(0, .inr (2, [.int 0, .int 0, .ref (ad 1), .ref (ad 2), .ref (ad 3), .ref (ad 4), .ref (ad 5), .null]))]) hA (Nat.le_of_ble_eq_true rfl) rfl cfx_X2_31 (by rfl) (by rfl) (Nat.le_of_ble_eq_true rfl) (dc dl_X2_init 27 rfl) rfl rfl ?_
  refine k_aload_n (pc := 55) (dc dl_X2_init 28 rfl) rfl rfl ?_
  refine k_sipush (pc := 56) (v := 400) (dc dl_X2_init 29 rfl) si_400 ?_
  refine K_newaF (pc := 59) (N := 400) hA (Nat.le_of_ble_eq_true rfl) (by decide) (by decide) (Nat.le_of_ble_eq_true rfl) ⟨Nat.le_of_ble_eq_true rfl, Nat.le_of_ble_eq_true rfl⟩ rfl rfl rfl (dc dl_X2_init 30 rfl) rfl rfl rfl ?_
  refine K_putF (pc := 61) (i := 0) (fs' := [.int 0, .int 0, .ref (ad 1), .ref (ad 2), .ref (ad 3), .ref (ad 4), .ref (ad 5), .ref (ad 6)]) (L' := [(0, .inr (2, [.int 0, .int 0, .ref (ad 1), .ref (ad 2), .ref (ad 3), .ref (ad 4), .ref (ad 5), .ref (ad 6)]))]) hA (Nat.le_of_ble_eq_true rfl) rfl cfx_X2_34 (by rfl) (by rfl) (Nat.le_of_ble_eq_true rfl) (dc dl_X2_init 31 rfl) rfl rfl ?_
  exact K_ret (pc := 64) rfl rfl rfl (dc dl_X2_init 32 rfl)
def sb_X5_init : Bk := fun i => ([List.replicate 5 0,
  List.replicate 16 0,
  List.replicate 16 0,
  List.replicate 16 0,
  List.replicate 16 0] : List (List Int32)).getD i []
set_option maxRecDepth 100000 in
set_option maxHeartbeats 8000000 in
theorem ck_X5_init (l : Launch) (G : Gl) : Ck l G mX5_init 1 4 64 lay_Lines sb_X5_init 5 [.int 0, .null, .null, .null, .null] [] := by
  refine ck_of (lvf := fun h0 => [some (.ref h0)]) rfl (Nat.le_of_ble_eq_true rfl) (by decide +kernel) rfl (fun _ => rfl) (fun ad hA hB => ?_)
  rw [opL_one]
  refine k_aload_n (pc := 0) (dc dl_X5_init 0 rfl) rfl rfl ?_
  refine k_obj (pc := 1) cob_X5_3 cobj.1 cobj.2 (Nat.le_of_ble_eq_true rfl) (Nat.le_of_ble_eq_true rfl) (dc dl_X5_init 1 rfl) ?_
  refine k_aload_n (pc := 4) (dc dl_X5_init 2 rfl) rfl rfl ?_
  refine k_iconst (pc := 5) (v := 0) (dc dl_X5_init 3 rfl) ic_0 ?_
  refine K_put (pc := 6) (i := 0) (fs' := [.int 0, .null, .null, .null, .null]) (L' := [(0, .inr (5, [.int 0, .null, .null, .null, .null]))]) hA (Nat.le_of_ble_eq_true rfl) rfl cfw_X5_9 (by decide) (by decide) (Nat.le_of_ble_eq_true rfl) (dc dl_X5_init 4 rfl) rfl rfl ?_
  refine k_aload_n (pc := 9) (dc dl_X5_init 5 rfl) rfl rfl ?_
  refine k_bipush (pc := 10) (v := 16) (dc dl_X5_init 6 rfl) bi_16 ?_
  refine K_newaF (pc := 12) (N := 16) hA (Nat.le_of_ble_eq_true rfl) (by decide) (by decide) (Nat.le_of_ble_eq_true rfl) ⟨Nat.le_of_ble_eq_true rfl, Nat.le_of_ble_eq_true rfl⟩ rfl rfl rfl (dc dl_X5_init 7 rfl) rfl rfl rfl ?_
  refine K_putF (pc := 14) (i := 0) (fs' := [.int 0, .ref (ad 1), .null, .null, .null]) (L' := [(0, .inr (5, [.int 0, .ref (ad 1), .null, .null, .null]))]) hA (Nat.le_of_ble_eq_true rfl) rfl cfx_X5_15 (by rfl) (by rfl) (Nat.le_of_ble_eq_true rfl) (dc dl_X5_init 8 rfl) rfl rfl ?_
  refine k_aload_n (pc := 17) (dc dl_X5_init 9 rfl) rfl rfl ?_
  refine k_bipush (pc := 18) (v := 16) (dc dl_X5_init 10 rfl) bi_16 ?_
  refine K_newaF (pc := 20) (N := 16) hA (Nat.le_of_ble_eq_true rfl) (by decide) (by decide) (Nat.le_of_ble_eq_true rfl) ⟨Nat.le_of_ble_eq_true rfl, Nat.le_of_ble_eq_true rfl⟩ rfl rfl rfl (dc dl_X5_init 11 rfl) rfl rfl rfl ?_
  refine K_putF (pc := 22) (i := 0) (fs' := [.int 0, .ref (ad 1), .ref (ad 2), .null, .null]) (L' := [(0, .inr (5, [.int 0, .ref (ad 1), .ref (ad 2), .null, .null]))]) hA (Nat.le_of_ble_eq_true rfl) rfl cfx_X5_19 (by rfl) (by rfl) (Nat.le_of_ble_eq_true rfl) (dc dl_X5_init 12 rfl) rfl rfl ?_
  refine k_aload_n (pc := 25) (dc dl_X5_init 13 rfl) rfl rfl ?_
  refine k_bipush (pc := 26) (v := 16) (dc dl_X5_init 14 rfl) bi_16 ?_
  refine K_newaF (pc := 28) (N := 16) hA (Nat.le_of_ble_eq_true rfl) (by decide) (by decide) (Nat.le_of_ble_eq_true rfl) ⟨Nat.le_of_ble_eq_true rfl, Nat.le_of_ble_eq_true rfl⟩ rfl rfl rfl (dc dl_X5_init 15 rfl) rfl rfl rfl ?_
  refine K_putF (pc := 30) (i := 0) (fs' := [.int 0, .ref (ad 1), .ref (ad 2), .ref (ad 3), .null]) (L' := [(0, .inr (5, [.int 0, .ref (ad 1), .ref (ad 2), .ref (ad 3), .null]))]) hA (Nat.le_of_ble_eq_true rfl) rfl cfx_X5_22 (by rfl) (by rfl) (Nat.le_of_ble_eq_true rfl) (dc dl_X5_init 16 rfl) rfl rfl ?_
  refine k_aload_n (pc := 33) (dc dl_X5_init 17 rfl) rfl rfl ?_
  refine k_bipush (pc := 34) (v := 16) (dc dl_X5_init 18 rfl) bi_16 ?_
  refine K_newaF (pc := 36) (N := 16) hA (Nat.le_of_ble_eq_true rfl) (by decide) (by decide) (Nat.le_of_ble_eq_true rfl) ⟨Nat.le_of_ble_eq_true rfl, Nat.le_of_ble_eq_true rfl⟩ rfl rfl rfl (dc dl_X5_init 19 rfl) rfl rfl rfl ?_
  refine K_putF (pc := 38) (i := 0) (fs' := [.int 0, .ref (ad 1), .ref (ad 2), .ref (ad 3), .ref (ad 4)]) (L' := [(0, .inr (5, [.int 0, .ref (ad 1), .ref (ad 2), .ref (ad 3), .ref (ad 4)]))]) hA (Nat.le_of_ble_eq_true rfl) rfl cfx_X5_25 (by rfl) (by rfl) (Nat.le_of_ble_eq_true rfl) (dc dl_X5_init 20 rfl) rfl rfl ?_
  exact K_ret (pc := 41) rfl rfl rfl (dc dl_X5_init 21 rfl)
def sb_X8_init_12 : Bk := fun i => ([List.replicate 2 0,
  List.replicate 12 0] : List (List Int32)).getD i []
set_option maxRecDepth 100000 in
set_option maxHeartbeats 8000000 in
theorem ck_X8_init_12 (l : Launch) (G : Gl) : Ck l G mX8_init 1 1 12 lay_Told sb_X8_init_12 8 [.int 0, .null] [.int 12] := by
  refine ck_of (lvf := fun h0 => [some (.ref h0), some (.int 12)]) rfl (Nat.le_of_ble_eq_true rfl) (by decide +kernel) rfl (fun _ => rfl) (fun ad hA hB => ?_)
  rw [opL_one]
  refine k_aload_n (pc := 0) (dc dl_X8_init 0 rfl) rfl rfl ?_
  refine k_obj (pc := 1) cob_X8_3 cobj.1 cobj.2 (Nat.le_of_ble_eq_true rfl) (Nat.le_of_ble_eq_true rfl) (dc dl_X8_init 1 rfl) ?_
  refine k_aload_n (pc := 4) (dc dl_X8_init 2 rfl) rfl rfl ?_
  refine k_iconst (pc := 5) (v := 0) (dc dl_X8_init 3 rfl) ic_0 ?_
  refine K_put (pc := 6) (i := 0) (fs' := [.int 0, .null]) (L' := [(0, .inr (8, [.int 0, .null]))]) hA (Nat.le_of_ble_eq_true rfl) rfl cfw_X8_9 (by decide) (by decide) (Nat.le_of_ble_eq_true rfl) (dc dl_X8_init 4 rfl) rfl rfl ?_
  refine k_aload_n (pc := 9) (dc dl_X8_init 5 rfl) rfl rfl ?_
  refine k_iload_n (pc := 10) (dc dl_X8_init 6 rfl) rfl rfl ?_
  refine k_iconst (pc := 11) (v := 0) (dc dl_X8_init 7 rfl) ic_0 ?_
  refine k_max (pc := 12) (v := 12) cml_X8_15 cmax.1 cmax.2.1 cmax.2.2 (Nat.le_of_ble_eq_true rfl) ⟨Nat.le_of_ble_eq_true rfl, Nat.le_of_ble_eq_true rfl⟩ (Nat.le_of_ble_eq_true rfl) (by decide) (dc dl_X8_init 8 rfl) ?_
  refine K_newaF (pc := 15) (N := 12) hA (Nat.le_of_ble_eq_true rfl) (by decide) (by decide) (Nat.le_of_ble_eq_true rfl) ⟨Nat.le_of_ble_eq_true rfl, Nat.le_of_ble_eq_true rfl⟩ rfl rfl rfl (dc dl_X8_init 9 rfl) rfl rfl rfl ?_
  refine K_putF (pc := 17) (i := 0) (fs' := [.int 0, .ref (ad 1)]) (L' := [(0, .inr (8, [.int 0, .ref (ad 1)]))]) hA (Nat.le_of_ble_eq_true rfl) rfl cfx_X8_21 (by rfl) (by rfl) (Nat.le_of_ble_eq_true rfl) (dc dl_X8_init 10 rfl) rfl rfl ?_
  exact K_ret (pc := 20) rfl rfl rfl (dc dl_X8_init 11 rfl)
def sb_X8_init_16 : Bk := fun i => ([List.replicate 2 0,
  List.replicate 16 0] : List (List Int32)).getD i []
set_option maxRecDepth 100000 in
set_option maxHeartbeats 8000000 in
theorem ck_X8_init_16 (l : Launch) (G : Gl) : Ck l G mX8_init 1 1 16 lay_Told sb_X8_init_16 8 [.int 0, .null] [.int 16] := by
  refine ck_of (lvf := fun h0 => [some (.ref h0), some (.int 16)]) rfl (Nat.le_of_ble_eq_true rfl) (by decide +kernel) rfl (fun _ => rfl) (fun ad hA hB => ?_)
  rw [opL_one]
  refine k_aload_n (pc := 0) (dc dl_X8_init 0 rfl) rfl rfl ?_
  refine k_obj (pc := 1) cob_X8_3 cobj.1 cobj.2 (Nat.le_of_ble_eq_true rfl) (Nat.le_of_ble_eq_true rfl) (dc dl_X8_init 1 rfl) ?_
  refine k_aload_n (pc := 4) (dc dl_X8_init 2 rfl) rfl rfl ?_
  refine k_iconst (pc := 5) (v := 0) (dc dl_X8_init 3 rfl) ic_0 ?_
  refine K_put (pc := 6) (i := 0) (fs' := [.int 0, .null]) (L' := [(0, .inr (8, [.int 0, .null]))]) hA (Nat.le_of_ble_eq_true rfl) rfl cfw_X8_9 (by decide) (by decide) (Nat.le_of_ble_eq_true rfl) (dc dl_X8_init 4 rfl) rfl rfl ?_
  refine k_aload_n (pc := 9) (dc dl_X8_init 5 rfl) rfl rfl ?_
  refine k_iload_n (pc := 10) (dc dl_X8_init 6 rfl) rfl rfl ?_
  refine k_iconst (pc := 11) (v := 0) (dc dl_X8_init 7 rfl) ic_0 ?_
  refine k_max (pc := 12) (v := 16) cml_X8_15 cmax.1 cmax.2.1 cmax.2.2 (Nat.le_of_ble_eq_true rfl) ⟨Nat.le_of_ble_eq_true rfl, Nat.le_of_ble_eq_true rfl⟩ (Nat.le_of_ble_eq_true rfl) (by decide) (dc dl_X8_init 8 rfl) ?_
  refine K_newaF (pc := 15) (N := 16) hA (Nat.le_of_ble_eq_true rfl) (by decide) (by decide) (Nat.le_of_ble_eq_true rfl) ⟨Nat.le_of_ble_eq_true rfl, Nat.le_of_ble_eq_true rfl⟩ rfl rfl rfl (dc dl_X8_init 9 rfl) rfl rfl rfl ?_
  refine K_putF (pc := 17) (i := 0) (fs' := [.int 0, .ref (ad 1)]) (L' := [(0, .inr (8, [.int 0, .ref (ad 1)]))]) hA (Nat.le_of_ble_eq_true rfl) rfl cfx_X8_21 (by rfl) (by rfl) (Nat.le_of_ble_eq_true rfl) (dc dl_X8_init 10 rfl) rfl rfl ?_
  exact K_ret (pc := 20) rfl rfl rfl (dc dl_X8_init 11 rfl)
def sb_X8_init_10 : Bk := fun i => ([List.replicate 2 0,
  List.replicate 10 0] : List (List Int32)).getD i []
set_option maxRecDepth 100000 in
set_option maxHeartbeats 8000000 in
theorem ck_X8_init_10 (l : Launch) (G : Gl) : Ck l G mX8_init 1 1 10 lay_Told sb_X8_init_10 8 [.int 0, .null] [.int 10] := by
  refine ck_of (lvf := fun h0 => [some (.ref h0), some (.int 10)]) rfl (Nat.le_of_ble_eq_true rfl) (by decide +kernel) rfl (fun _ => rfl) (fun ad hA hB => ?_)
  rw [opL_one]
  refine k_aload_n (pc := 0) (dc dl_X8_init 0 rfl) rfl rfl ?_
  refine k_obj (pc := 1) cob_X8_3 cobj.1 cobj.2 (Nat.le_of_ble_eq_true rfl) (Nat.le_of_ble_eq_true rfl) (dc dl_X8_init 1 rfl) ?_
  refine k_aload_n (pc := 4) (dc dl_X8_init 2 rfl) rfl rfl ?_
  refine k_iconst (pc := 5) (v := 0) (dc dl_X8_init 3 rfl) ic_0 ?_
  refine K_put (pc := 6) (i := 0) (fs' := [.int 0, .null]) (L' := [(0, .inr (8, [.int 0, .null]))]) hA (Nat.le_of_ble_eq_true rfl) rfl cfw_X8_9 (by decide) (by decide) (Nat.le_of_ble_eq_true rfl) (dc dl_X8_init 4 rfl) rfl rfl ?_
  refine k_aload_n (pc := 9) (dc dl_X8_init 5 rfl) rfl rfl ?_
  refine k_iload_n (pc := 10) (dc dl_X8_init 6 rfl) rfl rfl ?_
  refine k_iconst (pc := 11) (v := 0) (dc dl_X8_init 7 rfl) ic_0 ?_
  refine k_max (pc := 12) (v := 10) cml_X8_15 cmax.1 cmax.2.1 cmax.2.2 (Nat.le_of_ble_eq_true rfl) ⟨Nat.le_of_ble_eq_true rfl, Nat.le_of_ble_eq_true rfl⟩ (Nat.le_of_ble_eq_true rfl) (by decide) (dc dl_X8_init 8 rfl) ?_
  refine K_newaF (pc := 15) (N := 10) hA (Nat.le_of_ble_eq_true rfl) (by decide) (by decide) (Nat.le_of_ble_eq_true rfl) ⟨Nat.le_of_ble_eq_true rfl, Nat.le_of_ble_eq_true rfl⟩ rfl rfl rfl (dc dl_X8_init 9 rfl) rfl rfl rfl ?_
  refine K_putF (pc := 17) (i := 0) (fs' := [.int 0, .ref (ad 1)]) (L' := [(0, .inr (8, [.int 0, .ref (ad 1)]))]) hA (Nat.le_of_ble_eq_true rfl) rfl cfx_X8_21 (by rfl) (by rfl) (Nat.le_of_ble_eq_true rfl) (dc dl_X8_init 10 rfl) rfl rfl ?_
  exact K_ret (pc := 20) rfl rfl rfl (dc dl_X8_init 11 rfl)
def sb_X1_init : Bk := fun i => ([List.replicate 12 0,
  List.replicate 19 0,
  List.replicate 12 0,
  List.replicate 12 0,
  List.replicate 12 0,
  List.replicate 14 0,
  List.replicate 14 0,
  List.replicate 14 0,
  List.replicate 56 0,
  List.replicate 20 0,
  List.replicate 20 0,
  List.replicate 20 0,
  List.replicate 20 0,
  List.replicate 20 0,
  List.replicate 1 0,
  List.replicate 600 0,
  List.replicate 8 0,
  List.replicate 16 0,
  List.replicate 16 0,
  List.replicate 16 0,
  List.replicate 16 0,
  List.replicate 400 0,
  List.replicate 400 0,
  List.replicate 5 0,
  List.replicate 16 0,
  List.replicate 16 0,
  List.replicate 16 0,
  List.replicate 16 0,
  List.replicate 5 0,
  List.replicate 16 0,
  List.replicate 16 0,
  List.replicate 16 0,
  List.replicate 16 0,
  List.replicate 5 0,
  List.replicate 16 0,
  List.replicate 16 0,
  List.replicate 16 0,
  List.replicate 16 0,
  List.replicate 2 0,
  List.replicate 12 0,
  List.replicate 2 0,
  List.replicate 16 0,
  List.replicate 2 0,
  List.replicate 12 0,
  List.replicate 2 0,
  List.replicate 16 0,
  List.replicate 2 0,
  List.replicate 10 0,
  List.replicate 9 0] : List (List Int32)).getD i []
theorem sbk_ck_X1_init_1 : ∀ i, i < lay_World.length → sb_X1_init (1 + i) = sb_X9_init_0 i := by decide +kernel
theorem sbk_ck_X1_init_14 : ∀ i, i < lay_Book.length → sb_X1_init (14 + i) = sb_X0_init i := by decide +kernel
theorem sbk_ck_X1_init_16 : ∀ i, i < lay_Law.length → sb_X1_init (16 + i) = sb_X2_init i := by decide +kernel
theorem sbk_ck_X1_init_23 : ∀ i, i < lay_Lines.length → sb_X1_init (23 + i) = sb_X5_init i := by decide +kernel
theorem sbk_ck_X1_init_28 : ∀ i, i < lay_Lines.length → sb_X1_init (28 + i) = sb_X5_init i := by decide +kernel
theorem sbk_ck_X1_init_33 : ∀ i, i < lay_Lines.length → sb_X1_init (33 + i) = sb_X5_init i := by decide +kernel
theorem sbk_ck_X1_init_38 : ∀ i, i < lay_Told.length → sb_X1_init (38 + i) = sb_X8_init_12 i := by decide +kernel
theorem sbk_ck_X1_init_40 : ∀ i, i < lay_Told.length → sb_X1_init (40 + i) = sb_X8_init_16 i := by decide +kernel
theorem sbk_ck_X1_init_42 : ∀ i, i < lay_Told.length → sb_X1_init (42 + i) = sb_X8_init_12 i := by decide +kernel
theorem sbk_ck_X1_init_44 : ∀ i, i < lay_Told.length → sb_X1_init (44 + i) = sb_X8_init_16 i := by decide +kernel
theorem sbk_ck_X1_init_46 : ∀ i, i < lay_Told.length → sb_X1_init (46 + i) = sb_X8_init_10 i := by decide +kernel
set_option maxRecDepth 100000 in
set_option maxHeartbeats 8000000 in
theorem ck_X1_init (l : Launch) (G : Gl) : Ck l G mX1_init 2 48 2018 lay_House sb_X1_init 1 [.null, .null, .null, .null, .null, .null, .null, .null, .null, .null, .null, .null] [] := by
  refine ck_of (lvf := fun h0 => [some (.ref h0)]) rfl (Nat.le_of_ble_eq_true rfl) (by decide +kernel) rfl (fun _ => rfl) (fun ad hA hB => ?_)
  rw [opL_one]
  refine k_aload_n (pc := 0) (dc dl_X1_init 0 rfl) rfl rfl ?_
  refine k_obj (pc := 1) cob_X1_3 cobj.1 cobj.2 (Nat.le_of_ble_eq_true rfl) (Nat.le_of_ble_eq_true rfl) (dc dl_X1_init 1 rfl) ?_
  refine k_aload_n (pc := 4) (dc dl_X1_init 2 rfl) rfl rfl ?_
  refine K_new (pc := 5) (fs := [.int 0, .int 0, .int 0, .int 0, .int 0, .int 0, .int 0, .null, .null, .null, .null, .null, .null, .null, .null, .null, .null, .null, .null]) (ci := 9) (L' := [(0, .inr (1, [.null, .null, .null, .null, .null, .null, .null, .null, .null, .null, .null, .null])), (1, .inr (9, [.int 0, .int 0, .int 0, .int 0, .int 0, .int 0, .int 0, .null, .null, .null, .null, .null, .null, .null, .null, .null, .null, .null, .null]))]) hA (Nat.le_of_ble_eq_true rfl) rfl ⟨Nat.le_of_ble_eq_true rfl, Nat.le_of_ble_eq_true rfl⟩ rfl rfl rfl ccl_X1_9 cin_9.1 cin_9.2 cf_9 tyX9_ok cdf_9 (dc dl_X1_init 3 rfl) rfl ?_
  refine k_dup (pc := 8) (dc dl_X1_init 4 rfl) rfl ?_
  refine k_iconst (pc := 9) (v := 0) (dc dl_X1_init 5 rfl) ic_0 ?_
  refine K_init (pc := 10) (k0 := 1) (fs := [.int 0, .int 0, .int 0, .int 0, .int 0, .int 0, .int 0, .null, .null, .null, .null, .null, .null, .null, .null, .null, .null, .null, .null]) (L' := [(0, .inr (1, [.null, .null, .null, .null, .null, .null, .null, .null, .null, .null, .null, .null]))]) hA hB (Nat.le_of_ble_eq_true rfl) rfl rfl (callsK_I (As := [.int 0]) (rest := [.ref (ad 1), .ref (ad 0)]) rfl rfl (dc dl_X1_init 6 rfl) cmo_X9_init.1 cmo_X9_init.2 cml_X1_11 ⟨Nat.le_of_ble_eq_true rfl, Nat.le_of_ble_eq_true rfl⟩ rfl rfl (Nat.le_of_ble_eq_true rfl) ⟨Nat.le_of_ble_eq_true rfl, Nat.le_of_ble_eq_true rfl⟩) (ck_X9_init_0 l G) css_House_World_1 (sbk_ck_X1_init_1 ) rfl (Nat.le_of_ble_eq_true rfl) rfl rfl rfl rfl rfl ?_
  refine K_putF (pc := 13) (i := 0) (fs' := [.ref (ad 1), .null, .null, .null, .null, .null, .null, .null, .null, .null, .null, .null]) (L' := [(0, .inr (1, [.ref (ad 1), .null, .null, .null, .null, .null, .null, .null, .null, .null, .null, .null]))]) hA (Nat.le_of_ble_eq_true rfl) rfl cfx_X1_14 (by rfl) (by rfl) (Nat.le_of_ble_eq_true rfl) (dc dl_X1_init 7 rfl) rfl rfl ?_
  refine k_aload_n (pc := 16) (dc dl_X1_init 8 rfl) rfl rfl ?_
  refine K_new (pc := 17) (fs := [.null]) (ci := 0) (L' := [(0, .inr (1, [.ref (ad 1), .null, .null, .null, .null, .null, .null, .null, .null, .null, .null, .null])), (14, .inr (0, [.null]))]) hA (Nat.le_of_ble_eq_true rfl) rfl ⟨Nat.le_of_ble_eq_true rfl, Nat.le_of_ble_eq_true rfl⟩ rfl rfl rfl ccl_X1_20 cin_0.1 cin_0.2 cf_0 tyX0_ok cdf_0 (dc dl_X1_init 9 rfl) rfl ?_
  refine k_dup (pc := 20) (dc dl_X1_init 10 rfl) rfl ?_
  refine K_init (pc := 21) (k0 := 14) (fs := [.null]) (L' := [(0, .inr (1, [.ref (ad 1), .null, .null, .null, .null, .null, .null, .null, .null, .null, .null, .null]))]) hA hB (Nat.le_of_ble_eq_true rfl) rfl rfl (callsK_IN (As := []) (rest := [.ref (ad 14), .ref (ad 0)]) rfl rfl (dc dl_X1_init 11 rfl) cmo_X0_init.1 cmo_X0_init.2 cml_X1_22 ⟨Nat.le_of_ble_eq_true rfl, Nat.le_of_ble_eq_true rfl⟩ rfl rfl (Nat.le_of_ble_eq_true rfl) ⟨Nat.le_of_ble_eq_true rfl, Nat.le_of_ble_eq_true rfl⟩) (ck_X0_init l G) css_House_Book_14 (sbk_ck_X1_init_14 ) rfl (Nat.le_of_ble_eq_true rfl) rfl rfl rfl rfl rfl ?_
  refine K_putF (pc := 24) (i := 0) (fs' := [.ref (ad 1), .ref (ad 14), .null, .null, .null, .null, .null, .null, .null, .null, .null, .null]) (L' := [(0, .inr (1, [.ref (ad 1), .ref (ad 14), .null, .null, .null, .null, .null, .null, .null, .null, .null, .null]))]) hA (Nat.le_of_ble_eq_true rfl) rfl cfx_X1_23 (by rfl) (by rfl) (Nat.le_of_ble_eq_true rfl) (dc dl_X1_init 12 rfl) rfl rfl ?_
  refine k_aload_n (pc := 27) (dc dl_X1_init 13 rfl) rfl rfl ?_
  refine K_new (pc := 28) (fs := [.int 0, .int 0, .null, .null, .null, .null, .null, .null]) (ci := 2) (L' := [(0, .inr (1, [.ref (ad 1), .ref (ad 14), .null, .null, .null, .null, .null, .null, .null, .null, .null, .null])), (16, .inr (2, [.int 0, .int 0, .null, .null, .null, .null, .null, .null]))]) hA (Nat.le_of_ble_eq_true rfl) rfl ⟨Nat.le_of_ble_eq_true rfl, Nat.le_of_ble_eq_true rfl⟩ rfl rfl rfl ccl_X1_27 cin_2.1 cin_2.2 cf_2 tyX2_ok cdf_2 (dc dl_X1_init 14 rfl) rfl ?_
  refine k_dup (pc := 31) (dc dl_X1_init 15 rfl) rfl ?_
  refine K_init (pc := 32) (k0 := 16) (fs := [.int 0, .int 0, .null, .null, .null, .null, .null, .null]) (L' := [(0, .inr (1, [.ref (ad 1), .ref (ad 14), .null, .null, .null, .null, .null, .null, .null, .null, .null, .null]))]) hA hB (Nat.le_of_ble_eq_true rfl) rfl rfl (callsK_IN (As := []) (rest := [.ref (ad 16), .ref (ad 0)]) rfl rfl (dc dl_X1_init 16 rfl) cmo_X2_init.1 cmo_X2_init.2 cml_X1_29 ⟨Nat.le_of_ble_eq_true rfl, Nat.le_of_ble_eq_true rfl⟩ rfl rfl (Nat.le_of_ble_eq_true rfl) ⟨Nat.le_of_ble_eq_true rfl, Nat.le_of_ble_eq_true rfl⟩) (ck_X2_init l G) css_House_Law_16 (sbk_ck_X1_init_16 ) rfl (Nat.le_of_ble_eq_true rfl) rfl rfl rfl rfl rfl ?_
  refine K_putF (pc := 35) (i := 0) (fs' := [.ref (ad 1), .ref (ad 14), .ref (ad 16), .null, .null, .null, .null, .null, .null, .null, .null, .null]) (L' := [(0, .inr (1, [.ref (ad 1), .ref (ad 14), .ref (ad 16), .null, .null, .null, .null, .null, .null, .null, .null, .null]))]) hA (Nat.le_of_ble_eq_true rfl) rfl cfx_X1_30 (by rfl) (by rfl) (Nat.le_of_ble_eq_true rfl) (dc dl_X1_init 17 rfl) rfl rfl ?_
  refine k_aload_n (pc := 38) (dc dl_X1_init 18 rfl) rfl rfl ?_
  refine K_new (pc := 39) (fs := [.int 0, .null, .null, .null, .null]) (ci := 5) (L' := [(0, .inr (1, [.ref (ad 1), .ref (ad 14), .ref (ad 16), .null, .null, .null, .null, .null, .null, .null, .null, .null])), (23, .inr (5, [.int 0, .null, .null, .null, .null]))]) hA (Nat.le_of_ble_eq_true rfl) rfl ⟨Nat.le_of_ble_eq_true rfl, Nat.le_of_ble_eq_true rfl⟩ rfl rfl rfl ccl_X1_34 cin_5.1 cin_5.2 cf_5 tyX5_ok cdf_5 (dc dl_X1_init 19 rfl) rfl ?_
  refine k_dup (pc := 42) (dc dl_X1_init 20 rfl) rfl ?_
  refine K_init (pc := 43) (k0 := 23) (fs := [.int 0, .null, .null, .null, .null]) (L' := [(0, .inr (1, [.ref (ad 1), .ref (ad 14), .ref (ad 16), .null, .null, .null, .null, .null, .null, .null, .null, .null]))]) hA hB (Nat.le_of_ble_eq_true rfl) rfl rfl (callsK_IN (As := []) (rest := [.ref (ad 23), .ref (ad 0)]) rfl rfl (dc dl_X1_init 21 rfl) cmo_X5_init.1 cmo_X5_init.2 cml_X1_36 ⟨Nat.le_of_ble_eq_true rfl, Nat.le_of_ble_eq_true rfl⟩ rfl rfl (Nat.le_of_ble_eq_true rfl) ⟨Nat.le_of_ble_eq_true rfl, Nat.le_of_ble_eq_true rfl⟩) (ck_X5_init l G) css_House_Lines_23 (sbk_ck_X1_init_23 ) rfl (Nat.le_of_ble_eq_true rfl) rfl rfl rfl rfl rfl ?_
  refine K_putF (pc := 46) (i := 0) (fs' := [.ref (ad 1), .ref (ad 14), .ref (ad 16), .ref (ad 23), .null, .null, .null, .null, .null, .null, .null, .null]) (L' := [(0, .inr (1, [.ref (ad 1), .ref (ad 14), .ref (ad 16), .ref (ad 23), .null, .null, .null, .null, .null, .null, .null, .null]))]) hA (Nat.le_of_ble_eq_true rfl) rfl cfx_X1_37 (by rfl) (by rfl) (Nat.le_of_ble_eq_true rfl) (dc dl_X1_init 22 rfl) rfl rfl ?_
  refine k_aload_n (pc := 49) (dc dl_X1_init 23 rfl) rfl rfl ?_
  refine K_new (pc := 50) (fs := [.int 0, .null, .null, .null, .null]) (ci := 5) (L' := [(0, .inr (1, [.ref (ad 1), .ref (ad 14), .ref (ad 16), .ref (ad 23), .null, .null, .null, .null, .null, .null, .null, .null])), (28, .inr (5, [.int 0, .null, .null, .null, .null]))]) hA (Nat.le_of_ble_eq_true rfl) rfl ⟨Nat.le_of_ble_eq_true rfl, Nat.le_of_ble_eq_true rfl⟩ rfl rfl rfl ccl_X1_34 cin_5.1 cin_5.2 cf_5 tyX5_ok cdf_5 (dc dl_X1_init 24 rfl) rfl ?_
  refine k_dup (pc := 53) (dc dl_X1_init 25 rfl) rfl ?_
  refine K_init (pc := 54) (k0 := 28) (fs := [.int 0, .null, .null, .null, .null]) (L' := [(0, .inr (1, [.ref (ad 1), .ref (ad 14), .ref (ad 16), .ref (ad 23), .null, .null, .null, .null, .null, .null, .null, .null]))]) hA hB (Nat.le_of_ble_eq_true rfl) rfl rfl (callsK_IN (As := []) (rest := [.ref (ad 28), .ref (ad 0)]) rfl rfl (dc dl_X1_init 26 rfl) cmo_X5_init.1 cmo_X5_init.2 cml_X1_36 ⟨Nat.le_of_ble_eq_true rfl, Nat.le_of_ble_eq_true rfl⟩ rfl rfl (Nat.le_of_ble_eq_true rfl) ⟨Nat.le_of_ble_eq_true rfl, Nat.le_of_ble_eq_true rfl⟩) (ck_X5_init l G) css_House_Lines_28 (sbk_ck_X1_init_28 ) rfl (Nat.le_of_ble_eq_true rfl) rfl rfl rfl rfl rfl ?_
  refine K_putF (pc := 57) (i := 0) (fs' := [.ref (ad 1), .ref (ad 14), .ref (ad 16), .ref (ad 23), .ref (ad 28), .null, .null, .null, .null, .null, .null, .null]) (L' := [(0, .inr (1, [.ref (ad 1), .ref (ad 14), .ref (ad 16), .ref (ad 23), .ref (ad 28), .null, .null, .null, .null, .null, .null, .null]))]) hA (Nat.le_of_ble_eq_true rfl) rfl cfx_X1_41 (by rfl) (by rfl) (Nat.le_of_ble_eq_true rfl) (dc dl_X1_init 27 rfl) rfl rfl ?_
  refine k_aload_n (pc := 60) (dc dl_X1_init 28 rfl) rfl rfl ?_
  refine K_new (pc := 61) (fs := [.int 0, .null, .null, .null, .null]) (ci := 5) (L' := [(0, .inr (1, [.ref (ad 1), .ref (ad 14), .ref (ad 16), .ref (ad 23), .ref (ad 28), .null, .null, .null, .null, .null, .null, .null])), (33, .inr (5, [.int 0, .null, .null, .null, .null]))]) hA (Nat.le_of_ble_eq_true rfl) rfl ⟨Nat.le_of_ble_eq_true rfl, Nat.le_of_ble_eq_true rfl⟩ rfl rfl rfl ccl_X1_34 cin_5.1 cin_5.2 cf_5 tyX5_ok cdf_5 (dc dl_X1_init 29 rfl) rfl ?_
  refine k_dup (pc := 64) (dc dl_X1_init 30 rfl) rfl ?_
  refine K_init (pc := 65) (k0 := 33) (fs := [.int 0, .null, .null, .null, .null]) (L' := [(0, .inr (1, [.ref (ad 1), .ref (ad 14), .ref (ad 16), .ref (ad 23), .ref (ad 28), .null, .null, .null, .null, .null, .null, .null]))]) hA hB (Nat.le_of_ble_eq_true rfl) rfl rfl (callsK_IN (As := []) (rest := [.ref (ad 33), .ref (ad 0)]) rfl rfl (dc dl_X1_init 31 rfl) cmo_X5_init.1 cmo_X5_init.2 cml_X1_36 ⟨Nat.le_of_ble_eq_true rfl, Nat.le_of_ble_eq_true rfl⟩ rfl rfl (Nat.le_of_ble_eq_true rfl) ⟨Nat.le_of_ble_eq_true rfl, Nat.le_of_ble_eq_true rfl⟩) (ck_X5_init l G) css_House_Lines_33 (sbk_ck_X1_init_33 ) rfl (Nat.le_of_ble_eq_true rfl) rfl rfl rfl rfl rfl ?_
  refine K_putF (pc := 68) (i := 0) (fs' := [.ref (ad 1), .ref (ad 14), .ref (ad 16), .ref (ad 23), .ref (ad 28), .ref (ad 33), .null, .null, .null, .null, .null, .null]) (L' := [(0, .inr (1, [.ref (ad 1), .ref (ad 14), .ref (ad 16), .ref (ad 23), .ref (ad 28), .ref (ad 33), .null, .null, .null, .null, .null, .null]))]) hA (Nat.le_of_ble_eq_true rfl) rfl cfx_X1_44 (by rfl) (by rfl) (Nat.le_of_ble_eq_true rfl) (dc dl_X1_init 32 rfl) rfl rfl ?_
  refine k_aload_n (pc := 71) (dc dl_X1_init 33 rfl) rfl rfl ?_
  refine K_new (pc := 72) (fs := [.int 0, .null]) (ci := 8) (L' := [(0, .inr (1, [.ref (ad 1), .ref (ad 14), .ref (ad 16), .ref (ad 23), .ref (ad 28), .ref (ad 33), .null, .null, .null, .null, .null, .null])), (38, .inr (8, [.int 0, .null]))]) hA (Nat.le_of_ble_eq_true rfl) rfl ⟨Nat.le_of_ble_eq_true rfl, Nat.le_of_ble_eq_true rfl⟩ rfl rfl rfl ccl_X1_47 cin_8.1 cin_8.2 cf_8 tyX8_ok cdf_8 (dc dl_X1_init 34 rfl) rfl ?_
  refine k_dup (pc := 75) (dc dl_X1_init 35 rfl) rfl ?_
  refine k_bipush (pc := 76) (v := 12) (dc dl_X1_init 36 rfl) bi_12 ?_
  refine K_init (pc := 78) (k0 := 38) (fs := [.int 0, .null]) (L' := [(0, .inr (1, [.ref (ad 1), .ref (ad 14), .ref (ad 16), .ref (ad 23), .ref (ad 28), .ref (ad 33), .null, .null, .null, .null, .null, .null]))]) hA hB (Nat.le_of_ble_eq_true rfl) rfl rfl (callsK_I (As := [.int 12]) (rest := [.ref (ad 38), .ref (ad 0)]) rfl rfl (dc dl_X1_init 37 rfl) cmo_X8_init.1 cmo_X8_init.2 cml_X1_49 ⟨Nat.le_of_ble_eq_true rfl, Nat.le_of_ble_eq_true rfl⟩ rfl rfl (Nat.le_of_ble_eq_true rfl) ⟨Nat.le_of_ble_eq_true rfl, Nat.le_of_ble_eq_true rfl⟩) (ck_X8_init_12 l G) css_House_Told_38 (sbk_ck_X1_init_38 ) rfl (Nat.le_of_ble_eq_true rfl) rfl rfl rfl rfl rfl ?_
  refine K_putF (pc := 81) (i := 0) (fs' := [.ref (ad 1), .ref (ad 14), .ref (ad 16), .ref (ad 23), .ref (ad 28), .ref (ad 33), .ref (ad 38), .null, .null, .null, .null, .null]) (L' := [(0, .inr (1, [.ref (ad 1), .ref (ad 14), .ref (ad 16), .ref (ad 23), .ref (ad 28), .ref (ad 33), .ref (ad 38), .null, .null, .null, .null, .null]))]) hA (Nat.le_of_ble_eq_true rfl) rfl cfx_X1_52 (by rfl) (by rfl) (Nat.le_of_ble_eq_true rfl) (dc dl_X1_init 38 rfl) rfl rfl ?_
  refine k_aload_n (pc := 84) (dc dl_X1_init 39 rfl) rfl rfl ?_
  refine K_new (pc := 85) (fs := [.int 0, .null]) (ci := 8) (L' := [(0, .inr (1, [.ref (ad 1), .ref (ad 14), .ref (ad 16), .ref (ad 23), .ref (ad 28), .ref (ad 33), .ref (ad 38), .null, .null, .null, .null, .null])), (40, .inr (8, [.int 0, .null]))]) hA (Nat.le_of_ble_eq_true rfl) rfl ⟨Nat.le_of_ble_eq_true rfl, Nat.le_of_ble_eq_true rfl⟩ rfl rfl rfl ccl_X1_47 cin_8.1 cin_8.2 cf_8 tyX8_ok cdf_8 (dc dl_X1_init 40 rfl) rfl ?_
  refine k_dup (pc := 88) (dc dl_X1_init 41 rfl) rfl ?_
  refine k_bipush (pc := 89) (v := 16) (dc dl_X1_init 42 rfl) bi_16 ?_
  refine K_init (pc := 91) (k0 := 40) (fs := [.int 0, .null]) (L' := [(0, .inr (1, [.ref (ad 1), .ref (ad 14), .ref (ad 16), .ref (ad 23), .ref (ad 28), .ref (ad 33), .ref (ad 38), .null, .null, .null, .null, .null]))]) hA hB (Nat.le_of_ble_eq_true rfl) rfl rfl (callsK_I (As := [.int 16]) (rest := [.ref (ad 40), .ref (ad 0)]) rfl rfl (dc dl_X1_init 43 rfl) cmo_X8_init.1 cmo_X8_init.2 cml_X1_49 ⟨Nat.le_of_ble_eq_true rfl, Nat.le_of_ble_eq_true rfl⟩ rfl rfl (Nat.le_of_ble_eq_true rfl) ⟨Nat.le_of_ble_eq_true rfl, Nat.le_of_ble_eq_true rfl⟩) (ck_X8_init_16 l G) css_House_Told_40 (sbk_ck_X1_init_40 ) rfl (Nat.le_of_ble_eq_true rfl) rfl rfl rfl rfl rfl ?_
  refine K_putF (pc := 94) (i := 0) (fs' := [.ref (ad 1), .ref (ad 14), .ref (ad 16), .ref (ad 23), .ref (ad 28), .ref (ad 33), .ref (ad 38), .ref (ad 40), .null, .null, .null, .null]) (L' := [(0, .inr (1, [.ref (ad 1), .ref (ad 14), .ref (ad 16), .ref (ad 23), .ref (ad 28), .ref (ad 33), .ref (ad 38), .ref (ad 40), .null, .null, .null, .null]))]) hA (Nat.le_of_ble_eq_true rfl) rfl cfx_X1_56 (by rfl) (by rfl) (Nat.le_of_ble_eq_true rfl) (dc dl_X1_init 44 rfl) rfl rfl ?_
  refine k_aload_n (pc := 97) (dc dl_X1_init 45 rfl) rfl rfl ?_
  refine K_new (pc := 98) (fs := [.int 0, .null]) (ci := 8) (L' := [(0, .inr (1, [.ref (ad 1), .ref (ad 14), .ref (ad 16), .ref (ad 23), .ref (ad 28), .ref (ad 33), .ref (ad 38), .ref (ad 40), .null, .null, .null, .null])), (42, .inr (8, [.int 0, .null]))]) hA (Nat.le_of_ble_eq_true rfl) rfl ⟨Nat.le_of_ble_eq_true rfl, Nat.le_of_ble_eq_true rfl⟩ rfl rfl rfl ccl_X1_47 cin_8.1 cin_8.2 cf_8 tyX8_ok cdf_8 (dc dl_X1_init 46 rfl) rfl ?_
  refine k_dup (pc := 101) (dc dl_X1_init 47 rfl) rfl ?_
  refine k_bipush (pc := 102) (v := 12) (dc dl_X1_init 48 rfl) bi_12 ?_
  refine K_init (pc := 104) (k0 := 42) (fs := [.int 0, .null]) (L' := [(0, .inr (1, [.ref (ad 1), .ref (ad 14), .ref (ad 16), .ref (ad 23), .ref (ad 28), .ref (ad 33), .ref (ad 38), .ref (ad 40), .null, .null, .null, .null]))]) hA hB (Nat.le_of_ble_eq_true rfl) rfl rfl (callsK_I (As := [.int 12]) (rest := [.ref (ad 42), .ref (ad 0)]) rfl rfl (dc dl_X1_init 49 rfl) cmo_X8_init.1 cmo_X8_init.2 cml_X1_49 ⟨Nat.le_of_ble_eq_true rfl, Nat.le_of_ble_eq_true rfl⟩ rfl rfl (Nat.le_of_ble_eq_true rfl) ⟨Nat.le_of_ble_eq_true rfl, Nat.le_of_ble_eq_true rfl⟩) (ck_X8_init_12 l G) css_House_Told_42 (sbk_ck_X1_init_42 ) rfl (Nat.le_of_ble_eq_true rfl) rfl rfl rfl rfl rfl ?_
  refine K_putF (pc := 107) (i := 0) (fs' := [.ref (ad 1), .ref (ad 14), .ref (ad 16), .ref (ad 23), .ref (ad 28), .ref (ad 33), .ref (ad 38), .ref (ad 40), .ref (ad 42), .null, .null, .null]) (L' := [(0, .inr (1, [.ref (ad 1), .ref (ad 14), .ref (ad 16), .ref (ad 23), .ref (ad 28), .ref (ad 33), .ref (ad 38), .ref (ad 40), .ref (ad 42), .null, .null, .null]))]) hA (Nat.le_of_ble_eq_true rfl) rfl cfx_X1_59 (by rfl) (by rfl) (Nat.le_of_ble_eq_true rfl) (dc dl_X1_init 50 rfl) rfl rfl ?_
  refine k_aload_n (pc := 110) (dc dl_X1_init 51 rfl) rfl rfl ?_
  refine K_new (pc := 111) (fs := [.int 0, .null]) (ci := 8) (L' := [(0, .inr (1, [.ref (ad 1), .ref (ad 14), .ref (ad 16), .ref (ad 23), .ref (ad 28), .ref (ad 33), .ref (ad 38), .ref (ad 40), .ref (ad 42), .null, .null, .null])), (44, .inr (8, [.int 0, .null]))]) hA (Nat.le_of_ble_eq_true rfl) rfl ⟨Nat.le_of_ble_eq_true rfl, Nat.le_of_ble_eq_true rfl⟩ rfl rfl rfl ccl_X1_47 cin_8.1 cin_8.2 cf_8 tyX8_ok cdf_8 (dc dl_X1_init 52 rfl) rfl ?_
  refine k_dup (pc := 114) (dc dl_X1_init 53 rfl) rfl ?_
  refine k_bipush (pc := 115) (v := 16) (dc dl_X1_init 54 rfl) bi_16 ?_
  refine K_init (pc := 117) (k0 := 44) (fs := [.int 0, .null]) (L' := [(0, .inr (1, [.ref (ad 1), .ref (ad 14), .ref (ad 16), .ref (ad 23), .ref (ad 28), .ref (ad 33), .ref (ad 38), .ref (ad 40), .ref (ad 42), .null, .null, .null]))]) hA hB (Nat.le_of_ble_eq_true rfl) rfl rfl (callsK_I (As := [.int 16]) (rest := [.ref (ad 44), .ref (ad 0)]) rfl rfl (dc dl_X1_init 55 rfl) cmo_X8_init.1 cmo_X8_init.2 cml_X1_49 ⟨Nat.le_of_ble_eq_true rfl, Nat.le_of_ble_eq_true rfl⟩ rfl rfl (Nat.le_of_ble_eq_true rfl) ⟨Nat.le_of_ble_eq_true rfl, Nat.le_of_ble_eq_true rfl⟩) (ck_X8_init_16 l G) css_House_Told_44 (sbk_ck_X1_init_44 ) rfl (Nat.le_of_ble_eq_true rfl) rfl rfl rfl rfl rfl ?_
  refine K_putF (pc := 120) (i := 0) (fs' := [.ref (ad 1), .ref (ad 14), .ref (ad 16), .ref (ad 23), .ref (ad 28), .ref (ad 33), .ref (ad 38), .ref (ad 40), .ref (ad 42), .ref (ad 44), .null, .null]) (L' := [(0, .inr (1, [.ref (ad 1), .ref (ad 14), .ref (ad 16), .ref (ad 23), .ref (ad 28), .ref (ad 33), .ref (ad 38), .ref (ad 40), .ref (ad 42), .ref (ad 44), .null, .null]))]) hA (Nat.le_of_ble_eq_true rfl) rfl cfx_X1_62 (by rfl) (by rfl) (Nat.le_of_ble_eq_true rfl) (dc dl_X1_init 56 rfl) rfl rfl ?_
  refine k_aload_n (pc := 123) (dc dl_X1_init 57 rfl) rfl rfl ?_
  refine K_new (pc := 124) (fs := [.int 0, .null]) (ci := 8) (L' := [(0, .inr (1, [.ref (ad 1), .ref (ad 14), .ref (ad 16), .ref (ad 23), .ref (ad 28), .ref (ad 33), .ref (ad 38), .ref (ad 40), .ref (ad 42), .ref (ad 44), .null, .null])), (46, .inr (8, [.int 0, .null]))]) hA (Nat.le_of_ble_eq_true rfl) rfl ⟨Nat.le_of_ble_eq_true rfl, Nat.le_of_ble_eq_true rfl⟩ rfl rfl rfl ccl_X1_47 cin_8.1 cin_8.2 cf_8 tyX8_ok cdf_8 (dc dl_X1_init 58 rfl) rfl ?_
  refine k_dup (pc := 127) (dc dl_X1_init 59 rfl) rfl ?_
  refine k_bipush (pc := 128) (v := 10) (dc dl_X1_init 60 rfl) bi_10 ?_
  refine K_init (pc := 130) (k0 := 46) (fs := [.int 0, .null]) (L' := [(0, .inr (1, [.ref (ad 1), .ref (ad 14), .ref (ad 16), .ref (ad 23), .ref (ad 28), .ref (ad 33), .ref (ad 38), .ref (ad 40), .ref (ad 42), .ref (ad 44), .null, .null]))]) hA hB (Nat.le_of_ble_eq_true rfl) rfl rfl (callsK_I (As := [.int 10]) (rest := [.ref (ad 46), .ref (ad 0)]) rfl rfl (dc dl_X1_init 61 rfl) cmo_X8_init.1 cmo_X8_init.2 cml_X1_49 ⟨Nat.le_of_ble_eq_true rfl, Nat.le_of_ble_eq_true rfl⟩ rfl rfl (Nat.le_of_ble_eq_true rfl) ⟨Nat.le_of_ble_eq_true rfl, Nat.le_of_ble_eq_true rfl⟩) (ck_X8_init_10 l G) css_House_Told_46 (sbk_ck_X1_init_46 ) rfl (Nat.le_of_ble_eq_true rfl) rfl rfl rfl rfl rfl ?_
  refine K_putF (pc := 133) (i := 0) (fs' := [.ref (ad 1), .ref (ad 14), .ref (ad 16), .ref (ad 23), .ref (ad 28), .ref (ad 33), .ref (ad 38), .ref (ad 40), .ref (ad 42), .ref (ad 44), .ref (ad 46), .null]) (L' := [(0, .inr (1, [.ref (ad 1), .ref (ad 14), .ref (ad 16), .ref (ad 23), .ref (ad 28), .ref (ad 33), .ref (ad 38), .ref (ad 40), .ref (ad 42), .ref (ad 44), .ref (ad 46), .null]))]) hA (Nat.le_of_ble_eq_true rfl) rfl cfx_X1_65 (by rfl) (by rfl) (Nat.le_of_ble_eq_true rfl) (dc dl_X1_init 62 rfl) rfl rfl ?_
  refine k_aload_n (pc := 136) (dc dl_X1_init 63 rfl) rfl rfl ?_
  refine k_bipush (pc := 137) (v := 9) (dc dl_X1_init 64 rfl) bi_9 ?_
  refine K_newaF (pc := 139) (N := 9) hA (Nat.le_of_ble_eq_true rfl) (by decide) (by decide) (Nat.le_of_ble_eq_true rfl) ⟨Nat.le_of_ble_eq_true rfl, Nat.le_of_ble_eq_true rfl⟩ rfl rfl rfl (dc dl_X1_init 65 rfl) rfl rfl rfl ?_
  refine K_putF (pc := 141) (i := 0) (fs' := [.ref (ad 1), .ref (ad 14), .ref (ad 16), .ref (ad 23), .ref (ad 28), .ref (ad 33), .ref (ad 38), .ref (ad 40), .ref (ad 42), .ref (ad 44), .ref (ad 46), .ref (ad 48)]) (L' := [(0, .inr (1, [.ref (ad 1), .ref (ad 14), .ref (ad 16), .ref (ad 23), .ref (ad 28), .ref (ad 33), .ref (ad 38), .ref (ad 40), .ref (ad 42), .ref (ad 44), .ref (ad 46), .ref (ad 48)]))]) hA (Nat.le_of_ble_eq_true rfl) rfl cfx_X1_68 (by rfl) (by rfl) (Nat.le_of_ble_eq_true rfl) (dc dl_X1_init 66 rfl) rfl rfl ?_
  exact K_ret (pc := 144) rfl rfl rfl (dc dl_X1_init 67 rfl)
def sb_X9_init_1 : Bk := fun i => ([[1, 0, 0, 0, 0, 0, 0, 0, 0, 0, 0, 0, 0, 0, 0, 0, 0, 0, 0],
  List.replicate 12 0,
  List.replicate 12 0,
  List.replicate 12 0,
  List.replicate 14 0,
  List.replicate 14 0,
  List.replicate 14 0,
  List.replicate 56 0,
  List.replicate 20 0,
  List.replicate 20 0,
  List.replicate 20 0,
  List.replicate 20 0,
  List.replicate 20 0] : List (List Int32)).getD i []
set_option maxRecDepth 100000 in
set_option maxHeartbeats 8000000 in
theorem ck_X9_init_1 (l : Launch) (G : Gl) : Ck l G mX9_init 1 12 234 lay_World sb_X9_init_1 9 [.int 0, .int 0, .int 0, .int 0, .int 0, .int 0, .int 0, .null, .null, .null, .null, .null, .null, .null, .null, .null, .null, .null, .null] [.int 1] := by
  refine ck_of (lvf := fun h0 => [some (.ref h0), some (.int 1)]) rfl (Nat.le_of_ble_eq_true rfl) (by decide +kernel) rfl (fun _ => rfl) (fun ad hA hB => ?_)
  rw [opL_one]
  refine k_aload_n (pc := 0) (dc dl_X9_init 0 rfl) rfl rfl ?_
  refine k_obj (pc := 1) cob_X9_3 cobj.1 cobj.2 (Nat.le_of_ble_eq_true rfl) (Nat.le_of_ble_eq_true rfl) (dc dl_X9_init 1 rfl) ?_
  refine k_aload_n (pc := 4) (dc dl_X9_init 2 rfl) rfl rfl ?_
  refine k_iconst (pc := 5) (v := 0) (dc dl_X9_init 3 rfl) ic_0 ?_
  refine K_put (pc := 6) (i := 0) (fs' := [.int 0, .int 0, .int 0, .int 0, .int 0, .int 0, .int 0, .null, .null, .null, .null, .null, .null, .null, .null, .null, .null, .null, .null]) (L' := [(0, .inr (9, [.int 0, .int 0, .int 0, .int 0, .int 0, .int 0, .int 0, .null, .null, .null, .null, .null, .null, .null, .null, .null, .null, .null, .null]))]) hA (Nat.le_of_ble_eq_true rfl) rfl cfw_X9_9 (by decide) (by decide) (Nat.le_of_ble_eq_true rfl) (dc dl_X9_init 4 rfl) rfl rfl ?_
  refine k_aload_n (pc := 9) (dc dl_X9_init 5 rfl) rfl rfl ?_
  refine k_iconst (pc := 10) (v := 0) (dc dl_X9_init 6 rfl) ic_0 ?_
  refine K_put (pc := 11) (i := 0) (fs' := [.int 0, .int 0, .int 0, .int 0, .int 0, .int 0, .int 0, .null, .null, .null, .null, .null, .null, .null, .null, .null, .null, .null, .null]) (L' := [(0, .inr (9, [.int 0, .int 0, .int 0, .int 0, .int 0, .int 0, .int 0, .null, .null, .null, .null, .null, .null, .null, .null, .null, .null, .null, .null]))]) hA (Nat.le_of_ble_eq_true rfl) rfl cfw_X9_15 (by decide) (by decide) (Nat.le_of_ble_eq_true rfl) (dc dl_X9_init 7 rfl) rfl rfl ?_
  refine k_aload_n (pc := 14) (dc dl_X9_init 8 rfl) rfl rfl ?_
  refine k_iconst (pc := 15) (v := 0) (dc dl_X9_init 9 rfl) ic_0 ?_
  refine K_put (pc := 16) (i := 0) (fs' := [.int 0, .int 0, .int 0, .int 0, .int 0, .int 0, .int 0, .null, .null, .null, .null, .null, .null, .null, .null, .null, .null, .null, .null]) (L' := [(0, .inr (9, [.int 0, .int 0, .int 0, .int 0, .int 0, .int 0, .int 0, .null, .null, .null, .null, .null, .null, .null, .null, .null, .null, .null, .null]))]) hA (Nat.le_of_ble_eq_true rfl) rfl cfw_X9_18 (by decide) (by decide) (Nat.le_of_ble_eq_true rfl) (dc dl_X9_init 10 rfl) rfl rfl ?_
  refine k_aload_n (pc := 19) (dc dl_X9_init 11 rfl) rfl rfl ?_
  refine k_iconst (pc := 20) (v := 0) (dc dl_X9_init 12 rfl) ic_0 ?_
  refine K_put (pc := 21) (i := 0) (fs' := [.int 0, .int 0, .int 0, .int 0, .int 0, .int 0, .int 0, .null, .null, .null, .null, .null, .null, .null, .null, .null, .null, .null, .null]) (L' := [(0, .inr (9, [.int 0, .int 0, .int 0, .int 0, .int 0, .int 0, .int 0, .null, .null, .null, .null, .null, .null, .null, .null, .null, .null, .null, .null]))]) hA (Nat.le_of_ble_eq_true rfl) rfl cfw_X9_21 (by decide) (by decide) (Nat.le_of_ble_eq_true rfl) (dc dl_X9_init 13 rfl) rfl rfl ?_
  refine k_aload_n (pc := 24) (dc dl_X9_init 14 rfl) rfl rfl ?_
  refine k_iconst (pc := 25) (v := 0) (dc dl_X9_init 15 rfl) ic_0 ?_
  refine K_put (pc := 26) (i := 0) (fs' := [.int 0, .int 0, .int 0, .int 0, .int 0, .int 0, .int 0, .null, .null, .null, .null, .null, .null, .null, .null, .null, .null, .null, .null]) (L' := [(0, .inr (9, [.int 0, .int 0, .int 0, .int 0, .int 0, .int 0, .int 0, .null, .null, .null, .null, .null, .null, .null, .null, .null, .null, .null, .null]))]) hA (Nat.le_of_ble_eq_true rfl) rfl cfw_X9_24 (by decide) (by decide) (Nat.le_of_ble_eq_true rfl) (dc dl_X9_init 16 rfl) rfl rfl ?_
  refine k_aload_n (pc := 29) (dc dl_X9_init 17 rfl) rfl rfl ?_
  refine k_iconst (pc := 30) (v := 0) (dc dl_X9_init 18 rfl) ic_0 ?_
  refine K_put (pc := 31) (i := 0) (fs' := [.int 0, .int 0, .int 0, .int 0, .int 0, .int 0, .int 0, .null, .null, .null, .null, .null, .null, .null, .null, .null, .null, .null, .null]) (L' := [(0, .inr (9, [.int 0, .int 0, .int 0, .int 0, .int 0, .int 0, .int 0, .null, .null, .null, .null, .null, .null, .null, .null, .null, .null, .null, .null]))]) hA (Nat.le_of_ble_eq_true rfl) rfl cfw_X9_27 (by decide) (by decide) (Nat.le_of_ble_eq_true rfl) (dc dl_X9_init 19 rfl) rfl rfl ?_
  refine k_aload_n (pc := 34) (dc dl_X9_init 20 rfl) rfl rfl ?_
  refine k_bipush (pc := 35) (v := 12) (dc dl_X9_init 21 rfl) bi_12 ?_
  refine K_newaF (pc := 37) (N := 12) hA (Nat.le_of_ble_eq_true rfl) (by decide) (by decide) (Nat.le_of_ble_eq_true rfl) ⟨Nat.le_of_ble_eq_true rfl, Nat.le_of_ble_eq_true rfl⟩ rfl rfl rfl (dc dl_X9_init 22 rfl) rfl rfl rfl ?_
  refine K_putF (pc := 39) (i := 0) (fs' := [.int 0, .int 0, .int 0, .int 0, .int 0, .int 0, .int 0, .ref (ad 1), .null, .null, .null, .null, .null, .null, .null, .null, .null, .null, .null]) (L' := [(0, .inr (9, [.int 0, .int 0, .int 0, .int 0, .int 0, .int 0, .int 0, .ref (ad 1), .null, .null, .null, .null, .null, .null, .null, .null, .null, .null, .null]))]) hA (Nat.le_of_ble_eq_true rfl) rfl cfx_X9_30 (by rfl) (by rfl) (Nat.le_of_ble_eq_true rfl) (dc dl_X9_init 23 rfl) rfl rfl ?_
  refine k_aload_n (pc := 42) (dc dl_X9_init 24 rfl) rfl rfl ?_
  refine k_bipush (pc := 43) (v := 12) (dc dl_X9_init 25 rfl) bi_12 ?_
  refine K_newaF (pc := 45) (N := 12) hA (Nat.le_of_ble_eq_true rfl) (by decide) (by decide) (Nat.le_of_ble_eq_true rfl) ⟨Nat.le_of_ble_eq_true rfl, Nat.le_of_ble_eq_true rfl⟩ rfl rfl rfl (dc dl_X9_init 26 rfl) rfl rfl rfl ?_
  refine K_putF (pc := 47) (i := 0) (fs' := [.int 0, .int 0, .int 0, .int 0, .int 0, .int 0, .int 0, .ref (ad 1), .ref (ad 2), .null, .null, .null, .null, .null, .null, .null, .null, .null, .null]) (L' := [(0, .inr (9, [.int 0, .int 0, .int 0, .int 0, .int 0, .int 0, .int 0, .ref (ad 1), .ref (ad 2), .null, .null, .null, .null, .null, .null, .null, .null, .null, .null]))]) hA (Nat.le_of_ble_eq_true rfl) rfl cfx_X9_34 (by rfl) (by rfl) (Nat.le_of_ble_eq_true rfl) (dc dl_X9_init 27 rfl) rfl rfl ?_
  refine k_aload_n (pc := 50) (dc dl_X9_init 28 rfl) rfl rfl ?_
  refine k_bipush (pc := 51) (v := 12) (dc dl_X9_init 29 rfl) bi_12 ?_
  refine K_newaF (pc := 53) (N := 12) hA (Nat.le_of_ble_eq_true rfl) (by decide) (by decide) (Nat.le_of_ble_eq_true rfl) ⟨Nat.le_of_ble_eq_true rfl, Nat.le_of_ble_eq_true rfl⟩ rfl rfl rfl (dc dl_X9_init 30 rfl) rfl rfl rfl ?_
  refine K_putF (pc := 55) (i := 0) (fs' := [.int 0, .int 0, .int 0, .int 0, .int 0, .int 0, .int 0, .ref (ad 1), .ref (ad 2), .ref (ad 3), .null, .null, .null, .null, .null, .null, .null, .null, .null]) (L' := [(0, .inr (9, [.int 0, .int 0, .int 0, .int 0, .int 0, .int 0, .int 0, .ref (ad 1), .ref (ad 2), .ref (ad 3), .null, .null, .null, .null, .null, .null, .null, .null, .null]))]) hA (Nat.le_of_ble_eq_true rfl) rfl cfx_X9_37 (by rfl) (by rfl) (Nat.le_of_ble_eq_true rfl) (dc dl_X9_init 31 rfl) rfl rfl ?_
  refine k_aload_n (pc := 58) (dc dl_X9_init 32 rfl) rfl rfl ?_
  refine k_bipush (pc := 59) (v := 14) (dc dl_X9_init 33 rfl) bi_14 ?_
  refine K_newaF (pc := 61) (N := 14) hA (Nat.le_of_ble_eq_true rfl) (by decide) (by decide) (Nat.le_of_ble_eq_true rfl) ⟨Nat.le_of_ble_eq_true rfl, Nat.le_of_ble_eq_true rfl⟩ rfl rfl rfl (dc dl_X9_init 34 rfl) rfl rfl rfl ?_
  refine K_putF (pc := 63) (i := 0) (fs' := [.int 0, .int 0, .int 0, .int 0, .int 0, .int 0, .int 0, .ref (ad 1), .ref (ad 2), .ref (ad 3), .ref (ad 4), .null, .null, .null, .null, .null, .null, .null, .null]) (L' := [(0, .inr (9, [.int 0, .int 0, .int 0, .int 0, .int 0, .int 0, .int 0, .ref (ad 1), .ref (ad 2), .ref (ad 3), .ref (ad 4), .null, .null, .null, .null, .null, .null, .null, .null]))]) hA (Nat.le_of_ble_eq_true rfl) rfl cfx_X9_40 (by rfl) (by rfl) (Nat.le_of_ble_eq_true rfl) (dc dl_X9_init 35 rfl) rfl rfl ?_
  refine k_aload_n (pc := 66) (dc dl_X9_init 36 rfl) rfl rfl ?_
  refine k_bipush (pc := 67) (v := 14) (dc dl_X9_init 37 rfl) bi_14 ?_
  refine K_newaF (pc := 69) (N := 14) hA (Nat.le_of_ble_eq_true rfl) (by decide) (by decide) (Nat.le_of_ble_eq_true rfl) ⟨Nat.le_of_ble_eq_true rfl, Nat.le_of_ble_eq_true rfl⟩ rfl rfl rfl (dc dl_X9_init 38 rfl) rfl rfl rfl ?_
  refine K_putF (pc := 71) (i := 0) (fs' := [.int 0, .int 0, .int 0, .int 0, .int 0, .int 0, .int 0, .ref (ad 1), .ref (ad 2), .ref (ad 3), .ref (ad 4), .ref (ad 5), .null, .null, .null, .null, .null, .null, .null]) (L' := [(0, .inr (9, [.int 0, .int 0, .int 0, .int 0, .int 0, .int 0, .int 0, .ref (ad 1), .ref (ad 2), .ref (ad 3), .ref (ad 4), .ref (ad 5), .null, .null, .null, .null, .null, .null, .null]))]) hA (Nat.le_of_ble_eq_true rfl) rfl cfx_X9_43 (by rfl) (by rfl) (Nat.le_of_ble_eq_true rfl) (dc dl_X9_init 39 rfl) rfl rfl ?_
  refine k_aload_n (pc := 74) (dc dl_X9_init 40 rfl) rfl rfl ?_
  refine k_bipush (pc := 75) (v := 14) (dc dl_X9_init 41 rfl) bi_14 ?_
  refine K_newaF (pc := 77) (N := 14) hA (Nat.le_of_ble_eq_true rfl) (by decide) (by decide) (Nat.le_of_ble_eq_true rfl) ⟨Nat.le_of_ble_eq_true rfl, Nat.le_of_ble_eq_true rfl⟩ rfl rfl rfl (dc dl_X9_init 42 rfl) rfl rfl rfl ?_
  refine K_putF (pc := 79) (i := 0) (fs' := [.int 0, .int 0, .int 0, .int 0, .int 0, .int 0, .int 0, .ref (ad 1), .ref (ad 2), .ref (ad 3), .ref (ad 4), .ref (ad 5), .ref (ad 6), .null, .null, .null, .null, .null, .null]) (L' := [(0, .inr (9, [.int 0, .int 0, .int 0, .int 0, .int 0, .int 0, .int 0, .ref (ad 1), .ref (ad 2), .ref (ad 3), .ref (ad 4), .ref (ad 5), .ref (ad 6), .null, .null, .null, .null, .null, .null]))]) hA (Nat.le_of_ble_eq_true rfl) rfl cfx_X9_46 (by rfl) (by rfl) (Nat.le_of_ble_eq_true rfl) (dc dl_X9_init 43 rfl) rfl rfl ?_
  refine k_aload_n (pc := 82) (dc dl_X9_init 44 rfl) rfl rfl ?_
  refine k_bipush (pc := 83) (v := 56) (dc dl_X9_init 45 rfl) bi_56 ?_
  refine K_newaF (pc := 85) (N := 56) hA (Nat.le_of_ble_eq_true rfl) (by decide) (by decide) (Nat.le_of_ble_eq_true rfl) ⟨Nat.le_of_ble_eq_true rfl, Nat.le_of_ble_eq_true rfl⟩ rfl rfl rfl (dc dl_X9_init 46 rfl) rfl rfl rfl ?_
  refine K_putF (pc := 87) (i := 0) (fs' := [.int 0, .int 0, .int 0, .int 0, .int 0, .int 0, .int 0, .ref (ad 1), .ref (ad 2), .ref (ad 3), .ref (ad 4), .ref (ad 5), .ref (ad 6), .ref (ad 7), .null, .null, .null, .null, .null]) (L' := [(0, .inr (9, [.int 0, .int 0, .int 0, .int 0, .int 0, .int 0, .int 0, .ref (ad 1), .ref (ad 2), .ref (ad 3), .ref (ad 4), .ref (ad 5), .ref (ad 6), .ref (ad 7), .null, .null, .null, .null, .null]))]) hA (Nat.le_of_ble_eq_true rfl) rfl cfx_X9_49 (by rfl) (by rfl) (Nat.le_of_ble_eq_true rfl) (dc dl_X9_init 47 rfl) rfl rfl ?_
  refine k_aload_n (pc := 90) (dc dl_X9_init 48 rfl) rfl rfl ?_
  refine k_bipush (pc := 91) (v := 20) (dc dl_X9_init 49 rfl) bi_20 ?_
  refine K_newaF (pc := 93) (N := 20) hA (Nat.le_of_ble_eq_true rfl) (by decide) (by decide) (Nat.le_of_ble_eq_true rfl) ⟨Nat.le_of_ble_eq_true rfl, Nat.le_of_ble_eq_true rfl⟩ rfl rfl rfl (dc dl_X9_init 50 rfl) rfl rfl rfl ?_
  refine K_putF (pc := 95) (i := 0) (fs' := [.int 0, .int 0, .int 0, .int 0, .int 0, .int 0, .int 0, .ref (ad 1), .ref (ad 2), .ref (ad 3), .ref (ad 4), .ref (ad 5), .ref (ad 6), .ref (ad 7), .ref (ad 8), .null, .null, .null, .null]) (L' := [(0, .inr (9, [.int 0, .int 0, .int 0, .int 0, .int 0, .int 0, .int 0, .ref (ad 1), .ref (ad 2), .ref (ad 3), .ref (ad 4), .ref (ad 5), .ref (ad 6), .ref (ad 7), .ref (ad 8), .null, .null, .null, .null]))]) hA (Nat.le_of_ble_eq_true rfl) rfl cfx_X9_52 (by rfl) (by rfl) (Nat.le_of_ble_eq_true rfl) (dc dl_X9_init 51 rfl) rfl rfl ?_
  refine k_aload_n (pc := 98) (dc dl_X9_init 52 rfl) rfl rfl ?_
  refine k_bipush (pc := 99) (v := 20) (dc dl_X9_init 53 rfl) bi_20 ?_
  refine K_newaF (pc := 101) (N := 20) hA (Nat.le_of_ble_eq_true rfl) (by decide) (by decide) (Nat.le_of_ble_eq_true rfl) ⟨Nat.le_of_ble_eq_true rfl, Nat.le_of_ble_eq_true rfl⟩ rfl rfl rfl (dc dl_X9_init 54 rfl) rfl rfl rfl ?_
  refine K_putF (pc := 103) (i := 0) (fs' := [.int 0, .int 0, .int 0, .int 0, .int 0, .int 0, .int 0, .ref (ad 1), .ref (ad 2), .ref (ad 3), .ref (ad 4), .ref (ad 5), .ref (ad 6), .ref (ad 7), .ref (ad 8), .ref (ad 9), .null, .null, .null]) (L' := [(0, .inr (9, [.int 0, .int 0, .int 0, .int 0, .int 0, .int 0, .int 0, .ref (ad 1), .ref (ad 2), .ref (ad 3), .ref (ad 4), .ref (ad 5), .ref (ad 6), .ref (ad 7), .ref (ad 8), .ref (ad 9), .null, .null, .null]))]) hA (Nat.le_of_ble_eq_true rfl) rfl cfx_X9_55 (by rfl) (by rfl) (Nat.le_of_ble_eq_true rfl) (dc dl_X9_init 55 rfl) rfl rfl ?_
  refine k_aload_n (pc := 106) (dc dl_X9_init 56 rfl) rfl rfl ?_
  refine k_bipush (pc := 107) (v := 20) (dc dl_X9_init 57 rfl) bi_20 ?_
  refine K_newaF (pc := 109) (N := 20) hA (Nat.le_of_ble_eq_true rfl) (by decide) (by decide) (Nat.le_of_ble_eq_true rfl) ⟨Nat.le_of_ble_eq_true rfl, Nat.le_of_ble_eq_true rfl⟩ rfl rfl rfl (dc dl_X9_init 58 rfl) rfl rfl rfl ?_
  refine K_putF (pc := 111) (i := 0) (fs' := [.int 0, .int 0, .int 0, .int 0, .int 0, .int 0, .int 0, .ref (ad 1), .ref (ad 2), .ref (ad 3), .ref (ad 4), .ref (ad 5), .ref (ad 6), .ref (ad 7), .ref (ad 8), .ref (ad 9), .ref (ad 10), .null, .null]) (L' := [(0, .inr (9, [.int 0, .int 0, .int 0, .int 0, .int 0, .int 0, .int 0, .ref (ad 1), .ref (ad 2), .ref (ad 3), .ref (ad 4), .ref (ad 5), .ref (ad 6), .ref (ad 7), .ref (ad 8), .ref (ad 9), .ref (ad 10), .null, .null]))]) hA (Nat.le_of_ble_eq_true rfl) rfl cfx_X9_58 (by rfl) (by rfl) (Nat.le_of_ble_eq_true rfl) (dc dl_X9_init 59 rfl) rfl rfl ?_
  refine k_aload_n (pc := 114) (dc dl_X9_init 60 rfl) rfl rfl ?_
  refine k_bipush (pc := 115) (v := 20) (dc dl_X9_init 61 rfl) bi_20 ?_
  refine K_newaF (pc := 117) (N := 20) hA (Nat.le_of_ble_eq_true rfl) (by decide) (by decide) (Nat.le_of_ble_eq_true rfl) ⟨Nat.le_of_ble_eq_true rfl, Nat.le_of_ble_eq_true rfl⟩ rfl rfl rfl (dc dl_X9_init 62 rfl) rfl rfl rfl ?_
  refine K_putF (pc := 119) (i := 0) (fs' := [.int 0, .int 0, .int 0, .int 0, .int 0, .int 0, .int 0, .ref (ad 1), .ref (ad 2), .ref (ad 3), .ref (ad 4), .ref (ad 5), .ref (ad 6), .ref (ad 7), .ref (ad 8), .ref (ad 9), .ref (ad 10), .ref (ad 11), .null]) (L' := [(0, .inr (9, [.int 0, .int 0, .int 0, .int 0, .int 0, .int 0, .int 0, .ref (ad 1), .ref (ad 2), .ref (ad 3), .ref (ad 4), .ref (ad 5), .ref (ad 6), .ref (ad 7), .ref (ad 8), .ref (ad 9), .ref (ad 10), .ref (ad 11), .null]))]) hA (Nat.le_of_ble_eq_true rfl) rfl cfx_X9_61 (by rfl) (by rfl) (Nat.le_of_ble_eq_true rfl) (dc dl_X9_init 63 rfl) rfl rfl ?_
  refine k_aload_n (pc := 122) (dc dl_X9_init 64 rfl) rfl rfl ?_
  refine k_bipush (pc := 123) (v := 20) (dc dl_X9_init 65 rfl) bi_20 ?_
  refine K_newaF (pc := 125) (N := 20) hA (Nat.le_of_ble_eq_true rfl) (by decide) (by decide) (Nat.le_of_ble_eq_true rfl) ⟨Nat.le_of_ble_eq_true rfl, Nat.le_of_ble_eq_true rfl⟩ rfl rfl rfl (dc dl_X9_init 66 rfl) rfl rfl rfl ?_
  refine K_putF (pc := 127) (i := 0) (fs' := [.int 0, .int 0, .int 0, .int 0, .int 0, .int 0, .int 0, .ref (ad 1), .ref (ad 2), .ref (ad 3), .ref (ad 4), .ref (ad 5), .ref (ad 6), .ref (ad 7), .ref (ad 8), .ref (ad 9), .ref (ad 10), .ref (ad 11), .ref (ad 12)]) (L' := [(0, .inr (9, [.int 0, .int 0, .int 0, .int 0, .int 0, .int 0, .int 0, .ref (ad 1), .ref (ad 2), .ref (ad 3), .ref (ad 4), .ref (ad 5), .ref (ad 6), .ref (ad 7), .ref (ad 8), .ref (ad 9), .ref (ad 10), .ref (ad 11), .ref (ad 12)]))]) hA (Nat.le_of_ble_eq_true rfl) rfl cfx_X9_64 (by rfl) (by rfl) (Nat.le_of_ble_eq_true rfl) (dc dl_X9_init 67 rfl) rfl rfl ?_
  refine k_aload_n (pc := 130) (dc dl_X9_init 68 rfl) rfl rfl ?_
  refine k_iload_n (pc := 131) (dc dl_X9_init 69 rfl) rfl rfl ?_
  refine K_putF (pc := 132) (i := 0) (fs' := [.int 1, .int 0, .int 0, .int 0, .int 0, .int 0, .int 0, .ref (ad 1), .ref (ad 2), .ref (ad 3), .ref (ad 4), .ref (ad 5), .ref (ad 6), .ref (ad 7), .ref (ad 8), .ref (ad 9), .ref (ad 10), .ref (ad 11), .ref (ad 12)]) (L' := [(0, .inr (9, [.int 1, .int 0, .int 0, .int 0, .int 0, .int 0, .int 0, .ref (ad 1), .ref (ad 2), .ref (ad 3), .ref (ad 4), .ref (ad 5), .ref (ad 6), .ref (ad 7), .ref (ad 8), .ref (ad 9), .ref (ad 10), .ref (ad 11), .ref (ad 12)]))]) hA (Nat.le_of_ble_eq_true rfl) rfl cfx_X9_67 (by decide) (by decide) (Nat.le_of_ble_eq_true rfl) (dc dl_X9_init 70 rfl) rfl rfl ?_
  exact K_ret (pc := 135) rfl rfl rfl (dc dl_X9_init 71 rfl)
def sb_X7_init : Bk := fun i => ([[0, 0, 256, 0, 0, 0, 0, -1],
  List.replicate 400 0] : List (List Int32)).getD i []
set_option maxRecDepth 100000 in
set_option maxHeartbeats 8000000 in
theorem ck_X7_init (l : Launch) (G : Gl) : Ck l G mX7_init 1 1 400 lay_Tape sb_X7_init 7 [.int 0, .null, .int 0, .int 0, .int 0, .int 0, .int 0, .int 0] [] := by
  refine ck_of (lvf := fun h0 => [some (.ref h0)]) rfl (Nat.le_of_ble_eq_true rfl) (by decide +kernel) rfl (fun _ => rfl) (fun ad hA hB => ?_)
  rw [opL_one]
  refine k_aload_n (pc := 0) (dc dl_X7_init 0 rfl) rfl rfl ?_
  refine k_obj (pc := 1) cob_X7_3 cobj.1 cobj.2 (Nat.le_of_ble_eq_true rfl) (Nat.le_of_ble_eq_true rfl) (dc dl_X7_init 1 rfl) ?_
  refine k_aload_n (pc := 4) (dc dl_X7_init 2 rfl) rfl rfl ?_
  refine k_iconst (pc := 5) (v := 0) (dc dl_X7_init 3 rfl) ic_0 ?_
  refine K_put (pc := 6) (i := 0) (fs' := [.int 0, .null, .int 0, .int 0, .int 0, .int 0, .int 0, .int 0]) (L' := [(0, .inr (7, [.int 0, .null, .int 0, .int 0, .int 0, .int 0, .int 0, .int 0]))]) hA (Nat.le_of_ble_eq_true rfl) rfl cfw_X7_9 (by decide) (by decide) (Nat.le_of_ble_eq_true rfl) (dc dl_X7_init 4 rfl) rfl rfl ?_
  refine k_aload_n (pc := 9) (dc dl_X7_init 5 rfl) rfl rfl ?_
  refine k_sipush (pc := 10) (v := 400) (dc dl_X7_init 6 rfl) si_400 ?_
  refine K_newaF (pc := 13) (N := 400) hA (Nat.le_of_ble_eq_true rfl) (by decide) (by decide) (Nat.le_of_ble_eq_true rfl) ⟨Nat.le_of_ble_eq_true rfl, Nat.le_of_ble_eq_true rfl⟩ rfl rfl rfl (dc dl_X7_init 7 rfl) rfl rfl rfl ?_
  refine K_putF (pc := 15) (i := 0) (fs' := [.int 0, .ref (ad 1), .int 0, .int 0, .int 0, .int 0, .int 0, .int 0]) (L' := [(0, .inr (7, [.int 0, .ref (ad 1), .int 0, .int 0, .int 0, .int 0, .int 0, .int 0]))]) hA (Nat.le_of_ble_eq_true rfl) rfl cfx_X7_15 (by rfl) (by rfl) (Nat.le_of_ble_eq_true rfl) (dc dl_X7_init 8 rfl) rfl rfl ?_
  refine k_aload_n (pc := 18) (dc dl_X7_init 9 rfl) rfl rfl ?_
  refine k_sipush (pc := 19) (v := 256) (dc dl_X7_init 10 rfl) si_256 ?_
  refine K_put (pc := 22) (i := 0) (fs' := [.int 0, .ref (ad 1), .int 256, .int 0, .int 0, .int 0, .int 0, .int 0]) (L' := [(0, .inr (7, [.int 0, .ref (ad 1), .int 256, .int 0, .int 0, .int 0, .int 0, .int 0]))]) hA (Nat.le_of_ble_eq_true rfl) rfl cfw_X7_19 (by decide) (by decide) (Nat.le_of_ble_eq_true rfl) (dc dl_X7_init 11 rfl) rfl rfl ?_
  refine k_aload_n (pc := 25) (dc dl_X7_init 12 rfl) rfl rfl ?_
  refine k_iconst (pc := 26) (v := 0) (dc dl_X7_init 13 rfl) ic_0 ?_
  refine K_put (pc := 27) (i := 0) (fs' := [.int 0, .ref (ad 1), .int 256, .int 0, .int 0, .int 0, .int 0, .int 0]) (L' := [(0, .inr (7, [.int 0, .ref (ad 1), .int 256, .int 0, .int 0, .int 0, .int 0, .int 0]))]) hA (Nat.le_of_ble_eq_true rfl) rfl cfw_X7_22 (by decide) (by decide) (Nat.le_of_ble_eq_true rfl) (dc dl_X7_init 14 rfl) rfl rfl ?_
  refine k_aload_n (pc := 30) (dc dl_X7_init 15 rfl) rfl rfl ?_
  refine k_iconst (pc := 31) (v := 0) (dc dl_X7_init 16 rfl) ic_0 ?_
  refine K_put (pc := 32) (i := 0) (fs' := [.int 0, .ref (ad 1), .int 256, .int 0, .int 0, .int 0, .int 0, .int 0]) (L' := [(0, .inr (7, [.int 0, .ref (ad 1), .int 256, .int 0, .int 0, .int 0, .int 0, .int 0]))]) hA (Nat.le_of_ble_eq_true rfl) rfl cfw_X7_25 (by decide) (by decide) (Nat.le_of_ble_eq_true rfl) (dc dl_X7_init 17 rfl) rfl rfl ?_
  refine k_aload_n (pc := 35) (dc dl_X7_init 18 rfl) rfl rfl ?_
  refine k_iconst (pc := 36) (v := 0) (dc dl_X7_init 19 rfl) ic_0 ?_
  refine K_put (pc := 37) (i := 0) (fs' := [.int 0, .ref (ad 1), .int 256, .int 0, .int 0, .int 0, .int 0, .int 0]) (L' := [(0, .inr (7, [.int 0, .ref (ad 1), .int 256, .int 0, .int 0, .int 0, .int 0, .int 0]))]) hA (Nat.le_of_ble_eq_true rfl) rfl cfw_X7_28 (by decide) (by decide) (Nat.le_of_ble_eq_true rfl) (dc dl_X7_init 20 rfl) rfl rfl ?_
  refine k_aload_n (pc := 40) (dc dl_X7_init 21 rfl) rfl rfl ?_
  refine k_iconst (pc := 41) (v := 0) (dc dl_X7_init 22 rfl) ic_0 ?_
  refine K_put (pc := 42) (i := 0) (fs' := [.int 0, .ref (ad 1), .int 256, .int 0, .int 0, .int 0, .int 0, .int 0]) (L' := [(0, .inr (7, [.int 0, .ref (ad 1), .int 256, .int 0, .int 0, .int 0, .int 0, .int 0]))]) hA (Nat.le_of_ble_eq_true rfl) rfl cfw_X7_31 (by decide) (by decide) (Nat.le_of_ble_eq_true rfl) (dc dl_X7_init 23 rfl) rfl rfl ?_
  refine k_aload_n (pc := 45) (dc dl_X7_init 24 rfl) rfl rfl ?_
  refine k_iconst (pc := 46) (v := (-1)) (dc dl_X7_init 25 rfl) ic_m1 ?_
  refine K_put (pc := 47) (i := 0) (fs' := [.int 0, .ref (ad 1), .int 256, .int 0, .int 0, .int 0, .int 0, .int (-1)]) (L' := [(0, .inr (7, [.int 0, .ref (ad 1), .int 256, .int 0, .int 0, .int 0, .int 0, .int (-1)]))]) hA (Nat.le_of_ble_eq_true rfl) rfl cfw_X7_34 (by decide) (by decide) (Nat.le_of_ble_eq_true rfl) (dc dl_X7_init 26 rfl) rfl rfl ?_
  exact K_ret (pc := 50) rfl rfl rfl (dc dl_X7_init 27 rfl)
def sb_X3_init : Bk := fun i => ([List.replicate 1 0,
  List.replicate 8 0,
  List.replicate 16 0,
  List.replicate 16 0,
  List.replicate 16 0,
  List.replicate 16 0,
  List.replicate 400 0,
  List.replicate 400 0] : List (List Int32)).getD i []
theorem sbk_ck_X3_init_1 : ∀ i, i < lay_Law.length → sb_X3_init (1 + i) = sb_X2_init i := by decide +kernel
set_option maxRecDepth 100000 in
set_option maxHeartbeats 8000000 in
theorem ck_X3_init (l : Launch) (G : Gl) : Ck l G mX3_init 2 7 872 lay_LawReader sb_X3_init 3 [.null] [] := by
  refine ck_of (lvf := fun h0 => [some (.ref h0)]) rfl (Nat.le_of_ble_eq_true rfl) (by decide +kernel) rfl (fun _ => rfl) (fun ad hA hB => ?_)
  rw [opL_one]
  refine k_aload_n (pc := 0) (dc dl_X3_init 0 rfl) rfl rfl ?_
  refine k_obj (pc := 1) cob_X3_3 cobj.1 cobj.2 (Nat.le_of_ble_eq_true rfl) (Nat.le_of_ble_eq_true rfl) (dc dl_X3_init 1 rfl) ?_
  refine k_aload_n (pc := 4) (dc dl_X3_init 2 rfl) rfl rfl ?_
  refine K_new (pc := 5) (fs := [.int 0, .int 0, .null, .null, .null, .null, .null, .null]) (ci := 2) (L' := [(0, .inr (3, [.null])), (1, .inr (2, [.int 0, .int 0, .null, .null, .null, .null, .null, .null]))]) hA (Nat.le_of_ble_eq_true rfl) rfl ⟨Nat.le_of_ble_eq_true rfl, Nat.le_of_ble_eq_true rfl⟩ rfl rfl rfl ccl_X3_9 cin_2.1 cin_2.2 cf_2 tyX2_ok cdf_2 (dc dl_X3_init 3 rfl) rfl ?_
  refine k_dup (pc := 8) (dc dl_X3_init 4 rfl) rfl ?_
  refine K_init (pc := 9) (k0 := 1) (fs := [.int 0, .int 0, .null, .null, .null, .null, .null, .null]) (L' := [(0, .inr (3, [.null]))]) hA hB (Nat.le_of_ble_eq_true rfl) rfl rfl (callsK_IN (As := []) (rest := [.ref (ad 1), .ref (ad 0)]) rfl rfl (dc dl_X3_init 5 rfl) cmo_X2_init.1 cmo_X2_init.2 cml_X3_11 ⟨Nat.le_of_ble_eq_true rfl, Nat.le_of_ble_eq_true rfl⟩ rfl rfl (Nat.le_of_ble_eq_true rfl) ⟨Nat.le_of_ble_eq_true rfl, Nat.le_of_ble_eq_true rfl⟩) (ck_X2_init l G) css_LawReader_Law_1 (sbk_ck_X3_init_1 ) rfl (Nat.le_of_ble_eq_true rfl) rfl rfl rfl rfl rfl ?_
  refine K_putF (pc := 12) (i := 0) (fs' := [.ref (ad 1)]) (L' := [(0, .inr (3, [.ref (ad 1)]))]) hA (Nat.le_of_ble_eq_true rfl) rfl cfx_X3_12 (by rfl) (by rfl) (Nat.le_of_ble_eq_true rfl) (dc dl_X3_init 6 rfl) rfl rfl ?_
  exact K_ret (pc := 15) rfl rfl rfl (dc dl_X3_init 7 rfl)
def sb_X4_init : Bk := fun i => ([List.replicate 2 0,
  List.replicate 5 0,
  List.replicate 16 0,
  List.replicate 16 0,
  List.replicate 16 0,
  List.replicate 16 0] : List (List Int32)).getD i []
theorem sbk_ck_X4_init_1 : ∀ i, i < lay_Lines.length → sb_X4_init (1 + i) = sb_X5_init i := by decide +kernel
set_option maxRecDepth 100000 in
set_option maxHeartbeats 8000000 in
theorem ck_X4_init (l : Launch) (G : Gl) : Ck l G mX4_init 2 5 69 lay_LineReader sb_X4_init 4 [.null, .int 0] [] := by
  refine ck_of (lvf := fun h0 => [some (.ref h0)]) rfl (Nat.le_of_ble_eq_true rfl) (by decide +kernel) rfl (fun _ => rfl) (fun ad hA hB => ?_)
  rw [opL_one]
  refine k_aload_n (pc := 0) (dc dl_X4_init 0 rfl) rfl rfl ?_
  refine k_obj (pc := 1) cob_X4_3 cobj.1 cobj.2 (Nat.le_of_ble_eq_true rfl) (Nat.le_of_ble_eq_true rfl) (dc dl_X4_init 1 rfl) ?_
  refine k_aload_n (pc := 4) (dc dl_X4_init 2 rfl) rfl rfl ?_
  refine K_new (pc := 5) (fs := [.int 0, .null, .null, .null, .null]) (ci := 5) (L' := [(0, .inr (4, [.null, .int 0])), (1, .inr (5, [.int 0, .null, .null, .null, .null]))]) hA (Nat.le_of_ble_eq_true rfl) rfl ⟨Nat.le_of_ble_eq_true rfl, Nat.le_of_ble_eq_true rfl⟩ rfl rfl rfl ccl_X4_9 cin_5.1 cin_5.2 cf_5 tyX5_ok cdf_5 (dc dl_X4_init 3 rfl) rfl ?_
  refine k_dup (pc := 8) (dc dl_X4_init 4 rfl) rfl ?_
  refine K_init (pc := 9) (k0 := 1) (fs := [.int 0, .null, .null, .null, .null]) (L' := [(0, .inr (4, [.null, .int 0]))]) hA hB (Nat.le_of_ble_eq_true rfl) rfl rfl (callsK_IN (As := []) (rest := [.ref (ad 1), .ref (ad 0)]) rfl rfl (dc dl_X4_init 5 rfl) cmo_X5_init.1 cmo_X5_init.2 cml_X4_11 ⟨Nat.le_of_ble_eq_true rfl, Nat.le_of_ble_eq_true rfl⟩ rfl rfl (Nat.le_of_ble_eq_true rfl) ⟨Nat.le_of_ble_eq_true rfl, Nat.le_of_ble_eq_true rfl⟩) (ck_X5_init l G) css_LineReader_Lines_1 (sbk_ck_X4_init_1 ) rfl (Nat.le_of_ble_eq_true rfl) rfl rfl rfl rfl rfl ?_
  refine K_putF (pc := 12) (i := 0) (fs' := [.ref (ad 1), .int 0]) (L' := [(0, .inr (4, [.ref (ad 1), .int 0]))]) hA (Nat.le_of_ble_eq_true rfl) rfl cfx_X4_12 (by rfl) (by rfl) (Nat.le_of_ble_eq_true rfl) (dc dl_X4_init 6 rfl) rfl rfl ?_
  refine k_aload_n (pc := 15) (dc dl_X4_init 7 rfl) rfl rfl ?_
  refine k_iconst (pc := 16) (v := 0) (dc dl_X4_init 8 rfl) ic_0 ?_
  refine K_put (pc := 17) (i := 0) (fs' := [.ref (ad 1), .int 0]) (L' := [(0, .inr (4, [.ref (ad 1), .int 0]))]) hA (Nat.le_of_ble_eq_true rfl) rfl cfw_X4_18 (by decide) (by decide) (Nat.le_of_ble_eq_true rfl) (dc dl_X4_init 9 rfl) rfl rfl ?_
  exact K_ret (pc := 20) rfl rfl rfl (dc dl_X4_init 10 rfl)
def sb_X6_init : Bk := fun i => ([List.replicate 4 0,
  List.replicate 12 0,
  List.replicate 7 0,
  List.replicate 16 0] : List (List Int32)).getD i []
set_option maxRecDepth 100000 in
set_option maxHeartbeats 8000000 in
theorem ck_X6_init (l : Launch) (G : Gl) : Ck l G mX6_init 1 3 35 lay_Puzzles sb_X6_init 6 [.null, .null, .int 0, .null] [] := by
  refine ck_of (lvf := fun h0 => [some (.ref h0)]) rfl (Nat.le_of_ble_eq_true rfl) (by decide +kernel) rfl (fun _ => rfl) (fun ad hA hB => ?_)
  rw [opL_one]
  refine k_aload_n (pc := 0) (dc dl_X6_init 0 rfl) rfl rfl ?_
  refine k_obj (pc := 1) cob_X6_3 cobj.1 cobj.2 (Nat.le_of_ble_eq_true rfl) (Nat.le_of_ble_eq_true rfl) (dc dl_X6_init 1 rfl) ?_
  refine k_aload_n (pc := 4) (dc dl_X6_init 2 rfl) rfl rfl ?_
  refine k_bipush (pc := 5) (v := 12) (dc dl_X6_init 3 rfl) bi_12 ?_
  refine K_newaF (pc := 7) (N := 12) hA (Nat.le_of_ble_eq_true rfl) (by decide) (by decide) (Nat.le_of_ble_eq_true rfl) ⟨Nat.le_of_ble_eq_true rfl, Nat.le_of_ble_eq_true rfl⟩ rfl rfl rfl (dc dl_X6_init 4 rfl) rfl rfl rfl ?_
  refine K_putF (pc := 9) (i := 0) (fs' := [.ref (ad 1), .null, .int 0, .null]) (L' := [(0, .inr (6, [.ref (ad 1), .null, .int 0, .null]))]) hA (Nat.le_of_ble_eq_true rfl) rfl cfx_X6_9 (by rfl) (by rfl) (Nat.le_of_ble_eq_true rfl) (dc dl_X6_init 5 rfl) rfl rfl ?_
  refine k_aload_n (pc := 12) (dc dl_X6_init 6 rfl) rfl rfl ?_
  refine k_bipush (pc := 13) (v := 7) (dc dl_X6_init 7 rfl) bi_7 ?_
  refine K_newaF (pc := 15) (N := 7) hA (Nat.le_of_ble_eq_true rfl) (by decide) (by decide) (Nat.le_of_ble_eq_true rfl) ⟨Nat.le_of_ble_eq_true rfl, Nat.le_of_ble_eq_true rfl⟩ rfl rfl rfl (dc dl_X6_init 8 rfl) rfl rfl rfl ?_
  refine K_putF (pc := 17) (i := 0) (fs' := [.ref (ad 1), .ref (ad 2), .int 0, .null]) (L' := [(0, .inr (6, [.ref (ad 1), .ref (ad 2), .int 0, .null]))]) hA (Nat.le_of_ble_eq_true rfl) rfl cfx_X6_15 (by rfl) (by rfl) (Nat.le_of_ble_eq_true rfl) (dc dl_X6_init 9 rfl) rfl rfl ?_
  refine k_aload_n (pc := 20) (dc dl_X6_init 10 rfl) rfl rfl ?_
  refine k_iconst (pc := 21) (v := 0) (dc dl_X6_init 11 rfl) ic_0 ?_
  refine K_put (pc := 22) (i := 0) (fs' := [.ref (ad 1), .ref (ad 2), .int 0, .null]) (L' := [(0, .inr (6, [.ref (ad 1), .ref (ad 2), .int 0, .null]))]) hA (Nat.le_of_ble_eq_true rfl) rfl cfw_X6_18 (by decide) (by decide) (Nat.le_of_ble_eq_true rfl) (dc dl_X6_init 12 rfl) rfl rfl ?_
  refine k_aload_n (pc := 25) (dc dl_X6_init 13 rfl) rfl rfl ?_
  refine k_bipush (pc := 26) (v := 16) (dc dl_X6_init 14 rfl) bi_16 ?_
  refine K_newaF (pc := 28) (N := 16) hA (Nat.le_of_ble_eq_true rfl) (by decide) (by decide) (Nat.le_of_ble_eq_true rfl) ⟨Nat.le_of_ble_eq_true rfl, Nat.le_of_ble_eq_true rfl⟩ rfl rfl rfl (dc dl_X6_init 15 rfl) rfl rfl rfl ?_
  refine K_putF (pc := 30) (i := 0) (fs' := [.ref (ad 1), .ref (ad 2), .int 0, .ref (ad 3)]) (L' := [(0, .inr (6, [.ref (ad 1), .ref (ad 2), .int 0, .ref (ad 3)]))]) hA (Nat.le_of_ble_eq_true rfl) rfl cfx_X6_22 (by rfl) (by rfl) (Nat.le_of_ble_eq_true rfl) (dc dl_X6_init 16 rfl) rfl rfl ?_
  exact K_ret (pc := 33) rfl rfl rfl (dc dl_X6_init 17 rfl)
