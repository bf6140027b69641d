/-- the law's loop, as a function on banks: the class's cells from 0 on, the reference's from 211 on -/
def gLaw (L : Nat) (xs : Nat → Int32) : MM Int32 :=
  loopC 100000 (fun (self1 : Int32 → MM Int32) (s2 : Int32) =>
  (if ((Int32.ofNat L) - 6) < s2 then
  pr 1
  else
  bd (lx L xs s2) fun v3 =>
  jn (fun (a5 : Unit) =>
  lt (s2 + 6) fun y6 =>
  self1 y6) (fun j4 =>
  swt (v3 &&& 63) 0 [bd (lx L xs (s2 + 1)) fun v7 =>
  bd (lf rKL 211 (gX10_state v7)) fun r8 =>
  bd (lx L xs (s2 + 1)) fun v9 =>
  bd (lf rMo 38 (gX11_state v9)) fun r10 =>
  (if r8 = r10 then
  j4 ()
  else
  fl),
  bd (lx L xs (s2 + 1)) fun v11 =>
  bd (lf rKL 211 (gX10_person v11)) fun r12 =>
  bd (lx L xs (s2 + 1)) fun v13 =>
  bd (lf rMo 38 (gX11_person v13)) fun r14 =>
  (if r12 = r14 then
  j4 ()
  else
  fl),
  bd (lx L xs (s2 + 1)) fun v15 =>
  bd (lf rKL 211 (gX10_cloth v15)) fun r16 =>
  bd (lx L xs (s2 + 1)) fun v17 =>
  bd (lf rMo 38 (gX11_cloth v17)) fun r18 =>
  (if r16 = r18 then
  j4 ()
  else
  fl),
  bd (lx L xs (s2 + 1)) fun v19 =>
  bd (lx L xs (s2 + 2)) fun v20 =>
  bd (lf rKL 211 (gX10_thing v19 v20)) fun r21 =>
  bd (lx L xs (s2 + 1)) fun v22 =>
  bd (lx L xs (s2 + 2)) fun v23 =>
  bd (lf rMo 38 (gX11_thing v22 v23)) fun r24 =>
  (if r21 = r24 then
  j4 ()
  else
  fl),
  bd (lx L xs (s2 + 1)) fun v25 =>
  bd (lx L xs (s2 + 2)) fun v26 =>
  bd (lx L xs (s2 + 3)) fun v27 =>
  bd (lf rKL 211 (gX10_set v25 v26 v27)) fun r28 =>
  bd (lx L xs (s2 + 1)) fun v29 =>
  bd (lx L xs (s2 + 2)) fun v30 =>
  bd (lx L xs (s2 + 3)) fun v31 =>
  bd (lf rMo 38 (gX11_set v29 v30 v31)) fun r32 =>
  (if r28 = r32 then
  j4 ()
  else
  fl),
  bd (lx L xs (s2 + 1)) fun v33 =>
  bd (lx L xs (s2 + 2)) fun v34 =>
  bd (lx L xs (s2 + 3)) fun v35 =>
  bd (lf rKL 211 (gX10_act v33 v34 v35)) fun r36 =>
  bd (lx L xs (s2 + 1)) fun v37 =>
  bd (lx L xs (s2 + 2)) fun v38 =>
  bd (lx L xs (s2 + 3)) fun v39 =>
  bd (lf rMo 38 (gX11_act v37 v38 v39)) fun r40 =>
  (if r36 = r40 then
  j4 ()
  else
  fl),
  bd (lx L xs (s2 + 1)) fun v41 =>
  bd (lf rKL 211 (gX10_days v41)) fun r42 =>
  bd (lx L xs (s2 + 1)) fun v43 =>
  bd (lf rMo 38 (gX11_days v43)) fun r44 =>
  (if r42 = r44 then
  j4 ()
  else
  fl),
  bd (lx L xs (s2 + 1)) fun v45 =>
  bd (lx L xs (s2 + 2)) fun v46 =>
  bd (lx L xs (s2 + 3)) fun v47 =>
  bd (lx L xs (s2 + 4)) fun v48 =>
  bd (lx L xs (s2 + 5)) fun v49 =>
  bd (lf rKL 211 (gX10_feed v45 v46 v47 v48 v49)) fun r50 =>
  bd (lx L xs (s2 + 1)) fun v51 =>
  bd (lx L xs (s2 + 2)) fun v52 =>
  bd (lx L xs (s2 + 3)) fun v53 =>
  bd (lx L xs (s2 + 4)) fun v54 =>
  bd (lx L xs (s2 + 5)) fun v55 =>
  bd (lf rMo 38 (gX11_feed v51 v52 v53 v54 v55)) fun r56 =>
  (if r50 = r56 then
  j4 ()
  else
  fl),
  bd (lx L xs (s2 + 1)) fun v57 =>
  bd (lf rKL 211 (gX10_end v57)) fun r58 =>
  bd (lx L xs (s2 + 1)) fun v59 =>
  bd (lf rMo 38 (gX11_end v59)) fun r60 =>
  (if r58 = r60 then
  j4 ()
  else
  fl),
  bd (lx L xs (s2 + 1)) fun v61 =>
  bd (lf rKL 211 (gX10_text v61)) fun r62 =>
  bd (lx L xs (s2 + 1)) fun v63 =>
  bd (lf rMo 38 (gX11_text v63)) fun r64 =>
  (if r62 = r64 then
  j4 ()
  else
  fl),
  bd (lx L xs (s2 + 1)) fun v65 =>
  bd (lf rKL 211 (gX10_fault v65)) fun r66 =>
  bd (lx L xs (s2 + 1)) fun v67 =>
  bd (lf rMo 38 (gX11_fault v67)) fun r68 =>
  (if r66 = r68 then
  j4 ()
  else
  fl),
  bd (lx L xs (s2 + 1)) fun v69 =>
  bd (lx L xs (s2 + 2)) fun v70 =>
  bd (lf rKL 211 (gX10_of v69 v70)) fun r71 =>
  bd (lx L xs (s2 + 1)) fun v72 =>
  bd (lx L xs (s2 + 2)) fun v73 =>
  bd (lf rMo 38 (gX11_of v72 v73)) fun r74 =>
  (if r71 = r74 then
  j4 ()
  else
  fl),
  bd (lx L xs (s2 + 1)) fun v75 =>
  bd (lx L xs (s2 + 2)) fun v76 =>
  bd (lf rKL 211 (gX10_clothOf v75 v76)) fun r77 =>
  bd (lx L xs (s2 + 1)) fun v78 =>
  bd (lx L xs (s2 + 2)) fun v79 =>
  bd (lf rMo 38 (gX11_clothOf v78 v79)) fun r80 =>
  (if r77 = r80 then
  j4 ()
  else
  fl),
  bd (lx L xs (s2 + 1)) fun v81 =>
  bd (lx L xs (s2 + 2)) fun v82 =>
  bd (lf rKL 211 (gX10_thingOf v81 v82)) fun r83 =>
  bd (lx L xs (s2 + 1)) fun v84 =>
  bd (lx L xs (s2 + 2)) fun v85 =>
  bd (lf rMo 38 (gX11_thingOf v84 v85)) fun r86 =>
  (if r83 = r86 then
  j4 ()
  else
  fl),
  bd (lx L xs (s2 + 1)) fun v87 =>
  bd (lx L xs (s2 + 2)) fun v88 =>
  bd (lf rKL 211 (gX10_book v87 v88)) fun r89 =>
  bd (lx L xs (s2 + 1)) fun v90 =>
  bd (lx L xs (s2 + 2)) fun v91 =>
  bd (lf rMo 38 (gX11_book v90 v91)) fun r92 =>
  (if r89 = r92 then
  j4 ()
  else
  fl),
  bd (lx L xs (s2 + 1)) fun v93 =>
  bd (lx L xs (s2 + 2)) fun v94 =>
  bd (lf rKL 211 (gX10_goes v93 v94)) fun r95 =>
  bd (lx L xs (s2 + 1)) fun v96 =>
  bd (lx L xs (s2 + 2)) fun v97 =>
  bd (lf rMo 38 (gX11_goes v96 v97)) fun r98 =>
  (if r95 = r98 then
  j4 ()
  else
  fl),
  bd (lx L xs (s2 + 1)) fun v99 =>
  bd (lf rKL 211 (gX10_fate v99)) fun r100 =>
  bd (lx L xs (s2 + 1)) fun v101 =>
  bd (lf rMo 38 (gX11_fate v101)) fun r102 =>
  (if r100 = r102 then
  j4 ()
  else
  fl),
  bd (lx L xs (s2 + 1)) fun v103 =>
  bd (lf rKL 211 (gX10_crossing v103)) fun r104 =>
  bd (lx L xs (s2 + 1)) fun v105 =>
  bd (lf rMo 38 (gX11_crossing v105)) fun r106 =>
  (if r104 = r106 then
  j4 ()
  else
  fl),
  bd (lx L xs (s2 + 1)) fun v107 =>
  bd (lf rKL 211 (gX10_braid v107)) fun r108 =>
  bd (lx L xs (s2 + 1)) fun v109 =>
  bd (lf rMo 38 (gX11_braid v109)) fun r110 =>
  (if r108 = r110 then
  j4 ()
  else
  fl),
  bd (lx L xs (s2 + 1)) fun v111 =>
  bd (lx L xs (s2 + 2)) fun v112 =>
  bd (lf rKL 211 (gX10_turnings v111 v112)) fun r113 =>
  bd (lx L xs (s2 + 1)) fun v114 =>
  bd (lx L xs (s2 + 2)) fun v115 =>
  bd (lf rMo 38 (gX11_turnings v114 v115)) fun r116 =>
  (if r113 = r116 then
  j4 ()
  else
  fl),
  bd (lx L xs (s2 + 1)) fun v117 =>
  bd (lx L xs (s2 + 2)) fun v118 =>
  bd (lx L xs (s2 + 3)) fun v119 =>
  bd (lf rKL 211 (gX10_strip v117 v118 v119)) fun r120 =>
  bd (lx L xs (s2 + 1)) fun v121 =>
  bd (lx L xs (s2 + 2)) fun v122 =>
  bd (lx L xs (s2 + 3)) fun v123 =>
  bd (lf rMo 38 (gX11_strip v121 v122 v123)) fun r124 =>
  (if r120 = r124 then
  j4 ()
  else
  fl),
  bd (lx L xs (s2 + 1)) fun v125 =>
  bd (lf rKL 211 (gX10_answer v125)) fun r126 =>
  bd (lx L xs (s2 + 1)) fun v127 =>
  bd (lf rMo 38 (gX11_answer v127)) fun r128 =>
  (if r126 = r128 then
  j4 ()
  else
  fl),
  bd (lx L xs (s2 + 1)) fun v129 =>
  bd (lf rKL 211 (gX10_boxes v129)) fun r130 =>
  bd (lx L xs (s2 + 1)) fun v131 =>
  bd (lf rMo 38 (gX11_boxes v131)) fun r132 =>
  (if r130 = r132 then
  j4 ()
  else
  fl),
  bd (lx L xs (s2 + 1)) fun v133 =>
  bd (lx L xs (s2 + 2)) fun v134 =>
  bd (lf rKL 211 (gX10_piles v133 v134)) fun r135 =>
  bd (lx L xs (s2 + 1)) fun v136 =>
  bd (lx L xs (s2 + 2)) fun v137 =>
  bd (lf rMo 38 (gX11_piles v136 v137)) fun r138 =>
  (if r135 = r138 then
  j4 ()
  else
  fl),
  bd (lx L xs (s2 + 1)) fun v139 =>
  bd (lf rKL 211 (gX10_dealt v139)) fun r140 =>
  bd (lx L xs (s2 + 1)) fun v141 =>
  bd (lf rMo 38 (gX11_dealt v141)) fun r142 =>
  (if r140 = r142 then
  j4 ()
  else
  fl),
  bd (lx L xs (s2 + 1)) fun v143 =>
  bd (lf rKL 211 (gX10_key v143)) fun r144 =>
  bd (lx L xs (s2 + 1)) fun v145 =>
  bd (lf rMo 38 (gX11_key v145)) fun r146 =>
  (if r144 = r146 then
  j4 ()
  else
  fl),
  bd (lx L xs (s2 + 1)) fun v147 =>
  bd (lx L xs (s2 + 2)) fun v148 =>
  bd (lx L xs (s2 + 3)) fun v149 =>
  bd (lf rKL 211 (gX10_table v147 v148 v149)) fun r150 =>
  bd (lx L xs (s2 + 1)) fun v151 =>
  bd (lx L xs (s2 + 2)) fun v152 =>
  bd (lx L xs (s2 + 3)) fun v153 =>
  bd (lf rMo 38 (gX11_table v151 v152 v153)) fun r154 =>
  (if r150 = r154 then
  j4 ()
  else
  fl),
  bd (lx L xs (s2 + 1)) fun v155 =>
  bd (lf rKL 211 (gX10_ask v155)) fun r156 =>
  bd (lx L xs (s2 + 1)) fun v157 =>
  bd (lf rMo 38 (gX11_ask v157)) fun r158 =>
  (if r156 = r158 then
  j4 ()
  else
  fl),
  bd (lx L xs (s2 + 1)) fun v159 =>
  bd (lx L xs (s2 + 2)) fun v160 =>
  bd (lf rKL 211 (gX10_pages v159 v160)) fun r161 =>
  bd (lx L xs (s2 + 1)) fun v162 =>
  bd (lx L xs (s2 + 2)) fun v163 =>
  bd (lf rMo 38 (gX11_pages v162 v163)) fun r164 =>
  (if r161 = r164 then
  j4 ()
  else
  fl),
  bd (lx L xs (s2 + 1)) fun v165 =>
  bd (lx L xs (s2 + 2)) fun v166 =>
  bd (lf rKL 211 (gX10_truth v165 v166)) fun r167 =>
  bd (lx L xs (s2 + 1)) fun v168 =>
  bd (lx L xs (s2 + 2)) fun v169 =>
  bd (lf rMo 38 (gX11_truth v168 v169)) fun r170 =>
  (if r167 = r170 then
  j4 ()
  else
  fl),
  bd (lx L xs (s2 + 1)) fun v171 =>
  bd (lx L xs (s2 + 2)) fun v172 =>
  bd (lx L xs (s2 + 3)) fun v173 =>
  bd (lf rKL 211 (gX10_rounds v171 v172 v173)) fun r174 =>
  bd (lx L xs (s2 + 1)) fun v175 =>
  bd (lx L xs (s2 + 2)) fun v176 =>
  bd (lx L xs (s2 + 3)) fun v177 =>
  bd (lf rMo 38 (gX11_rounds v175 v176 v177)) fun r178 =>
  (if r174 = r178 then
  j4 ()
  else
  fl),
  bd (lx L xs (s2 + 1)) fun v179 =>
  bd (lx L xs (s2 + 2)) fun v180 =>
  bd (lx L xs (s2 + 3)) fun v181 =>
  bd (lf rKL 211 (gX10_meets v179 v180 v181)) fun r182 =>
  bd (lx L xs (s2 + 1)) fun v183 =>
  bd (lx L xs (s2 + 2)) fun v184 =>
  bd (lx L xs (s2 + 3)) fun v185 =>
  bd (lf rMo 38 (gX11_meets v183 v184 v185)) fun r186 =>
  (if r182 = r186 then
  j4 ()
  else
  fl),
  bd (lx L xs (s2 + 1)) fun v187 =>
  bd (lx L xs (s2 + 2)) fun v188 =>
  bd (lf rKL 211 (gX10_rows v187 v188)) fun r189 =>
  bd (lx L xs (s2 + 1)) fun v190 =>
  bd (lx L xs (s2 + 2)) fun v191 =>
  bd (lf rMo 38 (gX11_rows v190 v191)) fun r192 =>
  (if r189 = r192 then
  j4 ()
  else
  fl),
  bd (lx L xs (s2 + 1)) fun v193 =>
  bd (lf rKL 211 (gX10_digit v193)) fun r194 =>
  bd (lx L xs (s2 + 1)) fun v195 =>
  bd (lf rMo 38 (gX11_digit v195)) fun r196 =>
  (if r194 = r196 then
  j4 ()
  else
  fl),
  bd (lx L xs (s2 + 1)) fun v197 =>
  bd (lx L xs (s2 + 2)) fun v198 =>
  bd (lf rKL 211 (gX10_spelt v197 v198)) fun r199 =>
  bd (lx L xs (s2 + 1)) fun v200 =>
  bd (lx L xs (s2 + 2)) fun v201 =>
  bd (lf rMo 38 (gX11_spelt v200 v201)) fun r202 =>
  (if r199 = r202 then
  j4 ()
  else
  fl),
  bd (lx L xs (s2 + 1)) fun v203 =>
  bd (lx L xs (s2 + 2)) fun v204 =>
  bd (lf rKL 211 (gX10_game v203 v204)) fun r205 =>
  bd (lx L xs (s2 + 1)) fun v206 =>
  bd (lx L xs (s2 + 2)) fun v207 =>
  bd (lf rMo 38 (gX11_game v206 v207)) fun r208 =>
  (if r205 = r208 then
  j4 ()
  else
  fl),
  bd (lf rKL 211 gX10_undo) fun r209 =>
  bd (lf rMo 38 gX11_undo) fun r210 =>
  (if r209 = r210 then
  j4 ()
  else
  fl),
  bd (lx L xs (s2 + 1)) fun v211 =>
  jn (fun (a213 : Int32) =>
  bd (lf rKL 211 (gX10_image a213)) fun r214 =>
  bd (lx L xs (s2 + 1)) fun v215 =>
  jn (fun (a217 : Int32) =>
  bd (lf rMo 38 (gX11_image a217)) fun r218 =>
  (if r214 = r218 then
  j4 ()
  else
  fl)) (fun j216 =>
  (if v215 = 0 then
  j216 0
  else
  j216 1))) (fun j212 =>
  (if v211 = 0 then
  j212 0
  else
  j212 1)),
  bd (lx L xs (s2 + 1)) fun v219 =>
  bd (lf rKL 211 (gX10_look v219)) fun r220 =>
  bd (lx L xs (s2 + 1)) fun v221 =>
  bd (lf rMo 38 (gX11_look v221)) fun r222 =>
  (if r220 = r222 then
  j4 ()
  else
  fl)]
  (j4 ())))) 0
set_option maxRecDepth 100000 in
set_option maxHeartbeats 40000000 in
theorem sl_law (l : Launch) (G : Gl) (hG : gOk G) (b L : Nat) (xs : Nat → Int32) (cl sl : Nat) (hcs : cl ≤ 600000 ∧ sl ≤ 7302250) (ad : Nat → Nat) : Sl l G b L xs cl sl lay_All ad 18 [some (.ref b), some (.ref (ad 0)), some (.ref (ad 211)), some (.int 0)] [] (gLaw L xs) := by
  unfold gLaw
  refine w_weak (lv' := [some (.ref b), some (.ref (ad 0)), some (.ref (ad 211)), some (.int 0)]) rfl ?_
  refine w_loop (pc := 18) (fun s2 : Int32 => [some (.ref b), some (.ref (ad 0)), some (.ref (ad 211)), some (.int s2)]) [] (fun self1 hself1 s2 => ?_) _ 0
  refine w_iload_n (pc := 18) (dc dl_law_0 10 rfl) rfl rfl ?_
  refine w_aload_n (pc := 19) (dc dl_law_0 11 rfl) rfl rfl ?_
  refine w_xlen (pc := 20) (dc dl_law_0 12 rfl) ?_
  refine w_bipush (pc := 21) (v := 6) (dc dl_law_0 13 rfl) bi_6 ?_
  refine w_isub (pc := 23) (dc dl_law_0 14 rfl) ?_
  refine w_icmp_gt (pc := 24) (tgt := 1403) (dc dl_law_0 15 rfl) rfl ?_ ?_
  · refine w_iconst (pc := 1403) (v := 1) (dc dl_law_24 15 rfl) ic_1 ?_
    exact w_ret1 (pc := 1404) hcs (dc dl_law_24 16 rfl)
  · refine w_aload_n (pc := 27) (dc dl_law_0 16 rfl) rfl rfl ?_
    refine w_iload_n (pc := 28) (dc dl_law_0 17 rfl) rfl rfl ?_
    refine w_xld (pc := 29) (dc dl_law_0 18 rfl) (fun v3 => ?_)
    refine w_bipush (pc := 30) (v := 63) (dc dl_law_0 19 rfl) bi_63 ?_
    refine w_iand (pc := 32) (dc dl_law_0 20 rfl) ?_
    refine w_jn (pj := 1397) (fun a5 : Unit => [some (.ref b), some (.ref (ad 0)), some (.ref (ad 211)), some (.int s2)]) (fun a5 : Unit => []) (fun a5 => ?_) (fun j4 hj4 => ?_)
    · refine w_iincL (pc := 1397) (lf' := fun y6 => [some (.ref b), some (.ref (ad 0)), some (.ref (ad 211)), some (.int y6)]) (dc dl_law_24 13 rfl) rfl rfl (Nat.le_of_ble_eq_true rfl) (fun _ => rfl) (fun y6 => ?_)
      refine w_goto (pc := 1400) (tgt := 18) (dc dl_law_24 14 rfl) rfl ?_
      exact w_wk (hself1 y6) rfl
    · refine w_table (pc := 33) (offs := [171, 194, 217, 240, 273, 316, 359, 382, 445, 468, 491, 514, 547, 580, 613, 646, 679, 702, 725, 748, 781, 824, 847, 870, 903, 926, 949, 992, 1015, 1048, 1081, 1124, 1167, 1200, 1223, 1256, 1289, 1302, 1341]) (tgt := 1397) (dc dl_law_0 21 rfl) (by decide) (by decide) ?_ ⟨⟨204, by decide, ?_⟩, ⟨227, by decide, ?_⟩, ⟨250, by decide, ?_⟩, ⟨273, by decide, ?_⟩, ⟨306, by decide, ?_⟩, ⟨349, by decide, ?_⟩, ⟨392, by decide, ?_⟩, ⟨415, by decide, ?_⟩, ⟨478, by decide, ?_⟩, ⟨501, by decide, ?_⟩, ⟨524, by decide, ?_⟩, ⟨547, by decide, ?_⟩, ⟨580, by decide, ?_⟩, ⟨613, by decide, ?_⟩, ⟨646, by decide, ?_⟩, ⟨679, by decide, ?_⟩, ⟨712, by decide, ?_⟩, ⟨735, by decide, ?_⟩, ⟨758, by decide, ?_⟩, ⟨781, by decide, ?_⟩, ⟨814, by decide, ?_⟩, ⟨857, by decide, ?_⟩, ⟨880, by decide, ?_⟩, ⟨903, by decide, ?_⟩, ⟨936, by decide, ?_⟩, ⟨959, by decide, ?_⟩, ⟨982, by decide, ?_⟩, ⟨1025, by decide, ?_⟩, ⟨1048, by decide, ?_⟩, ⟨1081, by decide, ?_⟩, ⟨1114, by decide, ?_⟩, ⟨1157, by decide, ?_⟩, ⟨1200, by decide, ?_⟩, ⟨1233, by decide, ?_⟩, ⟨1256, by decide, ?_⟩, ⟨1289, by decide, ?_⟩, ⟨1322, by decide, ?_⟩, ⟨1335, by decide, ?_⟩, ⟨1374, by decide, ?_⟩, trivial⟩
      · exact w_wk (hj4 ()) rfl
      · refine w_aload_n (pc := 204) (dc dl_law_0 22 rfl) rfl rfl ?_
        refine w_aload_n (pc := 205) (dc dl_law_0 23 rfl) rfl rfl ?_
        refine w_iload_n (pc := 206) (dc dl_law_0 24 rfl) rfl rfl ?_
        refine w_iconst (pc := 207) (v := 1) (dc dl_law_0 25 rfl) ic_1 ?_
        refine w_iadd (pc := 208) (dc dl_law_0 26 rfl) ?_
        refine w_xld (pc := 209) (dc dl_law_0 27 rfl) (fun v7 => ?_)
        refine w_call (pc := 210) (ρ := rKL) (o := 0) (As := [.int v7]) (rest := []) (subC_KL G ad) rfl (dc dl_law_0 28 rfl) mo_X10_state mv_X10_state lml_13 ⟨Nat.le_of_ble_eq_true rfl, Nat.le_of_ble_eq_true rfl⟩ hcs rfl rfl (Nat.le_of_ble_eq_true rfl) lk_All_0 rfl (cn_X10_state l G hG (fun i => ad (rKL i)) v7) rfl rfl (fun r8 => ?_)
        refine w_aload_n (pc := 213) (dc dl_law_0 29 rfl) rfl rfl ?_
        refine w_aload_n (pc := 214) (dc dl_law_0 30 rfl) rfl rfl ?_
        refine w_iload_n (pc := 215) (dc dl_law_0 31 rfl) rfl rfl ?_
        refine w_iconst (pc := 216) (v := 1) (dc dl_law_0 32 rfl) ic_1 ?_
        refine w_iadd (pc := 217) (dc dl_law_0 33 rfl) ?_
        refine w_xld (pc := 218) (dc dl_law_0 34 rfl) (fun v9 => ?_)
        refine w_call (pc := 219) (ρ := rMo) (o := 211) (As := [.int v9]) (rest := [.int r8]) (subC_of subL_Mo) rfl (dc dl_law_0 35 rfl) mo_X11_state mv_X11_state lml_17 ⟨Nat.le_of_ble_eq_true rfl, Nat.le_of_ble_eq_true rfl⟩ hcs rfl rfl (Nat.le_of_ble_eq_true rfl) lk_All_211 rfl (cn_X11_state l G hG (fun i => ad (rMo i)) v9) rfl rfl (fun r10 => ?_)
        refine w_icmp_eq (pc := 222) (tgt := 1397) (dc dl_law_0 36 rfl) rfl ?_ ?_
        · exact w_wk (hj4 ()) rfl
        · refine w_iconst (pc := 225) (v := 0) (dc dl_law_0 37 rfl) ic_0 ?_
          exact w_fl
      · refine w_aload_n (pc := 227) (dc dl_law_0 39 rfl) rfl rfl ?_
        refine w_aload_n (pc := 228) (dc dl_law_1 0 rfl) rfl rfl ?_
        refine w_iload_n (pc := 229) (dc dl_law_1 1 rfl) rfl rfl ?_
        refine w_iconst (pc := 230) (v := 1) (dc dl_law_1 2 rfl) ic_1 ?_
        refine w_iadd (pc := 231) (dc dl_law_1 3 rfl) ?_
        refine w_xld (pc := 232) (dc dl_law_1 4 rfl) (fun v11 => ?_)
        refine w_call (pc := 233) (ρ := rKL) (o := 0) (As := [.int v11]) (rest := []) (subC_KL G ad) rfl (dc dl_law_1 5 rfl) mo_X10_person mv_X10_person lml_18 ⟨Nat.le_of_ble_eq_true rfl, Nat.le_of_ble_eq_true rfl⟩ hcs rfl rfl (Nat.le_of_ble_eq_true rfl) lk_All_0 rfl (cn_X10_person l G hG (fun i => ad (rKL i)) v11) rfl rfl (fun r12 => ?_)
        refine w_aload_n (pc := 236) (dc dl_law_1 6 rfl) rfl rfl ?_
        refine w_aload_n (pc := 237) (dc dl_law_1 7 rfl) rfl rfl ?_
        refine w_iload_n (pc := 238) (dc dl_law_1 8 rfl) rfl rfl ?_
        refine w_iconst (pc := 239) (v := 1) (dc dl_law_1 9 rfl) ic_1 ?_
        refine w_iadd (pc := 240) (dc dl_law_1 10 rfl) ?_
        refine w_xld (pc := 241) (dc dl_law_1 11 rfl) (fun v13 => ?_)
        refine w_call (pc := 242) (ρ := rMo) (o := 211) (As := [.int v13]) (rest := [.int r12]) (subC_of subL_Mo) rfl (dc dl_law_1 12 rfl) mo_X11_person mv_X11_person lml_21 ⟨Nat.le_of_ble_eq_true rfl, Nat.le_of_ble_eq_true rfl⟩ hcs rfl rfl (Nat.le_of_ble_eq_true rfl) lk_All_211 rfl (cn_X11_person l G hG (fun i => ad (rMo i)) v13) rfl rfl (fun r14 => ?_)
        refine w_icmp_eq (pc := 245) (tgt := 1397) (dc dl_law_1 13 rfl) rfl ?_ ?_
        · exact w_wk (hj4 ()) rfl
        · refine w_iconst (pc := 248) (v := 0) (dc dl_law_1 14 rfl) ic_0 ?_
          exact w_fl
      · refine w_aload_n (pc := 250) (dc dl_law_1 16 rfl) rfl rfl ?_
        refine w_aload_n (pc := 251) (dc dl_law_1 17 rfl) rfl rfl ?_
        refine w_iload_n (pc := 252) (dc dl_law_1 18 rfl) rfl rfl ?_
        refine w_iconst (pc := 253) (v := 1) (dc dl_law_1 19 rfl) ic_1 ?_
        refine w_iadd (pc := 254) (dc dl_law_1 20 rfl) ?_
        refine w_xld (pc := 255) (dc dl_law_1 21 rfl) (fun v15 => ?_)
        refine w_call (pc := 256) (ρ := rKL) (o := 0) (As := [.int v15]) (rest := []) (subC_KL G ad) rfl (dc dl_law_1 22 rfl) mo_X10_cloth mv_X10_cloth lml_22 ⟨Nat.le_of_ble_eq_true rfl, Nat.le_of_ble_eq_true rfl⟩ hcs rfl rfl (Nat.le_of_ble_eq_true rfl) lk_All_0 rfl (cn_X10_cloth l G hG (fun i => ad (rKL i)) v15) rfl rfl (fun r16 => ?_)
        refine w_aload_n (pc := 259) (dc dl_law_1 23 rfl) rfl rfl ?_
        refine w_aload_n (pc := 260) (dc dl_law_1 24 rfl) rfl rfl ?_
        refine w_iload_n (pc := 261) (dc dl_law_1 25 rfl) rfl rfl ?_
        refine w_iconst (pc := 262) (v := 1) (dc dl_law_1 26 rfl) ic_1 ?_
        refine w_iadd (pc := 263) (dc dl_law_1 27 rfl) ?_
        refine w_xld (pc := 264) (dc dl_law_1 28 rfl) (fun v17 => ?_)
        refine w_call (pc := 265) (ρ := rMo) (o := 211) (As := [.int v17]) (rest := [.int r16]) (subC_of subL_Mo) rfl (dc dl_law_1 29 rfl) mo_X11_cloth mv_X11_cloth lml_25 ⟨Nat.le_of_ble_eq_true rfl, Nat.le_of_ble_eq_true rfl⟩ hcs rfl rfl (Nat.le_of_ble_eq_true rfl) lk_All_211 rfl (cn_X11_cloth l G hG (fun i => ad (rMo i)) v17) rfl rfl (fun r18 => ?_)
        refine w_icmp_eq (pc := 268) (tgt := 1397) (dc dl_law_1 30 rfl) rfl ?_ ?_
        · exact w_wk (hj4 ()) rfl
        · refine w_iconst (pc := 271) (v := 0) (dc dl_law_1 31 rfl) ic_0 ?_
          exact w_fl
      · refine w_aload_n (pc := 273) (dc dl_law_1 33 rfl) rfl rfl ?_
        refine w_aload_n (pc := 274) (dc dl_law_1 34 rfl) rfl rfl ?_
        refine w_iload_n (pc := 275) (dc dl_law_1 35 rfl) rfl rfl ?_
        refine w_iconst (pc := 276) (v := 1) (dc dl_law_1 36 rfl) ic_1 ?_
        refine w_iadd (pc := 277) (dc dl_law_1 37 rfl) ?_
        refine w_xld (pc := 278) (dc dl_law_1 38 rfl) (fun v19 => ?_)
        refine w_aload_n (pc := 279) (dc dl_law_1 39 rfl) rfl rfl ?_
        refine w_iload_n (pc := 280) (dc dl_law_2 0 rfl) rfl rfl ?_
        refine w_iconst (pc := 281) (v := 2) (dc dl_law_2 1 rfl) ic_2 ?_
        refine w_iadd (pc := 282) (dc dl_law_2 2 rfl) ?_
        refine w_xld (pc := 283) (dc dl_law_2 3 rfl) (fun v20 => ?_)
        refine w_call (pc := 284) (ρ := rKL) (o := 0) (As := [.int v19, .int v20]) (rest := []) (subC_KL G ad) rfl (dc dl_law_2 4 rfl) mo_X10_thing mv_X10_thing lml_26 ⟨Nat.le_of_ble_eq_true rfl, Nat.le_of_ble_eq_true rfl⟩ hcs rfl rfl (Nat.le_of_ble_eq_true rfl) lk_All_0 rfl (cn_X10_thing l G hG (fun i => ad (rKL i)) v19 v20) rfl rfl (fun r21 => ?_)
        refine w_aload_n (pc := 287) (dc dl_law_2 5 rfl) rfl rfl ?_
        refine w_aload_n (pc := 288) (dc dl_law_2 6 rfl) rfl rfl ?_
        refine w_iload_n (pc := 289) (dc dl_law_2 7 rfl) rfl rfl ?_
        refine w_iconst (pc := 290) (v := 1) (dc dl_law_2 8 rfl) ic_1 ?_
        refine w_iadd (pc := 291) (dc dl_law_2 9 rfl) ?_
        refine w_xld (pc := 292) (dc dl_law_2 10 rfl) (fun v22 => ?_)
        refine w_aload_n (pc := 293) (dc dl_law_2 11 rfl) rfl rfl ?_
        refine w_iload_n (pc := 294) (dc dl_law_2 12 rfl) rfl rfl ?_
        refine w_iconst (pc := 295) (v := 2) (dc dl_law_2 13 rfl) ic_2 ?_
        refine w_iadd (pc := 296) (dc dl_law_2 14 rfl) ?_
        refine w_xld (pc := 297) (dc dl_law_2 15 rfl) (fun v23 => ?_)
        refine w_call (pc := 298) (ρ := rMo) (o := 211) (As := [.int v22, .int v23]) (rest := [.int r21]) (subC_of subL_Mo) rfl (dc dl_law_2 16 rfl) mo_X11_thing mv_X11_thing lml_30 ⟨Nat.le_of_ble_eq_true rfl, Nat.le_of_ble_eq_true rfl⟩ hcs rfl rfl (Nat.le_of_ble_eq_true rfl) lk_All_211 rfl (cn_X11_thing l G hG (fun i => ad (rMo i)) v22 v23) rfl rfl (fun r24 => ?_)
        refine w_icmp_eq (pc := 301) (tgt := 1397) (dc dl_law_2 17 rfl) rfl ?_ ?_
        · exact w_wk (hj4 ()) rfl
        · refine w_iconst (pc := 304) (v := 0) (dc dl_law_2 18 rfl) ic_0 ?_
          exact w_fl
      · refine w_aload_n (pc := 306) (dc dl_law_2 20 rfl) rfl rfl ?_
        refine w_aload_n (pc := 307) (dc dl_law_2 21 rfl) rfl rfl ?_
        refine w_iload_n (pc := 308) (dc dl_law_2 22 rfl) rfl rfl ?_
        refine w_iconst (pc := 309) (v := 1) (dc dl_law_2 23 rfl) ic_1 ?_
        refine w_iadd (pc := 310) (dc dl_law_2 24 rfl) ?_
        refine w_xld (pc := 311) (dc dl_law_2 25 rfl) (fun v25 => ?_)
        refine w_aload_n (pc := 312) (dc dl_law_2 26 rfl) rfl rfl ?_
        refine w_iload_n (pc := 313) (dc dl_law_2 27 rfl) rfl rfl ?_
        refine w_iconst (pc := 314) (v := 2) (dc dl_law_2 28 rfl) ic_2 ?_
        refine w_iadd (pc := 315) (dc dl_law_2 29 rfl) ?_
        refine w_xld (pc := 316) (dc dl_law_2 30 rfl) (fun v26 => ?_)
        refine w_aload_n (pc := 317) (dc dl_law_2 31 rfl) rfl rfl ?_
        refine w_iload_n (pc := 318) (dc dl_law_2 32 rfl) rfl rfl ?_
        refine w_iconst (pc := 319) (v := 3) (dc dl_law_2 33 rfl) ic_3 ?_
        refine w_iadd (pc := 320) (dc dl_law_2 34 rfl) ?_
        refine w_xld (pc := 321) (dc dl_law_2 35 rfl) (fun v27 => ?_)
        refine w_call (pc := 322) (ρ := rKL) (o := 0) (As := [.int v25, .int v26, .int v27]) (rest := []) (subC_KL G ad) rfl (dc dl_law_2 36 rfl) mo_X10_set mv_X10_set lml_31 ⟨Nat.le_of_ble_eq_true rfl, Nat.le_of_ble_eq_true rfl⟩ hcs rfl rfl (Nat.le_of_ble_eq_true rfl) lk_All_0 rfl (cn_X10_set l G hG (fun i => ad (rKL i)) v25 v26 v27) rfl rfl (fun r28 => ?_)
        refine w_aload_n (pc := 325) (dc dl_law_2 37 rfl) rfl rfl ?_
        refine w_aload_n (pc := 326) (dc dl_law_2 38 rfl) rfl rfl ?_
        refine w_iload_n (pc := 327) (dc dl_law_2 39 rfl) rfl rfl ?_
        refine w_iconst (pc := 328) (v := 1) (dc dl_law_3 0 rfl) ic_1 ?_
        refine w_iadd (pc := 329) (dc dl_law_3 1 rfl) ?_
        refine w_xld (pc := 330) (dc dl_law_3 2 rfl) (fun v29 => ?_)
        refine w_aload_n (pc := 331) (dc dl_law_3 3 rfl) rfl rfl ?_
        refine w_iload_n (pc := 332) (dc dl_law_3 4 rfl) rfl rfl ?_
        refine w_iconst (pc := 333) (v := 2) (dc dl_law_3 5 rfl) ic_2 ?_
        refine w_iadd (pc := 334) (dc dl_law_3 6 rfl) ?_
        refine w_xld (pc := 335) (dc dl_law_3 7 rfl) (fun v30 => ?_)
        refine w_aload_n (pc := 336) (dc dl_law_3 8 rfl) rfl rfl ?_
        refine w_iload_n (pc := 337) (dc dl_law_3 9 rfl) rfl rfl ?_
        refine w_iconst (pc := 338) (v := 3) (dc dl_law_3 10 rfl) ic_3 ?_
        refine w_iadd (pc := 339) (dc dl_law_3 11 rfl) ?_
        refine w_xld (pc := 340) (dc dl_law_3 12 rfl) (fun v31 => ?_)
        refine w_call (pc := 341) (ρ := rMo) (o := 211) (As := [.int v29, .int v30, .int v31]) (rest := [.int r28]) (subC_of subL_Mo) rfl (dc dl_law_3 13 rfl) mo_X11_set mv_X11_set lml_35 ⟨Nat.le_of_ble_eq_true rfl, Nat.le_of_ble_eq_true rfl⟩ hcs rfl rfl (Nat.le_of_ble_eq_true rfl) lk_All_211 rfl (cn_X11_set l G hG (fun i => ad (rMo i)) v29 v30 v31) rfl rfl (fun r32 => ?_)
        refine w_icmp_eq (pc := 344) (tgt := 1397) (dc dl_law_3 14 rfl) rfl ?_ ?_
        · exact w_wk (hj4 ()) rfl
        · refine w_iconst (pc := 347) (v := 0) (dc dl_law_3 15 rfl) ic_0 ?_
          exact w_fl
      · refine w_aload_n (pc := 349) (dc dl_law_3 17 rfl) rfl rfl ?_
        refine w_aload_n (pc := 350) (dc dl_law_3 18 rfl) rfl rfl ?_
        refine w_iload_n (pc := 351) (dc dl_law_3 19 rfl) rfl rfl ?_
        refine w_iconst (pc := 352) (v := 1) (dc dl_law_3 20 rfl) ic_1 ?_
        refine w_iadd (pc := 353) (dc dl_law_3 21 rfl) ?_
        refine w_xld (pc := 354) (dc dl_law_3 22 rfl) (fun v33 => ?_)
        refine w_aload_n (pc := 355) (dc dl_law_3 23 rfl) rfl rfl ?_
        refine w_iload_n (pc := 356) (dc dl_law_3 24 rfl) rfl rfl ?_
        refine w_iconst (pc := 357) (v := 2) (dc dl_law_3 25 rfl) ic_2 ?_
        refine w_iadd (pc := 358) (dc dl_law_3 26 rfl) ?_
        refine w_xld (pc := 359) (dc dl_law_3 27 rfl) (fun v34 => ?_)
        refine w_aload_n (pc := 360) (dc dl_law_3 28 rfl) rfl rfl ?_
        refine w_iload_n (pc := 361) (dc dl_law_3 29 rfl) rfl rfl ?_
        refine w_iconst (pc := 362) (v := 3) (dc dl_law_3 30 rfl) ic_3 ?_
        refine w_iadd (pc := 363) (dc dl_law_3 31 rfl) ?_
        refine w_xld (pc := 364) (dc dl_law_3 32 rfl) (fun v35 => ?_)
        refine w_call (pc := 365) (ρ := rKL) (o := 0) (As := [.int v33, .int v34, .int v35]) (rest := []) (subC_KL G ad) rfl (dc dl_law_3 33 rfl) mo_X10_act mv_X10_act lml_36 ⟨Nat.le_of_ble_eq_true rfl, Nat.le_of_ble_eq_true rfl⟩ hcs rfl rfl (Nat.le_of_ble_eq_true rfl) lk_All_0 rfl (cn_X10_act l G hG (fun i => ad (rKL i)) v33 v34 v35) rfl rfl (fun r36 => ?_)
        refine w_aload_n (pc := 368) (dc dl_law_3 34 rfl) rfl rfl ?_
        refine w_aload_n (pc := 369) (dc dl_law_3 35 rfl) rfl rfl ?_
        refine w_iload_n (pc := 370) (dc dl_law_3 36 rfl) rfl rfl ?_
        refine w_iconst (pc := 371) (v := 1) (dc dl_law_3 37 rfl) ic_1 ?_
        refine w_iadd (pc := 372) (dc dl_law_3 38 rfl) ?_
        refine w_xld (pc := 373) (dc dl_law_3 39 rfl) (fun v37 => ?_)
        refine w_aload_n (pc := 374) (dc dl_law_4 0 rfl) rfl rfl ?_
        refine w_iload_n (pc := 375) (dc dl_law_4 1 rfl) rfl rfl ?_
        refine w_iconst (pc := 376) (v := 2) (dc dl_law_4 2 rfl) ic_2 ?_
        refine w_iadd (pc := 377) (dc dl_law_4 3 rfl) ?_
        refine w_xld (pc := 378) (dc dl_law_4 4 rfl) (fun v38 => ?_)
        refine w_aload_n (pc := 379) (dc dl_law_4 5 rfl) rfl rfl ?_
        refine w_iload_n (pc := 380) (dc dl_law_4 6 rfl) rfl rfl ?_
        refine w_iconst (pc := 381) (v := 3) (dc dl_law_4 7 rfl) ic_3 ?_
        refine w_iadd (pc := 382) (dc dl_law_4 8 rfl) ?_
        refine w_xld (pc := 383) (dc dl_law_4 9 rfl) (fun v39 => ?_)
        refine w_call (pc := 384) (ρ := rMo) (o := 211) (As := [.int v37, .int v38, .int v39]) (rest := [.int r36]) (subC_of subL_Mo) rfl (dc dl_law_4 10 rfl) mo_X11_act mv_X11_act lml_39 ⟨Nat.le_of_ble_eq_true rfl, Nat.le_of_ble_eq_true rfl⟩ hcs rfl rfl (Nat.le_of_ble_eq_true rfl) lk_All_211 rfl (cn_X11_act l G hG (fun i => ad (rMo i)) v37 v38 v39) rfl rfl (fun r40 => ?_)
        refine w_icmp_eq (pc := 387) (tgt := 1397) (dc dl_law_4 11 rfl) rfl ?_ ?_
        · exact w_wk (hj4 ()) rfl
        · refine w_iconst (pc := 390) (v := 0) (dc dl_law_4 12 rfl) ic_0 ?_
          exact w_fl
      · refine w_aload_n (pc := 392) (dc dl_law_4 14 rfl) rfl rfl ?_
        refine w_aload_n (pc := 393) (dc dl_law_4 15 rfl) rfl rfl ?_
        refine w_iload_n (pc := 394) (dc dl_law_4 16 rfl) rfl rfl ?_
        refine w_iconst (pc := 395) (v := 1) (dc dl_law_4 17 rfl) ic_1 ?_
        refine w_iadd (pc := 396) (dc dl_law_4 18 rfl) ?_
        refine w_xld (pc := 397) (dc dl_law_4 19 rfl) (fun v41 => ?_)
        refine w_call (pc := 398) (ρ := rKL) (o := 0) (As := [.int v41]) (rest := []) (subC_KL G ad) rfl (dc dl_law_4 20 rfl) mo_X10_days mv_X10_days lml_40 ⟨Nat.le_of_ble_eq_true rfl, Nat.le_of_ble_eq_true rfl⟩ hcs rfl rfl (Nat.le_of_ble_eq_true rfl) lk_All_0 rfl (cn_X10_days l G hG (fun i => ad (rKL i)) v41) rfl rfl (fun r42 => ?_)
        refine w_aload_n (pc := 401) (dc dl_law_4 21 rfl) rfl rfl ?_
        refine w_aload_n (pc := 402) (dc dl_law_4 22 rfl) rfl rfl ?_
        refine w_iload_n (pc := 403) (dc dl_law_4 23 rfl) rfl rfl ?_
        refine w_iconst (pc := 404) (v := 1) (dc dl_law_4 24 rfl) ic_1 ?_
        refine w_iadd (pc := 405) (dc dl_law_4 25 rfl) ?_
        refine w_xld (pc := 406) (dc dl_law_4 26 rfl) (fun v43 => ?_)
        refine w_call (pc := 407) (ρ := rMo) (o := 211) (As := [.int v43]) (rest := [.int r42]) (subC_of subL_Mo) rfl (dc dl_law_4 27 rfl) mo_X11_days mv_X11_days lml_43 ⟨Nat.le_of_ble_eq_true rfl, Nat.le_of_ble_eq_true rfl⟩ hcs rfl rfl (Nat.le_of_ble_eq_true rfl) lk_All_211 rfl (cn_X11_days l G hG (fun i => ad (rMo i)) v43) rfl rfl (fun r44 => ?_)
        refine w_icmp_eq (pc := 410) (tgt := 1397) (dc dl_law_4 28 rfl) rfl ?_ ?_
        · exact w_wk (hj4 ()) rfl
        · refine w_iconst (pc := 413) (v := 0) (dc dl_law_4 29 rfl) ic_0 ?_
          exact w_fl
      · refine w_aload_n (pc := 415) (dc dl_law_4 31 rfl) rfl rfl ?_
        refine w_aload_n (pc := 416) (dc dl_law_4 32 rfl) rfl rfl ?_
        refine w_iload_n (pc := 417) (dc dl_law_4 33 rfl) rfl rfl ?_
        refine w_iconst (pc := 418) (v := 1) (dc dl_law_4 34 rfl) ic_1 ?_
        refine w_iadd (pc := 419) (dc dl_law_4 35 rfl) ?_
        refine w_xld (pc := 420) (dc dl_law_4 36 rfl) (fun v45 => ?_)
        refine w_aload_n (pc := 421) (dc dl_law_4 37 rfl) rfl rfl ?_
        refine w_iload_n (pc := 422) (dc dl_law_4 38 rfl) rfl rfl ?_
        refine w_iconst (pc := 423) (v := 2) (dc dl_law_4 39 rfl) ic_2 ?_
        refine w_iadd (pc := 424) (dc dl_law_5 0 rfl) ?_
        refine w_xld (pc := 425) (dc dl_law_5 1 rfl) (fun v46 => ?_)
        refine w_aload_n (pc := 426) (dc dl_law_5 2 rfl) rfl rfl ?_
        refine w_iload_n (pc := 427) (dc dl_law_5 3 rfl) rfl rfl ?_
        refine w_iconst (pc := 428) (v := 3) (dc dl_law_5 4 rfl) ic_3 ?_
        refine w_iadd (pc := 429) (dc dl_law_5 5 rfl) ?_
        refine w_xld (pc := 430) (dc dl_law_5 6 rfl) (fun v47 => ?_)
        refine w_aload_n (pc := 431) (dc dl_law_5 7 rfl) rfl rfl ?_
        refine w_iload_n (pc := 432) (dc dl_law_5 8 rfl) rfl rfl ?_
        refine w_iconst (pc := 433) (v := 4) (dc dl_law_5 9 rfl) ic_4 ?_
        refine w_iadd (pc := 434) (dc dl_law_5 10 rfl) ?_
        refine w_xld (pc := 435) (dc dl_law_5 11 rfl) (fun v48 => ?_)
        refine w_aload_n (pc := 436) (dc dl_law_5 12 rfl) rfl rfl ?_
        refine w_iload_n (pc := 437) (dc dl_law_5 13 rfl) rfl rfl ?_
        refine w_iconst (pc := 438) (v := 5) (dc dl_law_5 14 rfl) ic_5 ?_
        refine w_iadd (pc := 439) (dc dl_law_5 15 rfl) ?_
        refine w_xld (pc := 440) (dc dl_law_5 16 rfl) (fun v49 => ?_)
        refine w_call (pc := 441) (ρ := rKL) (o := 0) (As := [.int v45, .int v46, .int v47, .int v48, .int v49]) (rest := []) (subC_KL G ad) rfl (dc dl_law_5 17 rfl) mo_X10_feed mv_X10_feed lml_44 ⟨Nat.le_of_ble_eq_true rfl, Nat.le_of_ble_eq_true rfl⟩ hcs rfl rfl (Nat.le_of_ble_eq_true rfl) lk_All_0 rfl (cn_X10_feed l G hG (fun i => ad (rKL i)) v45 v46 v47 v48 v49) rfl rfl (fun r50 => ?_)
        refine w_aload_n (pc := 444) (dc dl_law_5 18 rfl) rfl rfl ?_
        refine w_aload_n (pc := 445) (dc dl_law_5 19 rfl) rfl rfl ?_
        refine w_iload_n (pc := 446) (dc dl_law_5 20 rfl) rfl rfl ?_
        refine w_iconst (pc := 447) (v := 1) (dc dl_law_5 21 rfl) ic_1 ?_
        refine w_iadd (pc := 448) (dc dl_law_5 22 rfl) ?_
        refine w_xld (pc := 449) (dc dl_law_5 23 rfl) (fun v51 => ?_)
        refine w_aload_n (pc := 450) (dc dl_law_5 24 rfl) rfl rfl ?_
        refine w_iload_n (pc := 451) (dc dl_law_5 25 rfl) rfl rfl ?_
        refine w_iconst (pc := 452) (v := 2) (dc dl_law_5 26 rfl) ic_2 ?_
        refine w_iadd (pc := 453) (dc dl_law_5 27 rfl) ?_
        refine w_xld (pc := 454) (dc dl_law_5 28 rfl) (fun v52 => ?_)
        refine w_aload_n (pc := 455) (dc dl_law_5 29 rfl) rfl rfl ?_
        refine w_iload_n (pc := 456) (dc dl_law_5 30 rfl) rfl rfl ?_
        refine w_iconst (pc := 457) (v := 3) (dc dl_law_5 31 rfl) ic_3 ?_
        refine w_iadd (pc := 458) (dc dl_law_5 32 rfl) ?_
        refine w_xld (pc := 459) (dc dl_law_5 33 rfl) (fun v53 => ?_)
        refine w_aload_n (pc := 460) (dc dl_law_5 34 rfl) rfl rfl ?_
        refine w_iload_n (pc := 461) (dc dl_law_5 35 rfl) rfl rfl ?_
        refine w_iconst (pc := 462) (v := 4) (dc dl_law_5 36 rfl) ic_4 ?_
        refine w_iadd (pc := 463) (dc dl_law_5 37 rfl) ?_
        refine w_xld (pc := 464) (dc dl_law_5 38 rfl) (fun v54 => ?_)
        refine w_aload_n (pc := 465) (dc dl_law_5 39 rfl) rfl rfl ?_
        refine w_iload_n (pc := 466) (dc dl_law_6 0 rfl) rfl rfl ?_
        refine w_iconst (pc := 467) (v := 5) (dc dl_law_6 1 rfl) ic_5 ?_
        refine w_iadd (pc := 468) (dc dl_law_6 2 rfl) ?_
        refine w_xld (pc := 469) (dc dl_law_6 3 rfl) (fun v55 => ?_)
        refine w_call (pc := 470) (ρ := rMo) (o := 211) (As := [.int v51, .int v52, .int v53, .int v54, .int v55]) (rest := [.int r50]) (subC_of subL_Mo) rfl (dc dl_law_6 4 rfl) mo_X11_feed mv_X11_feed lml_48 ⟨Nat.le_of_ble_eq_true rfl, Nat.le_of_ble_eq_true rfl⟩ hcs rfl rfl (Nat.le_of_ble_eq_true rfl) lk_All_211 rfl (cn_X11_feed l G hG (fun i => ad (rMo i)) v51 v52 v53 v54 v55) rfl rfl (fun r56 => ?_)
        refine w_icmp_eq (pc := 473) (tgt := 1397) (dc dl_law_6 5 rfl) rfl ?_ ?_
        · exact w_wk (hj4 ()) rfl
        · refine w_iconst (pc := 476) (v := 0) (dc dl_law_6 6 rfl) ic_0 ?_
          exact w_fl
      · refine w_aload_n (pc := 478) (dc dl_law_6 8 rfl) rfl rfl ?_
        refine w_aload_n (pc := 479) (dc dl_law_6 9 rfl) rfl rfl ?_
        refine w_iload_n (pc := 480) (dc dl_law_6 10 rfl) rfl rfl ?_
        refine w_iconst (pc := 481) (v := 1) (dc dl_law_6 11 rfl) ic_1 ?_
        refine w_iadd (pc := 482) (dc dl_law_6 12 rfl) ?_
        refine w_xld (pc := 483) (dc dl_law_6 13 rfl) (fun v57 => ?_)
        refine w_call (pc := 484) (ρ := rKL) (o := 0) (As := [.int v57]) (rest := []) (subC_KL G ad) rfl (dc dl_law_6 14 rfl) mo_X10_end mv_X10_end lml_49 ⟨Nat.le_of_ble_eq_true rfl, Nat.le_of_ble_eq_true rfl⟩ hcs rfl rfl (Nat.le_of_ble_eq_true rfl) lk_All_0 rfl (cn_X10_end l G hG (fun i => ad (rKL i)) v57) rfl rfl (fun r58 => ?_)
        refine w_aload_n (pc := 487) (dc dl_law_6 15 rfl) rfl rfl ?_
        refine w_aload_n (pc := 488) (dc dl_law_6 16 rfl) rfl rfl ?_
        refine w_iload_n (pc := 489) (dc dl_law_6 17 rfl) rfl rfl ?_
        refine w_iconst (pc := 490) (v := 1) (dc dl_law_6 18 rfl) ic_1 ?_
        refine w_iadd (pc := 491) (dc dl_law_6 19 rfl) ?_
        refine w_xld (pc := 492) (dc dl_law_6 20 rfl) (fun v59 => ?_)
        refine w_call (pc := 493) (ρ := rMo) (o := 211) (As := [.int v59]) (rest := [.int r58]) (subC_of subL_Mo) rfl (dc dl_law_6 21 rfl) mo_X11_end mv_X11_end lml_53 ⟨Nat.le_of_ble_eq_true rfl, Nat.le_of_ble_eq_true rfl⟩ hcs rfl rfl (Nat.le_of_ble_eq_true rfl) lk_All_211 rfl (cn_X11_end l G hG (fun i => ad (rMo i)) v59) rfl rfl (fun r60 => ?_)
        refine w_icmp_eq (pc := 496) (tgt := 1397) (dc dl_law_6 22 rfl) rfl ?_ ?_
        · exact w_wk (hj4 ()) rfl
        · refine w_iconst (pc := 499) (v := 0) (dc dl_law_6 23 rfl) ic_0 ?_
          exact w_fl
      · refine w_aload_n (pc := 501) (dc dl_law_6 25 rfl) rfl rfl ?_
        refine w_aload_n (pc := 502) (dc dl_law_6 26 rfl) rfl rfl ?_
        refine w_iload_n (pc := 503) (dc dl_law_6 27 rfl) rfl rfl ?_
        refine w_iconst (pc := 504) (v := 1) (dc dl_law_6 28 rfl) ic_1 ?_
        refine w_iadd (pc := 505) (dc dl_law_6 29 rfl) ?_
        refine w_xld (pc := 506) (dc dl_law_6 30 rfl) (fun v61 => ?_)
        refine w_call (pc := 507) (ρ := rKL) (o := 0) (As := [.int v61]) (rest := []) (subC_KL G ad) rfl (dc dl_law_6 31 rfl) mo_X10_text mv_X10_text lml_54 ⟨Nat.le_of_ble_eq_true rfl, Nat.le_of_ble_eq_true rfl⟩ hcs rfl rfl (Nat.le_of_ble_eq_true rfl) lk_All_0 rfl (cn_X10_text l G hG (fun i => ad (rKL i)) v61) rfl rfl (fun r62 => ?_)
        refine w_aload_n (pc := 510) (dc dl_law_6 32 rfl) rfl rfl ?_
        refine w_aload_n (pc := 511) (dc dl_law_6 33 rfl) rfl rfl ?_
        refine w_iload_n (pc := 512) (dc dl_law_6 34 rfl) rfl rfl ?_
        refine w_iconst (pc := 513) (v := 1) (dc dl_law_6 35 rfl) ic_1 ?_
        refine w_iadd (pc := 514) (dc dl_law_6 36 rfl) ?_
        refine w_xld (pc := 515) (dc dl_law_6 37 rfl) (fun v63 => ?_)
        refine w_call (pc := 516) (ρ := rMo) (o := 211) (As := [.int v63]) (rest := [.int r62]) (subC_of subL_Mo) rfl (dc dl_law_6 38 rfl) mo_X11_text mv_X11_text lml_57 ⟨Nat.le_of_ble_eq_true rfl, Nat.le_of_ble_eq_true rfl⟩ hcs rfl rfl (Nat.le_of_ble_eq_true rfl) lk_All_211 rfl (cn_X11_text l G hG (fun i => ad (rMo i)) v63) rfl rfl (fun r64 => ?_)
        refine w_icmp_eq (pc := 519) (tgt := 1397) (dc dl_law_6 39 rfl) rfl ?_ ?_
        · exact w_wk (hj4 ()) rfl
        · refine w_iconst (pc := 522) (v := 0) (dc dl_law_7 0 rfl) ic_0 ?_
          exact w_fl
      · refine w_aload_n (pc := 524) (dc dl_law_7 2 rfl) rfl rfl ?_
        refine w_aload_n (pc := 525) (dc dl_law_7 3 rfl) rfl rfl ?_
        refine w_iload_n (pc := 526) (dc dl_law_7 4 rfl) rfl rfl ?_
        refine w_iconst (pc := 527) (v := 1) (dc dl_law_7 5 rfl) ic_1 ?_
        refine w_iadd (pc := 528) (dc dl_law_7 6 rfl) ?_
        refine w_xld (pc := 529) (dc dl_law_7 7 rfl) (fun v65 => ?_)
        refine w_call (pc := 530) (ρ := rKL) (o := 0) (As := [.int v65]) (rest := []) (subC_KL G ad) rfl (dc dl_law_7 8 rfl) mo_X10_fault mv_X10_fault lml_58 ⟨Nat.le_of_ble_eq_true rfl, Nat.le_of_ble_eq_true rfl⟩ hcs rfl rfl (Nat.le_of_ble_eq_true rfl) lk_All_0 rfl (cn_X10_fault l G hG (fun i => ad (rKL i)) v65) rfl rfl (fun r66 => ?_)
        refine w_aload_n (pc := 533) (dc dl_law_7 9 rfl) rfl rfl ?_
        refine w_aload_n (pc := 534) (dc dl_law_7 10 rfl) rfl rfl ?_
        refine w_iload_n (pc := 535) (dc dl_law_7 11 rfl) rfl rfl ?_
        refine w_iconst (pc := 536) (v := 1) (dc dl_law_7 12 rfl) ic_1 ?_
        refine w_iadd (pc := 537) (dc dl_law_7 13 rfl) ?_
        refine w_xld (pc := 538) (dc dl_law_7 14 rfl) (fun v67 => ?_)
        refine w_call (pc := 539) (ρ := rMo) (o := 211) (As := [.int v67]) (rest := [.int r66]) (subC_of subL_Mo) rfl (dc dl_law_7 15 rfl) mo_X11_fault mv_X11_fault lml_61 ⟨Nat.le_of_ble_eq_true rfl, Nat.le_of_ble_eq_true rfl⟩ hcs rfl rfl (Nat.le_of_ble_eq_true rfl) lk_All_211 rfl (cn_X11_fault l G hG (fun i => ad (rMo i)) v67) rfl rfl (fun r68 => ?_)
        refine w_icmp_eq (pc := 542) (tgt := 1397) (dc dl_law_7 16 rfl) rfl ?_ ?_
        · exact w_wk (hj4 ()) rfl
        · refine w_iconst (pc := 545) (v := 0) (dc dl_law_7 17 rfl) ic_0 ?_
          exact w_fl
      · refine w_aload_n (pc := 547) (dc dl_law_7 19 rfl) rfl rfl ?_
        refine w_aload_n (pc := 548) (dc dl_law_7 20 rfl) rfl rfl ?_
        refine w_iload_n (pc := 549) (dc dl_law_7 21 rfl) rfl rfl ?_
        refine w_iconst (pc := 550) (v := 1) (dc dl_law_7 22 rfl) ic_1 ?_
        refine w_iadd (pc := 551) (dc dl_law_7 23 rfl) ?_
        refine w_xld (pc := 552) (dc dl_law_7 24 rfl) (fun v69 => ?_)
        refine w_aload_n (pc := 553) (dc dl_law_7 25 rfl) rfl rfl ?_
        refine w_iload_n (pc := 554) (dc dl_law_7 26 rfl) rfl rfl ?_
        refine w_iconst (pc := 555) (v := 2) (dc dl_law_7 27 rfl) ic_2 ?_
        refine w_iadd (pc := 556) (dc dl_law_7 28 rfl) ?_
        refine w_xld (pc := 557) (dc dl_law_7 29 rfl) (fun v70 => ?_)
        refine w_call (pc := 558) (ρ := rKL) (o := 0) (As := [.int v69, .int v70]) (rest := []) (subC_KL G ad) rfl (dc dl_law_7 30 rfl) mo_X10_of mv_X10_of lml_62 ⟨Nat.le_of_ble_eq_true rfl, Nat.le_of_ble_eq_true rfl⟩ hcs rfl rfl (Nat.le_of_ble_eq_true rfl) lk_All_0 rfl (cn_X10_of l G hG (fun i => ad (rKL i)) v69 v70) rfl rfl (fun r71 => ?_)
        refine w_aload_n (pc := 561) (dc dl_law_7 31 rfl) rfl rfl ?_
        refine w_aload_n (pc := 562) (dc dl_law_7 32 rfl) rfl rfl ?_
        refine w_iload_n (pc := 563) (dc dl_law_7 33 rfl) rfl rfl ?_
        refine w_iconst (pc := 564) (v := 1) (dc dl_law_7 34 rfl) ic_1 ?_
        refine w_iadd (pc := 565) (dc dl_law_7 35 rfl) ?_
        refine w_xld (pc := 566) (dc dl_law_7 36 rfl) (fun v72 => ?_)
        refine w_aload_n (pc := 567) (dc dl_law_7 37 rfl) rfl rfl ?_
        refine w_iload_n (pc := 568) (dc dl_law_7 38 rfl) rfl rfl ?_
        refine w_iconst (pc := 569) (v := 2) (dc dl_law_7 39 rfl) ic_2 ?_
        refine w_iadd (pc := 570) (dc dl_law_8 0 rfl) ?_
        refine w_xld (pc := 571) (dc dl_law_8 1 rfl) (fun v73 => ?_)
        refine w_call (pc := 572) (ρ := rMo) (o := 211) (As := [.int v72, .int v73]) (rest := [.int r71]) (subC_of subL_Mo) rfl (dc dl_law_8 2 rfl) mo_X11_of mv_X11_of lml_65 ⟨Nat.le_of_ble_eq_true rfl, Nat.le_of_ble_eq_true rfl⟩ hcs rfl rfl (Nat.le_of_ble_eq_true rfl) lk_All_211 rfl (cn_X11_of l G hG (fun i => ad (rMo i)) v72 v73) rfl rfl (fun r74 => ?_)
        refine w_icmp_eq (pc := 575) (tgt := 1397) (dc dl_law_8 3 rfl) rfl ?_ ?_
        · exact w_wk (hj4 ()) rfl
        · refine w_iconst (pc := 578) (v := 0) (dc dl_law_8 4 rfl) ic_0 ?_
          exact w_fl
      · refine w_aload_n (pc := 580) (dc dl_law_8 6 rfl) rfl rfl ?_
        refine w_aload_n (pc := 581) (dc dl_law_8 7 rfl) rfl rfl ?_
        refine w_iload_n (pc := 582) (dc dl_law_8 8 rfl) rfl rfl ?_
        refine w_iconst (pc := 583) (v := 1) (dc dl_law_8 9 rfl) ic_1 ?_
        refine w_iadd (pc := 584) (dc dl_law_8 10 rfl) ?_
        refine w_xld (pc := 585) (dc dl_law_8 11 rfl) (fun v75 => ?_)
        refine w_aload_n (pc := 586) (dc dl_law_8 12 rfl) rfl rfl ?_
        refine w_iload_n (pc := 587) (dc dl_law_8 13 rfl) rfl rfl ?_
        refine w_iconst (pc := 588) (v := 2) (dc dl_law_8 14 rfl) ic_2 ?_
        refine w_iadd (pc := 589) (dc dl_law_8 15 rfl) ?_
        refine w_xld (pc := 590) (dc dl_law_8 16 rfl) (fun v76 => ?_)
        refine w_call (pc := 591) (ρ := rKL) (o := 0) (As := [.int v75, .int v76]) (rest := []) (subC_KL G ad) rfl (dc dl_law_8 17 rfl) mo_X10_clothOf mv_X10_clothOf lml_66 ⟨Nat.le_of_ble_eq_true rfl, Nat.le_of_ble_eq_true rfl⟩ hcs rfl rfl (Nat.le_of_ble_eq_true rfl) lk_All_0 rfl (cn_X10_clothOf l G hG (fun i => ad (rKL i)) v75 v76) rfl rfl (fun r77 => ?_)
        refine w_aload_n (pc := 594) (dc dl_law_8 18 rfl) rfl rfl ?_
        refine w_aload_n (pc := 595) (dc dl_law_8 19 rfl) rfl rfl ?_
        refine w_iload_n (pc := 596) (dc dl_law_8 20 rfl) rfl rfl ?_
        refine w_iconst (pc := 597) (v := 1) (dc dl_law_8 21 rfl) ic_1 ?_
        refine w_iadd (pc := 598) (dc dl_law_8 22 rfl) ?_
        refine w_xld (pc := 599) (dc dl_law_8 23 rfl) (fun v78 => ?_)
        refine w_aload_n (pc := 600) (dc dl_law_8 24 rfl) rfl rfl ?_
        refine w_iload_n (pc := 601) (dc dl_law_8 25 rfl) rfl rfl ?_
        refine w_iconst (pc := 602) (v := 2) (dc dl_law_8 26 rfl) ic_2 ?_
        refine w_iadd (pc := 603) (dc dl_law_8 27 rfl) ?_
        refine w_xld (pc := 604) (dc dl_law_8 28 rfl) (fun v79 => ?_)
        refine w_call (pc := 605) (ρ := rMo) (o := 211) (As := [.int v78, .int v79]) (rest := [.int r77]) (subC_of subL_Mo) rfl (dc dl_law_8 29 rfl) mo_X11_clothOf mv_X11_clothOf lml_69 ⟨Nat.le_of_ble_eq_true rfl, Nat.le_of_ble_eq_true rfl⟩ hcs rfl rfl (Nat.le_of_ble_eq_true rfl) lk_All_211 rfl (cn_X11_clothOf l G hG (fun i => ad (rMo i)) v78 v79) rfl rfl (fun r80 => ?_)
        refine w_icmp_eq (pc := 608) (tgt := 1397) (dc dl_law_8 30 rfl) rfl ?_ ?_
        · exact w_wk (hj4 ()) rfl
        · refine w_iconst (pc := 611) (v := 0) (dc dl_law_8 31 rfl) ic_0 ?_
          exact w_fl
      · refine w_aload_n (pc := 613) (dc dl_law_8 33 rfl) rfl rfl ?_
        refine w_aload_n (pc := 614) (dc dl_law_8 34 rfl) rfl rfl ?_
        refine w_iload_n (pc := 615) (dc dl_law_8 35 rfl) rfl rfl ?_
        refine w_iconst (pc := 616) (v := 1) (dc dl_law_8 36 rfl) ic_1 ?_
        refine w_iadd (pc := 617) (dc dl_law_8 37 rfl) ?_
        refine w_xld (pc := 618) (dc dl_law_8 38 rfl) (fun v81 => ?_)
        refine w_aload_n (pc := 619) (dc dl_law_8 39 rfl) rfl rfl ?_
        refine w_iload_n (pc := 620) (dc dl_law_9 0 rfl) rfl rfl ?_
        refine w_iconst (pc := 621) (v := 2) (dc dl_law_9 1 rfl) ic_2 ?_
        refine w_iadd (pc := 622) (dc dl_law_9 2 rfl) ?_
        refine w_xld (pc := 623) (dc dl_law_9 3 rfl) (fun v82 => ?_)
        refine w_call (pc := 624) (ρ := rKL) (o := 0) (As := [.int v81, .int v82]) (rest := []) (subC_KL G ad) rfl (dc dl_law_9 4 rfl) mo_X10_thingOf mv_X10_thingOf lml_70 ⟨Nat.le_of_ble_eq_true rfl, Nat.le_of_ble_eq_true rfl⟩ hcs rfl rfl (Nat.le_of_ble_eq_true rfl) lk_All_0 rfl (cn_X10_thingOf l G hG (fun i => ad (rKL i)) v81 v82) rfl rfl (fun r83 => ?_)
        refine w_aload_n (pc := 627) (dc dl_law_9 5 rfl) rfl rfl ?_
        refine w_aload_n (pc := 628) (dc dl_law_9 6 rfl) rfl rfl ?_
        refine w_iload_n (pc := 629) (dc dl_law_9 7 rfl) rfl rfl ?_
        refine w_iconst (pc := 630) (v := 1) (dc dl_law_9 8 rfl) ic_1 ?_
        refine w_iadd (pc := 631) (dc dl_law_9 9 rfl) ?_
        refine w_xld (pc := 632) (dc dl_law_9 10 rfl) (fun v84 => ?_)
        refine w_aload_n (pc := 633) (dc dl_law_9 11 rfl) rfl rfl ?_
        refine w_iload_n (pc := 634) (dc dl_law_9 12 rfl) rfl rfl ?_
        refine w_iconst (pc := 635) (v := 2) (dc dl_law_9 13 rfl) ic_2 ?_
        refine w_iadd (pc := 636) (dc dl_law_9 14 rfl) ?_
        refine w_xld (pc := 637) (dc dl_law_9 15 rfl) (fun v85 => ?_)
        refine w_call (pc := 638) (ρ := rMo) (o := 211) (As := [.int v84, .int v85]) (rest := [.int r83]) (subC_of subL_Mo) rfl (dc dl_law_9 16 rfl) mo_X11_thingOf mv_X11_thingOf lml_73 ⟨Nat.le_of_ble_eq_true rfl, Nat.le_of_ble_eq_true rfl⟩ hcs rfl rfl (Nat.le_of_ble_eq_true rfl) lk_All_211 rfl (cn_X11_thingOf l G hG (fun i => ad (rMo i)) v84 v85) rfl rfl (fun r86 => ?_)
        refine w_icmp_eq (pc := 641) (tgt := 1397) (dc dl_law_9 17 rfl) rfl ?_ ?_
        · exact w_wk (hj4 ()) rfl
        · refine w_iconst (pc := 644) (v := 0) (dc dl_law_9 18 rfl) ic_0 ?_
          exact w_fl
      · refine w_aload_n (pc := 646) (dc dl_law_9 20 rfl) rfl rfl ?_
        refine w_aload_n (pc := 647) (dc dl_law_9 21 rfl) rfl rfl ?_
        refine w_iload_n (pc := 648) (dc dl_law_9 22 rfl) rfl rfl ?_
        refine w_iconst (pc := 649) (v := 1) (dc dl_law_9 23 rfl) ic_1 ?_
        refine w_iadd (pc := 650) (dc dl_law_9 24 rfl) ?_
        refine w_xld (pc := 651) (dc dl_law_9 25 rfl) (fun v87 => ?_)
        refine w_aload_n (pc := 652) (dc dl_law_9 26 rfl) rfl rfl ?_
        refine w_iload_n (pc := 653) (dc dl_law_9 27 rfl) rfl rfl ?_
        refine w_iconst (pc := 654) (v := 2) (dc dl_law_9 28 rfl) ic_2 ?_
        refine w_iadd (pc := 655) (dc dl_law_9 29 rfl) ?_
        refine w_xld (pc := 656) (dc dl_law_9 30 rfl) (fun v88 => ?_)
        refine w_call (pc := 657) (ρ := rKL) (o := 0) (As := [.int v87, .int v88]) (rest := []) (subC_KL G ad) rfl (dc dl_law_9 31 rfl) mo_X10_book mv_X10_book lml_74 ⟨Nat.le_of_ble_eq_true rfl, Nat.le_of_ble_eq_true rfl⟩ hcs rfl rfl (Nat.le_of_ble_eq_true rfl) lk_All_0 rfl (cn_X10_book l G hG (fun i => ad (rKL i)) v87 v88) rfl rfl (fun r89 => ?_)
        refine w_aload_n (pc := 660) (dc dl_law_9 32 rfl) rfl rfl ?_
        refine w_aload_n (pc := 661) (dc dl_law_9 33 rfl) rfl rfl ?_
        refine w_iload_n (pc := 662) (dc dl_law_9 34 rfl) rfl rfl ?_
        refine w_iconst (pc := 663) (v := 1) (dc dl_law_9 35 rfl) ic_1 ?_
        refine w_iadd (pc := 664) (dc dl_law_9 36 rfl) ?_
        refine w_xld (pc := 665) (dc dl_law_9 37 rfl) (fun v90 => ?_)
        refine w_aload_n (pc := 666) (dc dl_law_9 38 rfl) rfl rfl ?_
        refine w_iload_n (pc := 667) (dc dl_law_9 39 rfl) rfl rfl ?_
        refine w_iconst (pc := 668) (v := 2) (dc dl_law_10 0 rfl) ic_2 ?_
        refine w_iadd (pc := 669) (dc dl_law_10 1 rfl) ?_
        refine w_xld (pc := 670) (dc dl_law_10 2 rfl) (fun v91 => ?_)
        refine w_call (pc := 671) (ρ := rMo) (o := 211) (As := [.int v90, .int v91]) (rest := [.int r89]) (subC_of subL_Mo) rfl (dc dl_law_10 3 rfl) mo_X11_book mv_X11_book lml_77 ⟨Nat.le_of_ble_eq_true rfl, Nat.le_of_ble_eq_true rfl⟩ hcs rfl rfl (Nat.le_of_ble_eq_true rfl) lk_All_211 rfl (cn_X11_book l G hG (fun i => ad (rMo i)) v90 v91) rfl rfl (fun r92 => ?_)
        refine w_icmp_eq (pc := 674) (tgt := 1397) (dc dl_law_10 4 rfl) rfl ?_ ?_
        · exact w_wk (hj4 ()) rfl
        · refine w_iconst (pc := 677) (v := 0) (dc dl_law_10 5 rfl) ic_0 ?_
          exact w_fl
      · refine w_aload_n (pc := 679) (dc dl_law_10 7 rfl) rfl rfl ?_
        refine w_aload_n (pc := 680) (dc dl_law_10 8 rfl) rfl rfl ?_
        refine w_iload_n (pc := 681) (dc dl_law_10 9 rfl) rfl rfl ?_
        refine w_iconst (pc := 682) (v := 1) (dc dl_law_10 10 rfl) ic_1 ?_
        refine w_iadd (pc := 683) (dc dl_law_10 11 rfl) ?_
        refine w_xld (pc := 684) (dc dl_law_10 12 rfl) (fun v93 => ?_)
        refine w_aload_n (pc := 685) (dc dl_law_10 13 rfl) rfl rfl ?_
        refine w_iload_n (pc := 686) (dc dl_law_10 14 rfl) rfl rfl ?_
        refine w_iconst (pc := 687) (v := 2) (dc dl_law_10 15 rfl) ic_2 ?_
        refine w_iadd (pc := 688) (dc dl_law_10 16 rfl) ?_
        refine w_xld (pc := 689) (dc dl_law_10 17 rfl) (fun v94 => ?_)
        refine w_call (pc := 690) (ρ := rKL) (o := 0) (As := [.int v93, .int v94]) (rest := []) (subC_KL G ad) rfl (dc dl_law_10 18 rfl) mo_X10_goes mv_X10_goes lml_78 ⟨Nat.le_of_ble_eq_true rfl, Nat.le_of_ble_eq_true rfl⟩ hcs rfl rfl (Nat.le_of_ble_eq_true rfl) lk_All_0 rfl (cn_X10_goes l G hG (fun i => ad (rKL i)) v93 v94) rfl rfl (fun r95 => ?_)
        refine w_aload_n (pc := 693) (dc dl_law_10 19 rfl) rfl rfl ?_
        refine w_aload_n (pc := 694) (dc dl_law_10 20 rfl) rfl rfl ?_
        refine w_iload_n (pc := 695) (dc dl_law_10 21 rfl) rfl rfl ?_
        refine w_iconst (pc := 696) (v := 1) (dc dl_law_10 22 rfl) ic_1 ?_
        refine w_iadd (pc := 697) (dc dl_law_10 23 rfl) ?_
        refine w_xld (pc := 698) (dc dl_law_10 24 rfl) (fun v96 => ?_)
        refine w_aload_n (pc := 699) (dc dl_law_10 25 rfl) rfl rfl ?_
        refine w_iload_n (pc := 700) (dc dl_law_10 26 rfl) rfl rfl ?_
        refine w_iconst (pc := 701) (v := 2) (dc dl_law_10 27 rfl) ic_2 ?_
        refine w_iadd (pc := 702) (dc dl_law_10 28 rfl) ?_
        refine w_xld (pc := 703) (dc dl_law_10 29 rfl) (fun v97 => ?_)
        refine w_call (pc := 704) (ρ := rMo) (o := 211) (As := [.int v96, .int v97]) (rest := [.int r95]) (subC_of subL_Mo) rfl (dc dl_law_10 30 rfl) mo_X11_goes mv_X11_goes lml_81 ⟨Nat.le_of_ble_eq_true rfl, Nat.le_of_ble_eq_true rfl⟩ hcs rfl rfl (Nat.le_of_ble_eq_true rfl) lk_All_211 rfl (cn_X11_goes l G hG (fun i => ad (rMo i)) v96 v97) rfl rfl (fun r98 => ?_)
        refine w_icmp_eq (pc := 707) (tgt := 1397) (dc dl_law_10 31 rfl) rfl ?_ ?_
        · exact w_wk (hj4 ()) rfl
        · refine w_iconst (pc := 710) (v := 0) (dc dl_law_10 32 rfl) ic_0 ?_
          exact w_fl
      · refine w_aload_n (pc := 712) (dc dl_law_10 34 rfl) rfl rfl ?_
        refine w_aload_n (pc := 713) (dc dl_law_10 35 rfl) rfl rfl ?_
        refine w_iload_n (pc := 714) (dc dl_law_10 36 rfl) rfl rfl ?_
        refine w_iconst (pc := 715) (v := 1) (dc dl_law_10 37 rfl) ic_1 ?_
        refine w_iadd (pc := 716) (dc dl_law_10 38 rfl) ?_
        refine w_xld (pc := 717) (dc dl_law_10 39 rfl) (fun v99 => ?_)
        refine w_call (pc := 718) (ρ := rKL) (o := 0) (As := [.int v99]) (rest := []) (subC_KL G ad) rfl (dc dl_law_11 0 rfl) mo_X10_fate mv_X10_fate lml_82 ⟨Nat.le_of_ble_eq_true rfl, Nat.le_of_ble_eq_true rfl⟩ hcs rfl rfl (Nat.le_of_ble_eq_true rfl) lk_All_0 rfl (cn_X10_fate l G hG (fun i => ad (rKL i)) v99) rfl rfl (fun r100 => ?_)
        refine w_aload_n (pc := 721) (dc dl_law_11 1 rfl) rfl rfl ?_
        refine w_aload_n (pc := 722) (dc dl_law_11 2 rfl) rfl rfl ?_
        refine w_iload_n (pc := 723) (dc dl_law_11 3 rfl) rfl rfl ?_
        refine w_iconst (pc := 724) (v := 1) (dc dl_law_11 4 rfl) ic_1 ?_
        refine w_iadd (pc := 725) (dc dl_law_11 5 rfl) ?_
        refine w_xld (pc := 726) (dc dl_law_11 6 rfl) (fun v101 => ?_)
        refine w_call (pc := 727) (ρ := rMo) (o := 211) (As := [.int v101]) (rest := [.int r100]) (subC_of subL_Mo) rfl (dc dl_law_11 7 rfl) mo_X11_fate mv_X11_fate lml_85 ⟨Nat.le_of_ble_eq_true rfl, Nat.le_of_ble_eq_true rfl⟩ hcs rfl rfl (Nat.le_of_ble_eq_true rfl) lk_All_211 rfl (cn_X11_fate l G hG (fun i => ad (rMo i)) v101) rfl rfl (fun r102 => ?_)
        refine w_icmp_eq (pc := 730) (tgt := 1397) (dc dl_law_11 8 rfl) rfl ?_ ?_
        · exact w_wk (hj4 ()) rfl
        · refine w_iconst (pc := 733) (v := 0) (dc dl_law_11 9 rfl) ic_0 ?_
          exact w_fl
      · refine w_aload_n (pc := 735) (dc dl_law_11 11 rfl) rfl rfl ?_
        refine w_aload_n (pc := 736) (dc dl_law_11 12 rfl) rfl rfl ?_
        refine w_iload_n (pc := 737) (dc dl_law_11 13 rfl) rfl rfl ?_
        refine w_iconst (pc := 738) (v := 1) (dc dl_law_11 14 rfl) ic_1 ?_
        refine w_iadd (pc := 739) (dc dl_law_11 15 rfl) ?_
        refine w_xld (pc := 740) (dc dl_law_11 16 rfl) (fun v103 => ?_)
        refine w_call (pc := 741) (ρ := rKL) (o := 0) (As := [.int v103]) (rest := []) (subC_KL G ad) rfl (dc dl_law_11 17 rfl) mo_X10_crossing mv_X10_crossing lml_86 ⟨Nat.le_of_ble_eq_true rfl, Nat.le_of_ble_eq_true rfl⟩ hcs rfl rfl (Nat.le_of_ble_eq_true rfl) lk_All_0 rfl (cn_X10_crossing l G hG (fun i => ad (rKL i)) v103) rfl rfl (fun r104 => ?_)
        refine w_aload_n (pc := 744) (dc dl_law_11 18 rfl) rfl rfl ?_
        refine w_aload_n (pc := 745) (dc dl_law_11 19 rfl) rfl rfl ?_
        refine w_iload_n (pc := 746) (dc dl_law_11 20 rfl) rfl rfl ?_
        refine w_iconst (pc := 747) (v := 1) (dc dl_law_11 21 rfl) ic_1 ?_
        refine w_iadd (pc := 748) (dc dl_law_11 22 rfl) ?_
        refine w_xld (pc := 749) (dc dl_law_11 23 rfl) (fun v105 => ?_)
        refine w_call (pc := 750) (ρ := rMo) (o := 211) (As := [.int v105]) (rest := [.int r104]) (subC_of subL_Mo) rfl (dc dl_law_11 24 rfl) mo_X11_crossing mv_X11_crossing lml_89 ⟨Nat.le_of_ble_eq_true rfl, Nat.le_of_ble_eq_true rfl⟩ hcs rfl rfl (Nat.le_of_ble_eq_true rfl) lk_All_211 rfl (cn_X11_crossing l G hG (fun i => ad (rMo i)) v105) rfl rfl (fun r106 => ?_)
        refine w_icmp_eq (pc := 753) (tgt := 1397) (dc dl_law_11 25 rfl) rfl ?_ ?_
        · exact w_wk (hj4 ()) rfl
        · refine w_iconst (pc := 756) (v := 0) (dc dl_law_11 26 rfl) ic_0 ?_
          exact w_fl
      · refine w_aload_n (pc := 758) (dc dl_law_11 28 rfl) rfl rfl ?_
        refine w_aload_n (pc := 759) (dc dl_law_11 29 rfl) rfl rfl ?_
        refine w_iload_n (pc := 760) (dc dl_law_11 30 rfl) rfl rfl ?_
        refine w_iconst (pc := 761) (v := 1) (dc dl_law_11 31 rfl) ic_1 ?_
        refine w_iadd (pc := 762) (dc dl_law_11 32 rfl) ?_
        refine w_xld (pc := 763) (dc dl_law_11 33 rfl) (fun v107 => ?_)
        refine w_call (pc := 764) (ρ := rKL) (o := 0) (As := [.int v107]) (rest := []) (subC_KL G ad) rfl (dc dl_law_11 34 rfl) mo_X10_braid mv_X10_braid lml_90 ⟨Nat.le_of_ble_eq_true rfl, Nat.le_of_ble_eq_true rfl⟩ hcs rfl rfl (Nat.le_of_ble_eq_true rfl) lk_All_0 rfl (cn_X10_braid l G hG (fun i => ad (rKL i)) v107) rfl rfl (fun r108 => ?_)
        refine w_aload_n (pc := 767) (dc dl_law_11 35 rfl) rfl rfl ?_
        refine w_aload_n (pc := 768) (dc dl_law_11 36 rfl) rfl rfl ?_
        refine w_iload_n (pc := 769) (dc dl_law_11 37 rfl) rfl rfl ?_
        refine w_iconst (pc := 770) (v := 1) (dc dl_law_11 38 rfl) ic_1 ?_
        refine w_iadd (pc := 771) (dc dl_law_11 39 rfl) ?_
        refine w_xld (pc := 772) (dc dl_law_12 0 rfl) (fun v109 => ?_)
        refine w_call (pc := 773) (ρ := rMo) (o := 211) (As := [.int v109]) (rest := [.int r108]) (subC_of subL_Mo) rfl (dc dl_law_12 1 rfl) mo_X11_braid mv_X11_braid lml_93 ⟨Nat.le_of_ble_eq_true rfl, Nat.le_of_ble_eq_true rfl⟩ hcs rfl rfl (Nat.le_of_ble_eq_true rfl) lk_All_211 rfl (cn_X11_braid l G hG (fun i => ad (rMo i)) v109) rfl rfl (fun r110 => ?_)
        refine w_icmp_eq (pc := 776) (tgt := 1397) (dc dl_law_12 2 rfl) rfl ?_ ?_
        · exact w_wk (hj4 ()) rfl
        · refine w_iconst (pc := 779) (v := 0) (dc dl_law_12 3 rfl) ic_0 ?_
          exact w_fl
      · refine w_aload_n (pc := 781) (dc dl_law_12 5 rfl) rfl rfl ?_
        refine w_aload_n (pc := 782) (dc dl_law_12 6 rfl) rfl rfl ?_
        refine w_iload_n (pc := 783) (dc dl_law_12 7 rfl) rfl rfl ?_
        refine w_iconst (pc := 784) (v := 1) (dc dl_law_12 8 rfl) ic_1 ?_
        refine w_iadd (pc := 785) (dc dl_law_12 9 rfl) ?_
        refine w_xld (pc := 786) (dc dl_law_12 10 rfl) (fun v111 => ?_)
        refine w_aload_n (pc := 787) (dc dl_law_12 11 rfl) rfl rfl ?_
        refine w_iload_n (pc := 788) (dc dl_law_12 12 rfl) rfl rfl ?_
        refine w_iconst (pc := 789) (v := 2) (dc dl_law_12 13 rfl) ic_2 ?_
        refine w_iadd (pc := 790) (dc dl_law_12 14 rfl) ?_
        refine w_xld (pc := 791) (dc dl_law_12 15 rfl) (fun v112 => ?_)
        refine w_call (pc := 792) (ρ := rKL) (o := 0) (As := [.int v111, .int v112]) (rest := []) (subC_KL G ad) rfl (dc dl_law_12 16 rfl) mo_X10_turnings mv_X10_turnings lml_94 ⟨Nat.le_of_ble_eq_true rfl, Nat.le_of_ble_eq_true rfl⟩ hcs rfl rfl (Nat.le_of_ble_eq_true rfl) lk_All_0 rfl (cn_X10_turnings l G hG (fun i => ad (rKL i)) v111 v112) rfl rfl (fun r113 => ?_)
        refine w_aload_n (pc := 795) (dc dl_law_12 17 rfl) rfl rfl ?_
        refine w_aload_n (pc := 796) (dc dl_law_12 18 rfl) rfl rfl ?_
        refine w_iload_n (pc := 797) (dc dl_law_12 19 rfl) rfl rfl ?_
        refine w_iconst (pc := 798) (v := 1) (dc dl_law_12 20 rfl) ic_1 ?_
        refine w_iadd (pc := 799) (dc dl_law_12 21 rfl) ?_
        refine w_xld (pc := 800) (dc dl_law_12 22 rfl) (fun v114 => ?_)
        refine w_aload_n (pc := 801) (dc dl_law_12 23 rfl) rfl rfl ?_
        refine w_iload_n (pc := 802) (dc dl_law_12 24 rfl) rfl rfl ?_
        refine w_iconst (pc := 803) (v := 2) (dc dl_law_12 25 rfl) ic_2 ?_
        refine w_iadd (pc := 804) (dc dl_law_12 26 rfl) ?_
        refine w_xld (pc := 805) (dc dl_law_12 27 rfl) (fun v115 => ?_)
        refine w_call (pc := 806) (ρ := rMo) (o := 211) (As := [.int v114, .int v115]) (rest := [.int r113]) (subC_of subL_Mo) rfl (dc dl_law_12 28 rfl) mo_X11_turnings mv_X11_turnings lml_97 ⟨Nat.le_of_ble_eq_true rfl, Nat.le_of_ble_eq_true rfl⟩ hcs rfl rfl (Nat.le_of_ble_eq_true rfl) lk_All_211 rfl (cn_X11_turnings l G hG (fun i => ad (rMo i)) v114 v115) rfl rfl (fun r116 => ?_)
        refine w_icmp_eq (pc := 809) (tgt := 1397) (dc dl_law_12 29 rfl) rfl ?_ ?_
        · exact w_wk (hj4 ()) rfl
        · refine w_iconst (pc := 812) (v := 0) (dc dl_law_12 30 rfl) ic_0 ?_
          exact w_fl
      · refine w_aload_n (pc := 814) (dc dl_law_12 32 rfl) rfl rfl ?_
        refine w_aload_n (pc := 815) (dc dl_law_12 33 rfl) rfl rfl ?_
        refine w_iload_n (pc := 816) (dc dl_law_12 34 rfl) rfl rfl ?_
        refine w_iconst (pc := 817) (v := 1) (dc dl_law_12 35 rfl) ic_1 ?_
        refine w_iadd (pc := 818) (dc dl_law_12 36 rfl) ?_
        refine w_xld (pc := 819) (dc dl_law_12 37 rfl) (fun v117 => ?_)
        refine w_aload_n (pc := 820) (dc dl_law_12 38 rfl) rfl rfl ?_
        refine w_iload_n (pc := 821) (dc dl_law_12 39 rfl) rfl rfl ?_
        refine w_iconst (pc := 822) (v := 2) (dc dl_law_13 0 rfl) ic_2 ?_
        refine w_iadd (pc := 823) (dc dl_law_13 1 rfl) ?_
        refine w_xld (pc := 824) (dc dl_law_13 2 rfl) (fun v118 => ?_)
        refine w_aload_n (pc := 825) (dc dl_law_13 3 rfl) rfl rfl ?_
        refine w_iload_n (pc := 826) (dc dl_law_13 4 rfl) rfl rfl ?_
        refine w_iconst (pc := 827) (v := 3) (dc dl_law_13 5 rfl) ic_3 ?_
        refine w_iadd (pc := 828) (dc dl_law_13 6 rfl) ?_
        refine w_xld (pc := 829) (dc dl_law_13 7 rfl) (fun v119 => ?_)
        refine w_call (pc := 830) (ρ := rKL) (o := 0) (As := [.int v117, .int v118, .int v119]) (rest := []) (subC_KL G ad) rfl (dc dl_law_13 8 rfl) mo_X10_strip mv_X10_strip lml_98 ⟨Nat.le_of_ble_eq_true rfl, Nat.le_of_ble_eq_true rfl⟩ hcs rfl rfl (Nat.le_of_ble_eq_true rfl) lk_All_0 rfl (cn_X10_strip l G hG (fun i => ad (rKL i)) v117 v118 v119) rfl rfl (fun r120 => ?_)
        refine w_aload_n (pc := 833) (dc dl_law_13 9 rfl) rfl rfl ?_
        refine w_aload_n (pc := 834) (dc dl_law_13 10 rfl) rfl rfl ?_
        refine w_iload_n (pc := 835) (dc dl_law_13 11 rfl) rfl rfl ?_
        refine w_iconst (pc := 836) (v := 1) (dc dl_law_13 12 rfl) ic_1 ?_
        refine w_iadd (pc := 837) (dc dl_law_13 13 rfl) ?_
        refine w_xld (pc := 838) (dc dl_law_13 14 rfl) (fun v121 => ?_)
        refine w_aload_n (pc := 839) (dc dl_law_13 15 rfl) rfl rfl ?_
        refine w_iload_n (pc := 840) (dc dl_law_13 16 rfl) rfl rfl ?_
        refine w_iconst (pc := 841) (v := 2) (dc dl_law_13 17 rfl) ic_2 ?_
        refine w_iadd (pc := 842) (dc dl_law_13 18 rfl) ?_
        refine w_xld (pc := 843) (dc dl_law_13 19 rfl) (fun v122 => ?_)
        refine w_aload_n (pc := 844) (dc dl_law_13 20 rfl) rfl rfl ?_
        refine w_iload_n (pc := 845) (dc dl_law_13 21 rfl) rfl rfl ?_
        refine w_iconst (pc := 846) (v := 3) (dc dl_law_13 22 rfl) ic_3 ?_
        refine w_iadd (pc := 847) (dc dl_law_13 23 rfl) ?_
        refine w_xld (pc := 848) (dc dl_law_13 24 rfl) (fun v123 => ?_)
        refine w_call (pc := 849) (ρ := rMo) (o := 211) (As := [.int v121, .int v122, .int v123]) (rest := [.int r120]) (subC_of subL_Mo) rfl (dc dl_law_13 25 rfl) mo_X11_strip mv_X11_strip lml_102 ⟨Nat.le_of_ble_eq_true rfl, Nat.le_of_ble_eq_true rfl⟩ hcs rfl rfl (Nat.le_of_ble_eq_true rfl) lk_All_211 rfl (cn_X11_strip l G hG (fun i => ad (rMo i)) v121 v122 v123) rfl rfl (fun r124 => ?_)
        refine w_icmp_eq (pc := 852) (tgt := 1397) (dc dl_law_13 26 rfl) rfl ?_ ?_
        · exact w_wk (hj4 ()) rfl
        · refine w_iconst (pc := 855) (v := 0) (dc dl_law_13 27 rfl) ic_0 ?_
          exact w_fl
      · refine w_aload_n (pc := 857) (dc dl_law_13 29 rfl) rfl rfl ?_
        refine w_aload_n (pc := 858) (dc dl_law_13 30 rfl) rfl rfl ?_
        refine w_iload_n (pc := 859) (dc dl_law_13 31 rfl) rfl rfl ?_
        refine w_iconst (pc := 860) (v := 1) (dc dl_law_13 32 rfl) ic_1 ?_
        refine w_iadd (pc := 861) (dc dl_law_13 33 rfl) ?_
        refine w_xld (pc := 862) (dc dl_law_13 34 rfl) (fun v125 => ?_)
        refine w_call (pc := 863) (ρ := rKL) (o := 0) (As := [.int v125]) (rest := []) (subC_KL G ad) rfl (dc dl_law_13 35 rfl) mo_X10_answer mv_X10_answer lml_103 ⟨Nat.le_of_ble_eq_true rfl, Nat.le_of_ble_eq_true rfl⟩ hcs rfl rfl (Nat.le_of_ble_eq_true rfl) lk_All_0 rfl (cn_X10_answer l G hG (fun i => ad (rKL i)) v125) rfl rfl (fun r126 => ?_)
        refine w_aload_n (pc := 866) (dc dl_law_13 36 rfl) rfl rfl ?_
        refine w_aload_n (pc := 867) (dc dl_law_13 37 rfl) rfl rfl ?_
        refine w_iload_n (pc := 868) (dc dl_law_13 38 rfl) rfl rfl ?_
        refine w_iconst (pc := 869) (v := 1) (dc dl_law_13 39 rfl) ic_1 ?_
        refine w_iadd (pc := 870) (dc dl_law_14 0 rfl) ?_
        refine w_xld (pc := 871) (dc dl_law_14 1 rfl) (fun v127 => ?_)
        refine w_call (pc := 872) (ρ := rMo) (o := 211) (As := [.int v127]) (rest := [.int r126]) (subC_of subL_Mo) rfl (dc dl_law_14 2 rfl) mo_X11_answer mv_X11_answer lml_106 ⟨Nat.le_of_ble_eq_true rfl, Nat.le_of_ble_eq_true rfl⟩ hcs rfl rfl (Nat.le_of_ble_eq_true rfl) lk_All_211 rfl (cn_X11_answer l G hG (fun i => ad (rMo i)) v127) rfl rfl (fun r128 => ?_)
        refine w_icmp_eq (pc := 875) (tgt := 1397) (dc dl_law_14 3 rfl) rfl ?_ ?_
        · exact w_wk (hj4 ()) rfl
        · refine w_iconst (pc := 878) (v := 0) (dc dl_law_14 4 rfl) ic_0 ?_
          exact w_fl
      · refine w_aload_n (pc := 880) (dc dl_law_14 6 rfl) rfl rfl ?_
        refine w_aload_n (pc := 881) (dc dl_law_14 7 rfl) rfl rfl ?_
        refine w_iload_n (pc := 882) (dc dl_law_14 8 rfl) rfl rfl ?_
        refine w_iconst (pc := 883) (v := 1) (dc dl_law_14 9 rfl) ic_1 ?_
        refine w_iadd (pc := 884) (dc dl_law_14 10 rfl) ?_
        refine w_xld (pc := 885) (dc dl_law_14 11 rfl) (fun v129 => ?_)
        refine w_call (pc := 886) (ρ := rKL) (o := 0) (As := [.int v129]) (rest := []) (subC_KL G ad) rfl (dc dl_law_14 12 rfl) mo_X10_boxes mv_X10_boxes lml_107 ⟨Nat.le_of_ble_eq_true rfl, Nat.le_of_ble_eq_true rfl⟩ hcs rfl rfl (Nat.le_of_ble_eq_true rfl) lk_All_0 rfl (cn_X10_boxes l G hG (fun i => ad (rKL i)) v129) rfl rfl (fun r130 => ?_)
        refine w_aload_n (pc := 889) (dc dl_law_14 13 rfl) rfl rfl ?_
        refine w_aload_n (pc := 890) (dc dl_law_14 14 rfl) rfl rfl ?_
        refine w_iload_n (pc := 891) (dc dl_law_14 15 rfl) rfl rfl ?_
        refine w_iconst (pc := 892) (v := 1) (dc dl_law_14 16 rfl) ic_1 ?_
        refine w_iadd (pc := 893) (dc dl_law_14 17 rfl) ?_
        refine w_xld (pc := 894) (dc dl_law_14 18 rfl) (fun v131 => ?_)
        refine w_call (pc := 895) (ρ := rMo) (o := 211) (As := [.int v131]) (rest := [.int r130]) (subC_of subL_Mo) rfl (dc dl_law_14 19 rfl) mo_X11_boxes mv_X11_boxes lml_110 ⟨Nat.le_of_ble_eq_true rfl, Nat.le_of_ble_eq_true rfl⟩ hcs rfl rfl (Nat.le_of_ble_eq_true rfl) lk_All_211 rfl (cn_X11_boxes l G hG (fun i => ad (rMo i)) v131) rfl rfl (fun r132 => ?_)
        refine w_icmp_eq (pc := 898) (tgt := 1397) (dc dl_law_14 20 rfl) rfl ?_ ?_
        · exact w_wk (hj4 ()) rfl
        · refine w_iconst (pc := 901) (v := 0) (dc dl_law_14 21 rfl) ic_0 ?_
          exact w_fl
      · refine w_aload_n (pc := 903) (dc dl_law_14 23 rfl) rfl rfl ?_
        refine w_aload_n (pc := 904) (dc dl_law_14 24 rfl) rfl rfl ?_
        refine w_iload_n (pc := 905) (dc dl_law_14 25 rfl) rfl rfl ?_
        refine w_iconst (pc := 906) (v := 1) (dc dl_law_14 26 rfl) ic_1 ?_
        refine w_iadd (pc := 907) (dc dl_law_14 27 rfl) ?_
        refine w_xld (pc := 908) (dc dl_law_14 28 rfl) (fun v133 => ?_)
        refine w_aload_n (pc := 909) (dc dl_law_14 29 rfl) rfl rfl ?_
        refine w_iload_n (pc := 910) (dc dl_law_14 30 rfl) rfl rfl ?_
        refine w_iconst (pc := 911) (v := 2) (dc dl_law_14 31 rfl) ic_2 ?_
        refine w_iadd (pc := 912) (dc dl_law_14 32 rfl) ?_
        refine w_xld (pc := 913) (dc dl_law_14 33 rfl) (fun v134 => ?_)
        refine w_call (pc := 914) (ρ := rKL) (o := 0) (As := [.int v133, .int v134]) (rest := []) (subC_KL G ad) rfl (dc dl_law_14 34 rfl) mo_X10_piles mv_X10_piles lml_111 ⟨Nat.le_of_ble_eq_true rfl, Nat.le_of_ble_eq_true rfl⟩ hcs rfl rfl (Nat.le_of_ble_eq_true rfl) lk_All_0 rfl (cn_X10_piles l G hG (fun i => ad (rKL i)) v133 v134) rfl rfl (fun r135 => ?_)
        refine w_aload_n (pc := 917) (dc dl_law_14 35 rfl) rfl rfl ?_
        refine w_aload_n (pc := 918) (dc dl_law_14 36 rfl) rfl rfl ?_
        refine w_iload_n (pc := 919) (dc dl_law_14 37 rfl) rfl rfl ?_
        refine w_iconst (pc := 920) (v := 1) (dc dl_law_14 38 rfl) ic_1 ?_
        refine w_iadd (pc := 921) (dc dl_law_14 39 rfl) ?_
        refine w_xld (pc := 922) (dc dl_law_15 0 rfl) (fun v136 => ?_)
        refine w_aload_n (pc := 923) (dc dl_law_15 1 rfl) rfl rfl ?_
        refine w_iload_n (pc := 924) (dc dl_law_15 2 rfl) rfl rfl ?_
        refine w_iconst (pc := 925) (v := 2) (dc dl_law_15 3 rfl) ic_2 ?_
        refine w_iadd (pc := 926) (dc dl_law_15 4 rfl) ?_
        refine w_xld (pc := 927) (dc dl_law_15 5 rfl) (fun v137 => ?_)
        refine w_call (pc := 928) (ρ := rMo) (o := 211) (As := [.int v136, .int v137]) (rest := [.int r135]) (subC_of subL_Mo) rfl (dc dl_law_15 6 rfl) mo_X11_piles mv_X11_piles lml_114 ⟨Nat.le_of_ble_eq_true rfl, Nat.le_of_ble_eq_true rfl⟩ hcs rfl rfl (Nat.le_of_ble_eq_true rfl) lk_All_211 rfl (cn_X11_piles l G hG (fun i => ad (rMo i)) v136 v137) rfl rfl (fun r138 => ?_)
        refine w_icmp_eq (pc := 931) (tgt := 1397) (dc dl_law_15 7 rfl) rfl ?_ ?_
        · exact w_wk (hj4 ()) rfl
        · refine w_iconst (pc := 934) (v := 0) (dc dl_law_15 8 rfl) ic_0 ?_
          exact w_fl
      · refine w_aload_n (pc := 936) (dc dl_law_15 10 rfl) rfl rfl ?_
        refine w_aload_n (pc := 937) (dc dl_law_15 11 rfl) rfl rfl ?_
        refine w_iload_n (pc := 938) (dc dl_law_15 12 rfl) rfl rfl ?_
        refine w_iconst (pc := 939) (v := 1) (dc dl_law_15 13 rfl) ic_1 ?_
        refine w_iadd (pc := 940) (dc dl_law_15 14 rfl) ?_
        refine w_xld (pc := 941) (dc dl_law_15 15 rfl) (fun v139 => ?_)
        refine w_call (pc := 942) (ρ := rKL) (o := 0) (As := [.int v139]) (rest := []) (subC_KL G ad) rfl (dc dl_law_15 16 rfl) mo_X10_dealt mv_X10_dealt lml_115 ⟨Nat.le_of_ble_eq_true rfl, Nat.le_of_ble_eq_true rfl⟩ hcs rfl rfl (Nat.le_of_ble_eq_true rfl) lk_All_0 rfl (cn_X10_dealt l G hG (fun i => ad (rKL i)) v139) rfl rfl (fun r140 => ?_)
        refine w_aload_n (pc := 945) (dc dl_law_15 17 rfl) rfl rfl ?_
        refine w_aload_n (pc := 946) (dc dl_law_15 18 rfl) rfl rfl ?_
        refine w_iload_n (pc := 947) (dc dl_law_15 19 rfl) rfl rfl ?_
        refine w_iconst (pc := 948) (v := 1) (dc dl_law_15 20 rfl) ic_1 ?_
        refine w_iadd (pc := 949) (dc dl_law_15 21 rfl) ?_
        refine w_xld (pc := 950) (dc dl_law_15 22 rfl) (fun v141 => ?_)
        refine w_call (pc := 951) (ρ := rMo) (o := 211) (As := [.int v141]) (rest := [.int r140]) (subC_of subL_Mo) rfl (dc dl_law_15 23 rfl) mo_X11_dealt mv_X11_dealt lml_118 ⟨Nat.le_of_ble_eq_true rfl, Nat.le_of_ble_eq_true rfl⟩ hcs rfl rfl (Nat.le_of_ble_eq_true rfl) lk_All_211 rfl (cn_X11_dealt l G hG (fun i => ad (rMo i)) v141) rfl rfl (fun r142 => ?_)
        refine w_icmp_eq (pc := 954) (tgt := 1397) (dc dl_law_15 24 rfl) rfl ?_ ?_
        · exact w_wk (hj4 ()) rfl
        · refine w_iconst (pc := 957) (v := 0) (dc dl_law_15 25 rfl) ic_0 ?_
          exact w_fl
      · refine w_aload_n (pc := 959) (dc dl_law_15 27 rfl) rfl rfl ?_
        refine w_aload_n (pc := 960) (dc dl_law_15 28 rfl) rfl rfl ?_
        refine w_iload_n (pc := 961) (dc dl_law_15 29 rfl) rfl rfl ?_
        refine w_iconst (pc := 962) (v := 1) (dc dl_law_15 30 rfl) ic_1 ?_
        refine w_iadd (pc := 963) (dc dl_law_15 31 rfl) ?_
        refine w_xld (pc := 964) (dc dl_law_15 32 rfl) (fun v143 => ?_)
        refine w_call (pc := 965) (ρ := rKL) (o := 0) (As := [.int v143]) (rest := []) (subC_KL G ad) rfl (dc dl_law_15 33 rfl) mo_X10_key mv_X10_key lml_119 ⟨Nat.le_of_ble_eq_true rfl, Nat.le_of_ble_eq_true rfl⟩ hcs rfl rfl (Nat.le_of_ble_eq_true rfl) lk_All_0 rfl (cn_X10_key l G hG (fun i => ad (rKL i)) v143) rfl rfl (fun r144 => ?_)
        refine w_aload_n (pc := 968) (dc dl_law_15 34 rfl) rfl rfl ?_
        refine w_aload_n (pc := 969) (dc dl_law_15 35 rfl) rfl rfl ?_
        refine w_iload_n (pc := 970) (dc dl_law_15 36 rfl) rfl rfl ?_
        refine w_iconst (pc := 971) (v := 1) (dc dl_law_15 37 rfl) ic_1 ?_
        refine w_iadd (pc := 972) (dc dl_law_15 38 rfl) ?_
        refine w_xld (pc := 973) (dc dl_law_15 39 rfl) (fun v145 => ?_)
        refine w_call (pc := 974) (ρ := rMo) (o := 211) (As := [.int v145]) (rest := [.int r144]) (subC_of subL_Mo) rfl (dc dl_law_16 0 rfl) mo_X11_key mv_X11_key lml_122 ⟨Nat.le_of_ble_eq_true rfl, Nat.le_of_ble_eq_true rfl⟩ hcs rfl rfl (Nat.le_of_ble_eq_true rfl) lk_All_211 rfl (cn_X11_key l G hG (fun i => ad (rMo i)) v145) rfl rfl (fun r146 => ?_)
        refine w_icmp_eq (pc := 977) (tgt := 1397) (dc dl_law_16 1 rfl) rfl ?_ ?_
        · exact w_wk (hj4 ()) rfl
        · refine w_iconst (pc := 980) (v := 0) (dc dl_law_16 2 rfl) ic_0 ?_
          exact w_fl
      · refine w_aload_n (pc := 982) (dc dl_law_16 4 rfl) rfl rfl ?_
        refine w_aload_n (pc := 983) (dc dl_law_16 5 rfl) rfl rfl ?_
        refine w_iload_n (pc := 984) (dc dl_law_16 6 rfl) rfl rfl ?_
        refine w_iconst (pc := 985) (v := 1) (dc dl_law_16 7 rfl) ic_1 ?_
        refine w_iadd (pc := 986) (dc dl_law_16 8 rfl) ?_
        refine w_xld (pc := 987) (dc dl_law_16 9 rfl) (fun v147 => ?_)
        refine w_aload_n (pc := 988) (dc dl_law_16 10 rfl) rfl rfl ?_
        refine w_iload_n (pc := 989) (dc dl_law_16 11 rfl) rfl rfl ?_
        refine w_iconst (pc := 990) (v := 2) (dc dl_law_16 12 rfl) ic_2 ?_
        refine w_iadd (pc := 991) (dc dl_law_16 13 rfl) ?_
        refine w_xld (pc := 992) (dc dl_law_16 14 rfl) (fun v148 => ?_)
        refine w_aload_n (pc := 993) (dc dl_law_16 15 rfl) rfl rfl ?_
        refine w_iload_n (pc := 994) (dc dl_law_16 16 rfl) rfl rfl ?_
        refine w_iconst (pc := 995) (v := 3) (dc dl_law_16 17 rfl) ic_3 ?_
        refine w_iadd (pc := 996) (dc dl_law_16 18 rfl) ?_
        refine w_xld (pc := 997) (dc dl_law_16 19 rfl) (fun v149 => ?_)
        refine w_call (pc := 998) (ρ := rKL) (o := 0) (As := [.int v147, .int v148, .int v149]) (rest := []) (subC_KL G ad) rfl (dc dl_law_16 20 rfl) mo_X10_table mv_X10_table lml_123 ⟨Nat.le_of_ble_eq_true rfl, Nat.le_of_ble_eq_true rfl⟩ hcs rfl rfl (Nat.le_of_ble_eq_true rfl) lk_All_0 rfl (cn_X10_table l G hG (fun i => ad (rKL i)) v147 v148 v149) rfl rfl (fun r150 => ?_)
        refine w_aload_n (pc := 1001) (dc dl_law_16 21 rfl) rfl rfl ?_
        refine w_aload_n (pc := 1002) (dc dl_law_16 22 rfl) rfl rfl ?_
        refine w_iload_n (pc := 1003) (dc dl_law_16 23 rfl) rfl rfl ?_
        refine w_iconst (pc := 1004) (v := 1) (dc dl_law_16 24 rfl) ic_1 ?_
        refine w_iadd (pc := 1005) (dc dl_law_16 25 rfl) ?_
        refine w_xld (pc := 1006) (dc dl_law_16 26 rfl) (fun v151 => ?_)
        refine w_aload_n (pc := 1007) (dc dl_law_16 27 rfl) rfl rfl ?_
        refine w_iload_n (pc := 1008) (dc dl_law_16 28 rfl) rfl rfl ?_
        refine w_iconst (pc := 1009) (v := 2) (dc dl_law_16 29 rfl) ic_2 ?_
        refine w_iadd (pc := 1010) (dc dl_law_16 30 rfl) ?_
        refine w_xld (pc := 1011) (dc dl_law_16 31 rfl) (fun v152 => ?_)
        refine w_aload_n (pc := 1012) (dc dl_law_16 32 rfl) rfl rfl ?_
        refine w_iload_n (pc := 1013) (dc dl_law_16 33 rfl) rfl rfl ?_
        refine w_iconst (pc := 1014) (v := 3) (dc dl_law_16 34 rfl) ic_3 ?_
        refine w_iadd (pc := 1015) (dc dl_law_16 35 rfl) ?_
        refine w_xld (pc := 1016) (dc dl_law_16 36 rfl) (fun v153 => ?_)
        refine w_call (pc := 1017) (ρ := rMo) (o := 211) (As := [.int v151, .int v152, .int v153]) (rest := [.int r150]) (subC_of subL_Mo) rfl (dc dl_law_16 37 rfl) mo_X11_table mv_X11_table lml_126 ⟨Nat.le_of_ble_eq_true rfl, Nat.le_of_ble_eq_true rfl⟩ hcs rfl rfl (Nat.le_of_ble_eq_true rfl) lk_All_211 rfl (cn_X11_table l G hG (fun i => ad (rMo i)) v151 v152 v153) rfl rfl (fun r154 => ?_)
        refine w_icmp_eq (pc := 1020) (tgt := 1397) (dc dl_law_16 38 rfl) rfl ?_ ?_
        · exact w_wk (hj4 ()) rfl
        · refine w_iconst (pc := 1023) (v := 0) (dc dl_law_16 39 rfl) ic_0 ?_
          exact w_fl
      · refine w_aload_n (pc := 1025) (dc dl_law_17 1 rfl) rfl rfl ?_
        refine w_aload_n (pc := 1026) (dc dl_law_17 2 rfl) rfl rfl ?_
        refine w_iload_n (pc := 1027) (dc dl_law_17 3 rfl) rfl rfl ?_
        refine w_iconst (pc := 1028) (v := 1) (dc dl_law_17 4 rfl) ic_1 ?_
        refine w_iadd (pc := 1029) (dc dl_law_17 5 rfl) ?_
        refine w_xld (pc := 1030) (dc dl_law_17 6 rfl) (fun v155 => ?_)
        refine w_call (pc := 1031) (ρ := rKL) (o := 0) (As := [.int v155]) (rest := []) (subC_KL G ad) rfl (dc dl_law_17 7 rfl) mo_X10_ask mv_X10_ask lml_127 ⟨Nat.le_of_ble_eq_true rfl, Nat.le_of_ble_eq_true rfl⟩ hcs rfl rfl (Nat.le_of_ble_eq_true rfl) lk_All_0 rfl (cn_X10_ask l G hG (fun i => ad (rKL i)) v155) rfl rfl (fun r156 => ?_)
        refine w_aload_n (pc := 1034) (dc dl_law_17 8 rfl) rfl rfl ?_
        refine w_aload_n (pc := 1035) (dc dl_law_17 9 rfl) rfl rfl ?_
        refine w_iload_n (pc := 1036) (dc dl_law_17 10 rfl) rfl rfl ?_
        refine w_iconst (pc := 1037) (v := 1) (dc dl_law_17 11 rfl) ic_1 ?_
        refine w_iadd (pc := 1038) (dc dl_law_17 12 rfl) ?_
        refine w_xld (pc := 1039) (dc dl_law_17 13 rfl) (fun v157 => ?_)
        refine w_call (pc := 1040) (ρ := rMo) (o := 211) (As := [.int v157]) (rest := [.int r156]) (subC_of subL_Mo) rfl (dc dl_law_17 14 rfl) mo_X11_ask mv_X11_ask lml_130 ⟨Nat.le_of_ble_eq_true rfl, Nat.le_of_ble_eq_true rfl⟩ hcs rfl rfl (Nat.le_of_ble_eq_true rfl) lk_All_211 rfl (cn_X11_ask l G hG (fun i => ad (rMo i)) v157) rfl rfl (fun r158 => ?_)
        refine w_icmp_eq (pc := 1043) (tgt := 1397) (dc dl_law_17 15 rfl) rfl ?_ ?_
        · exact w_wk (hj4 ()) rfl
        · refine w_iconst (pc := 1046) (v := 0) (dc dl_law_17 16 rfl) ic_0 ?_
          exact w_fl
      · refine w_aload_n (pc := 1048) (dc dl_law_17 18 rfl) rfl rfl ?_
        refine w_aload_n (pc := 1049) (dc dl_law_17 19 rfl) rfl rfl ?_
        refine w_iload_n (pc := 1050) (dc dl_law_17 20 rfl) rfl rfl ?_
        refine w_iconst (pc := 1051) (v := 1) (dc dl_law_17 21 rfl) ic_1 ?_
        refine w_iadd (pc := 1052) (dc dl_law_17 22 rfl) ?_
        refine w_xld (pc := 1053) (dc dl_law_17 23 rfl) (fun v159 => ?_)
        refine w_aload_n (pc := 1054) (dc dl_law_17 24 rfl) rfl rfl ?_
        refine w_iload_n (pc := 1055) (dc dl_law_17 25 rfl) rfl rfl ?_
        refine w_iconst (pc := 1056) (v := 2) (dc dl_law_17 26 rfl) ic_2 ?_
        refine w_iadd (pc := 1057) (dc dl_law_17 27 rfl) ?_
        refine w_xld (pc := 1058) (dc dl_law_17 28 rfl) (fun v160 => ?_)
        refine w_call (pc := 1059) (ρ := rKL) (o := 0) (As := [.int v159, .int v160]) (rest := []) (subC_KL G ad) rfl (dc dl_law_17 29 rfl) mo_X10_pages mv_X10_pages lml_131 ⟨Nat.le_of_ble_eq_true rfl, Nat.le_of_ble_eq_true rfl⟩ hcs rfl rfl (Nat.le_of_ble_eq_true rfl) lk_All_0 rfl (cn_X10_pages l G hG (fun i => ad (rKL i)) v159 v160) rfl rfl (fun r161 => ?_)
        refine w_aload_n (pc := 1062) (dc dl_law_17 30 rfl) rfl rfl ?_
        refine w_aload_n (pc := 1063) (dc dl_law_17 31 rfl) rfl rfl ?_
        refine w_iload_n (pc := 1064) (dc dl_law_17 32 rfl) rfl rfl ?_
        refine w_iconst (pc := 1065) (v := 1) (dc dl_law_17 33 rfl) ic_1 ?_
        refine w_iadd (pc := 1066) (dc dl_law_17 34 rfl) ?_
        refine w_xld (pc := 1067) (dc dl_law_17 35 rfl) (fun v162 => ?_)
        refine w_aload_n (pc := 1068) (dc dl_law_17 36 rfl) rfl rfl ?_
        refine w_iload_n (pc := 1069) (dc dl_law_17 37 rfl) rfl rfl ?_
        refine w_iconst (pc := 1070) (v := 2) (dc dl_law_17 38 rfl) ic_2 ?_
        refine w_iadd (pc := 1071) (dc dl_law_17 39 rfl) ?_
        refine w_xld (pc := 1072) (dc dl_law_18 0 rfl) (fun v163 => ?_)
        refine w_call (pc := 1073) (ρ := rMo) (o := 211) (As := [.int v162, .int v163]) (rest := [.int r161]) (subC_of subL_Mo) rfl (dc dl_law_18 1 rfl) mo_X11_pages mv_X11_pages lml_134 ⟨Nat.le_of_ble_eq_true rfl, Nat.le_of_ble_eq_true rfl⟩ hcs rfl rfl (Nat.le_of_ble_eq_true rfl) lk_All_211 rfl (cn_X11_pages l G hG (fun i => ad (rMo i)) v162 v163) rfl rfl (fun r164 => ?_)
        refine w_icmp_eq (pc := 1076) (tgt := 1397) (dc dl_law_18 2 rfl) rfl ?_ ?_
        · exact w_wk (hj4 ()) rfl
        · refine w_iconst (pc := 1079) (v := 0) (dc dl_law_18 3 rfl) ic_0 ?_
          exact w_fl
      · refine w_aload_n (pc := 1081) (dc dl_law_18 5 rfl) rfl rfl ?_
        refine w_aload_n (pc := 1082) (dc dl_law_18 6 rfl) rfl rfl ?_
        refine w_iload_n (pc := 1083) (dc dl_law_18 7 rfl) rfl rfl ?_
        refine w_iconst (pc := 1084) (v := 1) (dc dl_law_18 8 rfl) ic_1 ?_
        refine w_iadd (pc := 1085) (dc dl_law_18 9 rfl) ?_
        refine w_xld (pc := 1086) (dc dl_law_18 10 rfl) (fun v165 => ?_)
        refine w_aload_n (pc := 1087) (dc dl_law_18 11 rfl) rfl rfl ?_
        refine w_iload_n (pc := 1088) (dc dl_law_18 12 rfl) rfl rfl ?_
        refine w_iconst (pc := 1089) (v := 2) (dc dl_law_18 13 rfl) ic_2 ?_
        refine w_iadd (pc := 1090) (dc dl_law_18 14 rfl) ?_
        refine w_xld (pc := 1091) (dc dl_law_18 15 rfl) (fun v166 => ?_)
        refine w_call (pc := 1092) (ρ := rKL) (o := 0) (As := [.int v165, .int v166]) (rest := []) (subC_KL G ad) rfl (dc dl_law_18 16 rfl) mo_X10_truth mv_X10_truth lml_135 ⟨Nat.le_of_ble_eq_true rfl, Nat.le_of_ble_eq_true rfl⟩ hcs rfl rfl (Nat.le_of_ble_eq_true rfl) lk_All_0 rfl (cn_X10_truth l G hG (fun i => ad (rKL i)) v165 v166) rfl rfl (fun r167 => ?_)
        refine w_aload_n (pc := 1095) (dc dl_law_18 17 rfl) rfl rfl ?_
        refine w_aload_n (pc := 1096) (dc dl_law_18 18 rfl) rfl rfl ?_
        refine w_iload_n (pc := 1097) (dc dl_law_18 19 rfl) rfl rfl ?_
        refine w_iconst (pc := 1098) (v := 1) (dc dl_law_18 20 rfl) ic_1 ?_
        refine w_iadd (pc := 1099) (dc dl_law_18 21 rfl) ?_
        refine w_xld (pc := 1100) (dc dl_law_18 22 rfl) (fun v168 => ?_)
        refine w_aload_n (pc := 1101) (dc dl_law_18 23 rfl) rfl rfl ?_
        refine w_iload_n (pc := 1102) (dc dl_law_18 24 rfl) rfl rfl ?_
        refine w_iconst (pc := 1103) (v := 2) (dc dl_law_18 25 rfl) ic_2 ?_
        refine w_iadd (pc := 1104) (dc dl_law_18 26 rfl) ?_
        refine w_xld (pc := 1105) (dc dl_law_18 27 rfl) (fun v169 => ?_)
        refine w_call (pc := 1106) (ρ := rMo) (o := 211) (As := [.int v168, .int v169]) (rest := [.int r167]) (subC_of subL_Mo) rfl (dc dl_law_18 28 rfl) mo_X11_truth mv_X11_truth lml_138 ⟨Nat.le_of_ble_eq_true rfl, Nat.le_of_ble_eq_true rfl⟩ hcs rfl rfl (Nat.le_of_ble_eq_true rfl) lk_All_211 rfl (cn_X11_truth l G hG (fun i => ad (rMo i)) v168 v169) rfl rfl (fun r170 => ?_)
        refine w_icmp_eq (pc := 1109) (tgt := 1397) (dc dl_law_18 29 rfl) rfl ?_ ?_
        · exact w_wk (hj4 ()) rfl
        · refine w_iconst (pc := 1112) (v := 0) (dc dl_law_18 30 rfl) ic_0 ?_
          exact w_fl
      · refine w_aload_n (pc := 1114) (dc dl_law_18 32 rfl) rfl rfl ?_
        refine w_aload_n (pc := 1115) (dc dl_law_18 33 rfl) rfl rfl ?_
        refine w_iload_n (pc := 1116) (dc dl_law_18 34 rfl) rfl rfl ?_
        refine w_iconst (pc := 1117) (v := 1) (dc dl_law_18 35 rfl) ic_1 ?_
        refine w_iadd (pc := 1118) (dc dl_law_18 36 rfl) ?_
        refine w_xld (pc := 1119) (dc dl_law_18 37 rfl) (fun v171 => ?_)
        refine w_aload_n (pc := 1120) (dc dl_law_18 38 rfl) rfl rfl ?_
        refine w_iload_n (pc := 1121) (dc dl_law_18 39 rfl) rfl rfl ?_
        refine w_iconst (pc := 1122) (v := 2) (dc dl_law_19 0 rfl) ic_2 ?_
        refine w_iadd (pc := 1123) (dc dl_law_19 1 rfl) ?_
        refine w_xld (pc := 1124) (dc dl_law_19 2 rfl) (fun v172 => ?_)
        refine w_aload_n (pc := 1125) (dc dl_law_19 3 rfl) rfl rfl ?_
        refine w_iload_n (pc := 1126) (dc dl_law_19 4 rfl) rfl rfl ?_
        refine w_iconst (pc := 1127) (v := 3) (dc dl_law_19 5 rfl) ic_3 ?_
        refine w_iadd (pc := 1128) (dc dl_law_19 6 rfl) ?_
        refine w_xld (pc := 1129) (dc dl_law_19 7 rfl) (fun v173 => ?_)
        refine w_call (pc := 1130) (ρ := rKL) (o := 0) (As := [.int v171, .int v172, .int v173]) (rest := []) (subC_KL G ad) rfl (dc dl_law_19 8 rfl) mo_X10_rounds mv_X10_rounds lml_139 ⟨Nat.le_of_ble_eq_true rfl, Nat.le_of_ble_eq_true rfl⟩ hcs rfl rfl (Nat.le_of_ble_eq_true rfl) lk_All_0 rfl (cn_X10_rounds l G hG (fun i => ad (rKL i)) v171 v172 v173) rfl rfl (fun r174 => ?_)
        refine w_aload_n (pc := 1133) (dc dl_law_19 9 rfl) rfl rfl ?_
        refine w_aload_n (pc := 1134) (dc dl_law_19 10 rfl) rfl rfl ?_
        refine w_iload_n (pc := 1135) (dc dl_law_19 11 rfl) rfl rfl ?_
        refine w_iconst (pc := 1136) (v := 1) (dc dl_law_19 12 rfl) ic_1 ?_
        refine w_iadd (pc := 1137) (dc dl_law_19 13 rfl) ?_
        refine w_xld (pc := 1138) (dc dl_law_19 14 rfl) (fun v175 => ?_)
        refine w_aload_n (pc := 1139) (dc dl_law_19 15 rfl) rfl rfl ?_
        refine w_iload_n (pc := 1140) (dc dl_law_19 16 rfl) rfl rfl ?_
        refine w_iconst (pc := 1141) (v := 2) (dc dl_law_19 17 rfl) ic_2 ?_
        refine w_iadd (pc := 1142) (dc dl_law_19 18 rfl) ?_
        refine w_xld (pc := 1143) (dc dl_law_19 19 rfl) (fun v176 => ?_)
        refine w_aload_n (pc := 1144) (dc dl_law_19 20 rfl) rfl rfl ?_
        refine w_iload_n (pc := 1145) (dc dl_law_19 21 rfl) rfl rfl ?_
        refine w_iconst (pc := 1146) (v := 3) (dc dl_law_19 22 rfl) ic_3 ?_
        refine w_iadd (pc := 1147) (dc dl_law_19 23 rfl) ?_
        refine w_xld (pc := 1148) (dc dl_law_19 24 rfl) (fun v177 => ?_)
        refine w_call (pc := 1149) (ρ := rMo) (o := 211) (As := [.int v175, .int v176, .int v177]) (rest := [.int r174]) (subC_of subL_Mo) rfl (dc dl_law_19 25 rfl) mo_X11_rounds mv_X11_rounds lml_142 ⟨Nat.le_of_ble_eq_true rfl, Nat.le_of_ble_eq_true rfl⟩ hcs rfl rfl (Nat.le_of_ble_eq_true rfl) lk_All_211 rfl (cn_X11_rounds l G hG (fun i => ad (rMo i)) v175 v176 v177) rfl rfl (fun r178 => ?_)
        refine w_icmp_eq (pc := 1152) (tgt := 1397) (dc dl_law_19 26 rfl) rfl ?_ ?_
        · exact w_wk (hj4 ()) rfl
        · refine w_iconst (pc := 1155) (v := 0) (dc dl_law_19 27 rfl) ic_0 ?_
          exact w_fl
      · refine w_aload_n (pc := 1157) (dc dl_law_19 29 rfl) rfl rfl ?_
        refine w_aload_n (pc := 1158) (dc dl_law_19 30 rfl) rfl rfl ?_
        refine w_iload_n (pc := 1159) (dc dl_law_19 31 rfl) rfl rfl ?_
        refine w_iconst (pc := 1160) (v := 1) (dc dl_law_19 32 rfl) ic_1 ?_
        refine w_iadd (pc := 1161) (dc dl_law_19 33 rfl) ?_
        refine w_xld (pc := 1162) (dc dl_law_19 34 rfl) (fun v179 => ?_)
        refine w_aload_n (pc := 1163) (dc dl_law_19 35 rfl) rfl rfl ?_
        refine w_iload_n (pc := 1164) (dc dl_law_19 36 rfl) rfl rfl ?_
        refine w_iconst (pc := 1165) (v := 2) (dc dl_law_19 37 rfl) ic_2 ?_
        refine w_iadd (pc := 1166) (dc dl_law_19 38 rfl) ?_
        refine w_xld (pc := 1167) (dc dl_law_19 39 rfl) (fun v180 => ?_)
        refine w_aload_n (pc := 1168) (dc dl_law_20 0 rfl) rfl rfl ?_
        refine w_iload_n (pc := 1169) (dc dl_law_20 1 rfl) rfl rfl ?_
        refine w_iconst (pc := 1170) (v := 3) (dc dl_law_20 2 rfl) ic_3 ?_
        refine w_iadd (pc := 1171) (dc dl_law_20 3 rfl) ?_
        refine w_xld (pc := 1172) (dc dl_law_20 4 rfl) (fun v181 => ?_)
        refine w_call (pc := 1173) (ρ := rKL) (o := 0) (As := [.int v179, .int v180, .int v181]) (rest := []) (subC_KL G ad) rfl (dc dl_law_20 5 rfl) mo_X10_meets mv_X10_meets lml_143 ⟨Nat.le_of_ble_eq_true rfl, Nat.le_of_ble_eq_true rfl⟩ hcs rfl rfl (Nat.le_of_ble_eq_true rfl) lk_All_0 rfl (cn_X10_meets l G hG (fun i => ad (rKL i)) v179 v180 v181) rfl rfl (fun r182 => ?_)
        refine w_aload_n (pc := 1176) (dc dl_law_20 6 rfl) rfl rfl ?_
        refine w_aload_n (pc := 1177) (dc dl_law_20 7 rfl) rfl rfl ?_
        refine w_iload_n (pc := 1178) (dc dl_law_20 8 rfl) rfl rfl ?_
        refine w_iconst (pc := 1179) (v := 1) (dc dl_law_20 9 rfl) ic_1 ?_
        refine w_iadd (pc := 1180) (dc dl_law_20 10 rfl) ?_
        refine w_xld (pc := 1181) (dc dl_law_20 11 rfl) (fun v183 => ?_)
        refine w_aload_n (pc := 1182) (dc dl_law_20 12 rfl) rfl rfl ?_
        refine w_iload_n (pc := 1183) (dc dl_law_20 13 rfl) rfl rfl ?_
        refine w_iconst (pc := 1184) (v := 2) (dc dl_law_20 14 rfl) ic_2 ?_
        refine w_iadd (pc := 1185) (dc dl_law_20 15 rfl) ?_
        refine w_xld (pc := 1186) (dc dl_law_20 16 rfl) (fun v184 => ?_)
        refine w_aload_n (pc := 1187) (dc dl_law_20 17 rfl) rfl rfl ?_
        refine w_iload_n (pc := 1188) (dc dl_law_20 18 rfl) rfl rfl ?_
        refine w_iconst (pc := 1189) (v := 3) (dc dl_law_20 19 rfl) ic_3 ?_
        refine w_iadd (pc := 1190) (dc dl_law_20 20 rfl) ?_
        refine w_xld (pc := 1191) (dc dl_law_20 21 rfl) (fun v185 => ?_)
        refine w_call (pc := 1192) (ρ := rMo) (o := 211) (As := [.int v183, .int v184, .int v185]) (rest := [.int r182]) (subC_of subL_Mo) rfl (dc dl_law_20 22 rfl) mo_X11_meets mv_X11_meets lml_146 ⟨Nat.le_of_ble_eq_true rfl, Nat.le_of_ble_eq_true rfl⟩ hcs rfl rfl (Nat.le_of_ble_eq_true rfl) lk_All_211 rfl (cn_X11_meets l G hG (fun i => ad (rMo i)) v183 v184 v185) rfl rfl (fun r186 => ?_)
        refine w_icmp_eq (pc := 1195) (tgt := 1397) (dc dl_law_20 23 rfl) rfl ?_ ?_
        · exact w_wk (hj4 ()) rfl
        · refine w_iconst (pc := 1198) (v := 0) (dc dl_law_20 24 rfl) ic_0 ?_
          exact w_fl
      · refine w_aload_n (pc := 1200) (dc dl_law_20 26 rfl) rfl rfl ?_
        refine w_aload_n (pc := 1201) (dc dl_law_20 27 rfl) rfl rfl ?_
        refine w_iload_n (pc := 1202) (dc dl_law_20 28 rfl) rfl rfl ?_
        refine w_iconst (pc := 1203) (v := 1) (dc dl_law_20 29 rfl) ic_1 ?_
        refine w_iadd (pc := 1204) (dc dl_law_20 30 rfl) ?_
        refine w_xld (pc := 1205) (dc dl_law_20 31 rfl) (fun v187 => ?_)
        refine w_aload_n (pc := 1206) (dc dl_law_20 32 rfl) rfl rfl ?_
        refine w_iload_n (pc := 1207) (dc dl_law_20 33 rfl) rfl rfl ?_
        refine w_iconst (pc := 1208) (v := 2) (dc dl_law_20 34 rfl) ic_2 ?_
        refine w_iadd (pc := 1209) (dc dl_law_20 35 rfl) ?_
        refine w_xld (pc := 1210) (dc dl_law_20 36 rfl) (fun v188 => ?_)
        refine w_call (pc := 1211) (ρ := rKL) (o := 0) (As := [.int v187, .int v188]) (rest := []) (subC_KL G ad) rfl (dc dl_law_20 37 rfl) mo_X10_rows mv_X10_rows lml_147 ⟨Nat.le_of_ble_eq_true rfl, Nat.le_of_ble_eq_true rfl⟩ hcs rfl rfl (Nat.le_of_ble_eq_true rfl) lk_All_0 rfl (cn_X10_rows l G hG (fun i => ad (rKL i)) v187 v188) rfl rfl (fun r189 => ?_)
        refine w_aload_n (pc := 1214) (dc dl_law_20 38 rfl) rfl rfl ?_
        refine w_aload_n (pc := 1215) (dc dl_law_20 39 rfl) rfl rfl ?_
        refine w_iload_n (pc := 1216) (dc dl_law_21 0 rfl) rfl rfl ?_
        refine w_iconst (pc := 1217) (v := 1) (dc dl_law_21 1 rfl) ic_1 ?_
        refine w_iadd (pc := 1218) (dc dl_law_21 2 rfl) ?_
        refine w_xld (pc := 1219) (dc dl_law_21 3 rfl) (fun v190 => ?_)
        refine w_aload_n (pc := 1220) (dc dl_law_21 4 rfl) rfl rfl ?_
        refine w_iload_n (pc := 1221) (dc dl_law_21 5 rfl) rfl rfl ?_
        refine w_iconst (pc := 1222) (v := 2) (dc dl_law_21 6 rfl) ic_2 ?_
        refine w_iadd (pc := 1223) (dc dl_law_21 7 rfl) ?_
        refine w_xld (pc := 1224) (dc dl_law_21 8 rfl) (fun v191 => ?_)
        refine w_call (pc := 1225) (ρ := rMo) (o := 211) (As := [.int v190, .int v191]) (rest := [.int r189]) (subC_of subL_Mo) rfl (dc dl_law_21 9 rfl) mo_X11_rows mv_X11_rows lml_150 ⟨Nat.le_of_ble_eq_true rfl, Nat.le_of_ble_eq_true rfl⟩ hcs rfl rfl (Nat.le_of_ble_eq_true rfl) lk_All_211 rfl (cn_X11_rows l G hG (fun i => ad (rMo i)) v190 v191) rfl rfl (fun r192 => ?_)
        refine w_icmp_eq (pc := 1228) (tgt := 1397) (dc dl_law_21 10 rfl) rfl ?_ ?_
        · exact w_wk (hj4 ()) rfl
        · refine w_iconst (pc := 1231) (v := 0) (dc dl_law_21 11 rfl) ic_0 ?_
          exact w_fl
      · refine w_aload_n (pc := 1233) (dc dl_law_21 13 rfl) rfl rfl ?_
        refine w_aload_n (pc := 1234) (dc dl_law_21 14 rfl) rfl rfl ?_
        refine w_iload_n (pc := 1235) (dc dl_law_21 15 rfl) rfl rfl ?_
        refine w_iconst (pc := 1236) (v := 1) (dc dl_law_21 16 rfl) ic_1 ?_
        refine w_iadd (pc := 1237) (dc dl_law_21 17 rfl) ?_
        refine w_xld (pc := 1238) (dc dl_law_21 18 rfl) (fun v193 => ?_)
        refine w_call (pc := 1239) (ρ := rKL) (o := 0) (As := [.int v193]) (rest := []) (subC_KL G ad) rfl (dc dl_law_21 19 rfl) mo_X10_digit mv_X10_digit lml_151 ⟨Nat.le_of_ble_eq_true rfl, Nat.le_of_ble_eq_true rfl⟩ hcs rfl rfl (Nat.le_of_ble_eq_true rfl) lk_All_0 rfl (cn_X10_digit l G hG (fun i => ad (rKL i)) v193) rfl rfl (fun r194 => ?_)
        refine w_aload_n (pc := 1242) (dc dl_law_21 20 rfl) rfl rfl ?_
        refine w_aload_n (pc := 1243) (dc dl_law_21 21 rfl) rfl rfl ?_
        refine w_iload_n (pc := 1244) (dc dl_law_21 22 rfl) rfl rfl ?_
        refine w_iconst (pc := 1245) (v := 1) (dc dl_law_21 23 rfl) ic_1 ?_
        refine w_iadd (pc := 1246) (dc dl_law_21 24 rfl) ?_
        refine w_xld (pc := 1247) (dc dl_law_21 25 rfl) (fun v195 => ?_)
        refine w_call (pc := 1248) (ρ := rMo) (o := 211) (As := [.int v195]) (rest := [.int r194]) (subC_of subL_Mo) rfl (dc dl_law_21 26 rfl) mo_X11_digit mv_X11_digit lml_154 ⟨Nat.le_of_ble_eq_true rfl, Nat.le_of_ble_eq_true rfl⟩ hcs rfl rfl (Nat.le_of_ble_eq_true rfl) lk_All_211 rfl (cn_X11_digit l G hG (fun i => ad (rMo i)) v195) rfl rfl (fun r196 => ?_)
        refine w_icmp_eq (pc := 1251) (tgt := 1397) (dc dl_law_21 27 rfl) rfl ?_ ?_
        · exact w_wk (hj4 ()) rfl
        · refine w_iconst (pc := 1254) (v := 0) (dc dl_law_21 28 rfl) ic_0 ?_
          exact w_fl
      · refine w_aload_n (pc := 1256) (dc dl_law_21 30 rfl) rfl rfl ?_
        refine w_aload_n (pc := 1257) (dc dl_law_21 31 rfl) rfl rfl ?_
        refine w_iload_n (pc := 1258) (dc dl_law_21 32 rfl) rfl rfl ?_
        refine w_iconst (pc := 1259) (v := 1) (dc dl_law_21 33 rfl) ic_1 ?_
        refine w_iadd (pc := 1260) (dc dl_law_21 34 rfl) ?_
        refine w_xld (pc := 1261) (dc dl_law_21 35 rfl) (fun v197 => ?_)
        refine w_aload_n (pc := 1262) (dc dl_law_21 36 rfl) rfl rfl ?_
        refine w_iload_n (pc := 1263) (dc dl_law_21 37 rfl) rfl rfl ?_
        refine w_iconst (pc := 1264) (v := 2) (dc dl_law_21 38 rfl) ic_2 ?_
        refine w_iadd (pc := 1265) (dc dl_law_21 39 rfl) ?_
        refine w_xld (pc := 1266) (dc dl_law_22 0 rfl) (fun v198 => ?_)
        refine w_call (pc := 1267) (ρ := rKL) (o := 0) (As := [.int v197, .int v198]) (rest := []) (subC_KL G ad) rfl (dc dl_law_22 1 rfl) mo_X10_spelt mv_X10_spelt lml_155 ⟨Nat.le_of_ble_eq_true rfl, Nat.le_of_ble_eq_true rfl⟩ hcs rfl rfl (Nat.le_of_ble_eq_true rfl) lk_All_0 rfl (cn_X10_spelt l G hG (fun i => ad (rKL i)) v197 v198) rfl rfl (fun r199 => ?_)
        refine w_aload_n (pc := 1270) (dc dl_law_22 2 rfl) rfl rfl ?_
        refine w_aload_n (pc := 1271) (dc dl_law_22 3 rfl) rfl rfl ?_
        refine w_iload_n (pc := 1272) (dc dl_law_22 4 rfl) rfl rfl ?_
        refine w_iconst (pc := 1273) (v := 1) (dc dl_law_22 5 rfl) ic_1 ?_
        refine w_iadd (pc := 1274) (dc dl_law_22 6 rfl) ?_
        refine w_xld (pc := 1275) (dc dl_law_22 7 rfl) (fun v200 => ?_)
        refine w_aload_n (pc := 1276) (dc dl_law_22 8 rfl) rfl rfl ?_
        refine w_iload_n (pc := 1277) (dc dl_law_22 9 rfl) rfl rfl ?_
        refine w_iconst (pc := 1278) (v := 2) (dc dl_law_22 10 rfl) ic_2 ?_
        refine w_iadd (pc := 1279) (dc dl_law_22 11 rfl) ?_
        refine w_xld (pc := 1280) (dc dl_law_22 12 rfl) (fun v201 => ?_)
        refine w_call (pc := 1281) (ρ := rMo) (o := 211) (As := [.int v200, .int v201]) (rest := [.int r199]) (subC_of subL_Mo) rfl (dc dl_law_22 13 rfl) mo_X11_spelt mv_X11_spelt lml_158 ⟨Nat.le_of_ble_eq_true rfl, Nat.le_of_ble_eq_true rfl⟩ hcs rfl rfl (Nat.le_of_ble_eq_true rfl) lk_All_211 rfl (cn_X11_spelt l G hG (fun i => ad (rMo i)) v200 v201) rfl rfl (fun r202 => ?_)
        refine w_icmp_eq (pc := 1284) (tgt := 1397) (dc dl_law_22 14 rfl) rfl ?_ ?_
        · exact w_wk (hj4 ()) rfl
        · refine w_iconst (pc := 1287) (v := 0) (dc dl_law_22 15 rfl) ic_0 ?_
          exact w_fl
      · refine w_aload_n (pc := 1289) (dc dl_law_22 17 rfl) rfl rfl ?_
        refine w_aload_n (pc := 1290) (dc dl_law_22 18 rfl) rfl rfl ?_
        refine w_iload_n (pc := 1291) (dc dl_law_22 19 rfl) rfl rfl ?_
        refine w_iconst (pc := 1292) (v := 1) (dc dl_law_22 20 rfl) ic_1 ?_
        refine w_iadd (pc := 1293) (dc dl_law_22 21 rfl) ?_
        refine w_xld (pc := 1294) (dc dl_law_22 22 rfl) (fun v203 => ?_)
        refine w_aload_n (pc := 1295) (dc dl_law_22 23 rfl) rfl rfl ?_
        refine w_iload_n (pc := 1296) (dc dl_law_22 24 rfl) rfl rfl ?_
        refine w_iconst (pc := 1297) (v := 2) (dc dl_law_22 25 rfl) ic_2 ?_
        refine w_iadd (pc := 1298) (dc dl_law_22 26 rfl) ?_
        refine w_xld (pc := 1299) (dc dl_law_22 27 rfl) (fun v204 => ?_)
        refine w_call (pc := 1300) (ρ := rKL) (o := 0) (As := [.int v203, .int v204]) (rest := []) (subC_KL G ad) rfl (dc dl_law_22 28 rfl) mo_X10_game mv_X10_game lml_159 ⟨Nat.le_of_ble_eq_true rfl, Nat.le_of_ble_eq_true rfl⟩ hcs rfl rfl (Nat.le_of_ble_eq_true rfl) lk_All_0 rfl (cn_X10_game l G hG (fun i => ad (rKL i)) v203 v204) rfl rfl (fun r205 => ?_)
        refine w_aload_n (pc := 1303) (dc dl_law_22 29 rfl) rfl rfl ?_
        refine w_aload_n (pc := 1304) (dc dl_law_22 30 rfl) rfl rfl ?_
        refine w_iload_n (pc := 1305) (dc dl_law_22 31 rfl) rfl rfl ?_
        refine w_iconst (pc := 1306) (v := 1) (dc dl_law_22 32 rfl) ic_1 ?_
        refine w_iadd (pc := 1307) (dc dl_law_22 33 rfl) ?_
        refine w_xld (pc := 1308) (dc dl_law_22 34 rfl) (fun v206 => ?_)
        refine w_aload_n (pc := 1309) (dc dl_law_22 35 rfl) rfl rfl ?_
        refine w_iload_n (pc := 1310) (dc dl_law_22 36 rfl) rfl rfl ?_
        refine w_iconst (pc := 1311) (v := 2) (dc dl_law_22 37 rfl) ic_2 ?_
        refine w_iadd (pc := 1312) (dc dl_law_22 38 rfl) ?_
        refine w_xld (pc := 1313) (dc dl_law_22 39 rfl) (fun v207 => ?_)
        refine w_call (pc := 1314) (ρ := rMo) (o := 211) (As := [.int v206, .int v207]) (rest := [.int r205]) (subC_of subL_Mo) rfl (dc dl_law_23 0 rfl) mo_X11_game mv_X11_game lml_162 ⟨Nat.le_of_ble_eq_true rfl, Nat.le_of_ble_eq_true rfl⟩ hcs rfl rfl (Nat.le_of_ble_eq_true rfl) lk_All_211 rfl (cn_X11_game l G hG (fun i => ad (rMo i)) v206 v207) rfl rfl (fun r208 => ?_)
        refine w_icmp_eq (pc := 1317) (tgt := 1397) (dc dl_law_23 1 rfl) rfl ?_ ?_
        · exact w_wk (hj4 ()) rfl
        · refine w_iconst (pc := 1320) (v := 0) (dc dl_law_23 2 rfl) ic_0 ?_
          exact w_fl
      · refine w_aload_n (pc := 1322) (dc dl_law_23 4 rfl) rfl rfl ?_
        refine w_call (pc := 1323) (ρ := rKL) (o := 0) (As := []) (rest := []) (subC_KL G ad) rfl (dc dl_law_23 5 rfl) mo_X10_undo mv_X10_undo lml_163 ⟨Nat.le_of_ble_eq_true rfl, Nat.le_of_ble_eq_true rfl⟩ hcs rfl rfl (Nat.le_of_ble_eq_true rfl) lk_All_0 rfl (cn_X10_undo l G hG (fun i => ad (rKL i))) rfl rfl (fun r209 => ?_)
        refine w_aload_n (pc := 1326) (dc dl_law_23 6 rfl) rfl rfl ?_
        refine w_call (pc := 1327) (ρ := rMo) (o := 211) (As := []) (rest := [.int r209]) (subC_of subL_Mo) rfl (dc dl_law_23 7 rfl) mo_X11_undo mv_X11_undo lml_167 ⟨Nat.le_of_ble_eq_true rfl, Nat.le_of_ble_eq_true rfl⟩ hcs rfl rfl (Nat.le_of_ble_eq_true rfl) lk_All_211 rfl (cn_X11_undo l G hG (fun i => ad (rMo i))) rfl rfl (fun r210 => ?_)
        refine w_icmp_eq (pc := 1330) (tgt := 1397) (dc dl_law_23 8 rfl) rfl ?_ ?_
        · exact w_wk (hj4 ()) rfl
        · refine w_iconst (pc := 1333) (v := 0) (dc dl_law_23 9 rfl) ic_0 ?_
          exact w_fl
      · refine w_aload_n (pc := 1335) (dc dl_law_23 11 rfl) rfl rfl ?_
        refine w_aload_n (pc := 1336) (dc dl_law_23 12 rfl) rfl rfl ?_
        refine w_iload_n (pc := 1337) (dc dl_law_23 13 rfl) rfl rfl ?_
        refine w_iconst (pc := 1338) (v := 1) (dc dl_law_23 14 rfl) ic_1 ?_
        refine w_iadd (pc := 1339) (dc dl_law_23 15 rfl) ?_
        refine w_xld (pc := 1340) (dc dl_law_23 16 rfl) (fun v211 => ?_)
        refine w_jn (pj := 1349) (fun a213 : Int32 => [some (.ref b), some (.ref (ad 0)), some (.ref (ad 211)), some (.int s2)]) (fun a213 : Int32 => [.int a213, .ref (ad 0)]) (fun a213 => ?_) (fun j212 hj212 => ?_)
        · refine w_call (pc := 1349) (ρ := rKL) (o := 0) (As := [.int a213]) (rest := []) (subC_KL G ad) rfl (dc dl_law_23 21 rfl) mo_X10_image mv_X10_image lml_168 ⟨Nat.le_of_ble_eq_true rfl, Nat.le_of_ble_eq_true rfl⟩ hcs rfl rfl (Nat.le_of_ble_eq_true rfl) lk_All_0 rfl (cn_X10_image l G hG (fun i => ad (rKL i)) a213) rfl rfl (fun r214 => ?_)
          refine w_aload_n (pc := 1352) (dc dl_law_23 22 rfl) rfl rfl ?_
          refine w_aload_n (pc := 1353) (dc dl_law_23 23 rfl) rfl rfl ?_
          refine w_iload_n (pc := 1354) (dc dl_law_23 24 rfl) rfl rfl ?_
          refine w_iconst (pc := 1355) (v := 1) (dc dl_law_23 25 rfl) ic_1 ?_
          refine w_iadd (pc := 1356) (dc dl_law_23 26 rfl) ?_
          refine w_xld (pc := 1357) (dc dl_law_23 27 rfl) (fun v215 => ?_)
          refine w_jn (pj := 1366) (fun a217 : Int32 => [some (.ref b), some (.ref (ad 0)), some (.ref (ad 211)), some (.int s2)]) (fun a217 : Int32 => [.int a217, .ref (ad 211), .int r214]) (fun a217 => ?_) (fun j216 hj216 => ?_)
          · refine w_call (pc := 1366) (ρ := rMo) (o := 211) (As := [.int a217]) (rest := [.int r214]) (subC_of subL_Mo) rfl (dc dl_law_23 32 rfl) mo_X11_image mv_X11_image lml_172 ⟨Nat.le_of_ble_eq_true rfl, Nat.le_of_ble_eq_true rfl⟩ hcs rfl rfl (Nat.le_of_ble_eq_true rfl) lk_All_211 rfl (cn_X11_image l G hG (fun i => ad (rMo i)) a217) rfl rfl (fun r218 => ?_)
            refine w_icmp_eq (pc := 1369) (tgt := 1397) (dc dl_law_23 33 rfl) rfl ?_ ?_
            · exact w_wk (hj4 ()) rfl
            · refine w_iconst (pc := 1372) (v := 0) (dc dl_law_23 34 rfl) ic_0 ?_
              exact w_fl
          · refine w_if_eq (pc := 1358) (tgt := 1365) (dc dl_law_23 28 rfl) rfl ?_ ?_
            · refine w_iconst (pc := 1365) (v := 0) (dc dl_law_23 31 rfl) ic_0 ?_
              exact w_wk (hj216 0) rfl
            · refine w_iconst (pc := 1361) (v := 1) (dc dl_law_23 29 rfl) ic_1 ?_
              refine w_goto (pc := 1362) (tgt := 1366) (dc dl_law_23 30 rfl) rfl ?_
              exact w_wk (hj216 1) rfl
        · refine w_if_eq (pc := 1341) (tgt := 1348) (dc dl_law_23 17 rfl) rfl ?_ ?_
          · refine w_iconst (pc := 1348) (v := 0) (dc dl_law_23 20 rfl) ic_0 ?_
            exact w_wk (hj212 0) rfl
          · refine w_iconst (pc := 1344) (v := 1) (dc dl_law_23 18 rfl) ic_1 ?_
            refine w_goto (pc := 1345) (tgt := 1349) (dc dl_law_23 19 rfl) rfl ?_
            exact w_wk (hj212 1) rfl
      · refine w_aload_n (pc := 1374) (dc dl_law_23 36 rfl) rfl rfl ?_
        refine w_aload_n (pc := 1375) (dc dl_law_23 37 rfl) rfl rfl ?_
        refine w_iload_n (pc := 1376) (dc dl_law_23 38 rfl) rfl rfl ?_
        refine w_iconst (pc := 1377) (v := 1) (dc dl_law_23 39 rfl) ic_1 ?_
        refine w_iadd (pc := 1378) (dc dl_law_24 0 rfl) ?_
        refine w_xld (pc := 1379) (dc dl_law_24 1 rfl) (fun v219 => ?_)
        refine w_call (pc := 1380) (ρ := rKL) (o := 0) (As := [.int v219]) (rest := []) (subC_KL G ad) rfl (dc dl_law_24 2 rfl) mo_X10_look mv_X10_look lml_173 ⟨Nat.le_of_ble_eq_true rfl, Nat.le_of_ble_eq_true rfl⟩ hcs rfl rfl (Nat.le_of_ble_eq_true rfl) lk_All_0 rfl (cn_X10_look l G hG (fun i => ad (rKL i)) v219) rfl rfl (fun r220 => ?_)
        refine w_aload_n (pc := 1383) (dc dl_law_24 3 rfl) rfl rfl ?_
        refine w_aload_n (pc := 1384) (dc dl_law_24 4 rfl) rfl rfl ?_
        refine w_iload_n (pc := 1385) (dc dl_law_24 5 rfl) rfl rfl ?_
        refine w_iconst (pc := 1386) (v := 1) (dc dl_law_24 6 rfl) ic_1 ?_
        refine w_iadd (pc := 1387) (dc dl_law_24 7 rfl) ?_
        refine w_xld (pc := 1388) (dc dl_law_24 8 rfl) (fun v221 => ?_)
        refine w_call (pc := 1389) (ρ := rMo) (o := 211) (As := [.int v221]) (rest := [.int r220]) (subC_of subL_Mo) rfl (dc dl_law_24 9 rfl) mo_X11_look mv_X11_look lml_176 ⟨Nat.le_of_ble_eq_true rfl, Nat.le_of_ble_eq_true rfl⟩ hcs rfl rfl (Nat.le_of_ble_eq_true rfl) lk_All_211 rfl (cn_X11_look l G hG (fun i => ad (rMo i)) v221) rfl rfl (fun r222 => ?_)
        refine w_icmp_eq (pc := 1392) (tgt := 1397) (dc dl_law_24 10 rfl) rfl ?_ ?_
        · exact w_wk (hj4 ()) rfl
        · refine w_iconst (pc := 1395) (v := 0) (dc dl_law_24 11 rfl) ic_0 ?_
          exact w_fl
