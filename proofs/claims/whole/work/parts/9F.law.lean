/-! PURE: the law -/
def OpP (f g : MM Int32) : Prop := ∀ A B : Bk, R A B → ∃ r A' B', f A = some (r, A') ∧ g B = some (r, B') ∧ R A' B'
def RS2 (S : Bk) : Prop := R (fun i => S (rKL i)) (fun i => S (rMo i))
theorem rKL_inj : ∀ i j, i < 211 → j < 211 → rKL i = rKL j → i = j := fun _ _ _ _ h => h
theorem rMo_inj : ∀ i j, i < 38 → j < 38 → rMo i = rMo j → i = j := fun i j _ _ h => by unfold rMo at h; omega
theorem law_op {S : Bk} (h : RS2 S) {f g : MM Int32} (hop : OpP f g) : ∃ S', RS2 S' ∧ ∀ j4 : Unit → MM Int32, (bd (lf rKL 211 f) fun r => bd (lf rMo 38 g) fun r' => if r = r' then j4 () else fl) S = j4 () S' := by
  obtain ⟨r, A', B', g1, g2, hR⟩ := hop _ _ h
  have e1 : (fun i => pu rKL 211 A' S (rMo i)) = fun i => S (rMo i) := by
    funext i
    exact pu_out (fun j hj => by unfold rKL rMo; omega) _ _
  refine ⟨pu rMo 38 B' (pu rKL 211 A' S), ?_, fun K => ?_⟩
  · refine R_XF hR ?_
    have eA : ∀ j, j < 211 → pu rMo 38 B' (pu rKL 211 A' S) (rKL j) = A' j := fun j hj => by
      rw [pu_out (fun i hi => by unfold rKL rMo; omega), pu_in rKL_inj hj]
    have eB : ∀ j, j < 38 → pu rMo 38 B' (pu rKL 211 A' S) (rMo j) = B' j := fun j hj => pu_in rMo_inj hj _ _
    exact ⟨fun j hj _ _ _ _ => eA j hj, fun j hj => congrArg List.length (eA j hj), fun j hj _ _ => eB j hj, fun j hj => congrArg List.length (eB j hj), fun k _ => congrArg (fun l : List Int32 => l.getD k 0) (eB 0 (by decide))⟩
  · rw [bd_lf _ g1, bd_lf _ (show g (fun i => pu rKL 211 A' S (rMo i)) = some (r, B') by rw [e1]; exact g2), if_pos rfl]
theorem blx {α : Type} {L : Nat} {xs : Nat → Int32} {a c : Nat} (hL : L ≤ 3072) (h : a + c < L) (K : Int32 → MM α) : bd (lx L xs (nI a + nI c)) K = K (xs (a + c)) := by
  have e : lx L xs (nI a + nI c) = pr (xs (a + c)) := by
    funext S
    unfold lx
    rw [nI_add, nI_clamp (by omega), if_neg (fun z => by
      rcases z with z | z
      · exact absurd z (nI_pos (by omega))
      · omega)]
    rfl
  rw [e]; rfl
theorem blx0 {α : Type} {L : Nat} {xs : Nat → Int32} {a : Nat} (hL : L ≤ 3072) (h : a < L) (K : Int32 → MM α) : bd (lx L xs (nI a)) K = K (xs a) := by
  have := blx (c := 0) (xs := xs) hL h K
  rw [nI_add, Nat.add_zero] at this
  exact this
def lb0 (L : Nat) (xs : Nat → Int32) (s2 : Int32) (j4 : Unit → MM Int32) : MM Int32 :=
bd (lx L xs (s2 + 1)) fun v7 =>
  bd (lf rKL 211 (gX10_state v7)) fun r8 =>
  bd (lx L xs (s2 + 1)) fun v9 =>
  bd (lf rMo 38 (gX11_state v9)) fun r10 =>
  (if r8 = r10 then
  j4 ()
  else
  fl)
def lb1 (L : Nat) (xs : Nat → Int32) (s2 : Int32) (j4 : Unit → MM Int32) : MM Int32 :=
bd (lx L xs (s2 + 1)) fun v11 =>
  bd (lf rKL 211 (gX10_person v11)) fun r12 =>
  bd (lx L xs (s2 + 1)) fun v13 =>
  bd (lf rMo 38 (gX11_person v13)) fun r14 =>
  (if r12 = r14 then
  j4 ()
  else
  fl)
def lb2 (L : Nat) (xs : Nat → Int32) (s2 : Int32) (j4 : Unit → MM Int32) : MM Int32 :=
bd (lx L xs (s2 + 1)) fun v15 =>
  bd (lf rKL 211 (gX10_cloth v15)) fun r16 =>
  bd (lx L xs (s2 + 1)) fun v17 =>
  bd (lf rMo 38 (gX11_cloth v17)) fun r18 =>
  (if r16 = r18 then
  j4 ()
  else
  fl)
def lb3 (L : Nat) (xs : Nat → Int32) (s2 : Int32) (j4 : Unit → MM Int32) : MM Int32 :=
bd (lx L xs (s2 + 1)) fun v19 =>
  bd (lx L xs (s2 + 2)) fun v20 =>
  bd (lf rKL 211 (gX10_thing v19 v20)) fun r21 =>
  bd (lx L xs (s2 + 1)) fun v22 =>
  bd (lx L xs (s2 + 2)) fun v23 =>
  bd (lf rMo 38 (gX11_thing v22 v23)) fun r24 =>
  (if r21 = r24 then
  j4 ()
  else
  fl)
def lb4 (L : Nat) (xs : Nat → Int32) (s2 : Int32) (j4 : Unit → MM Int32) : MM Int32 :=
bd (lx L xs (s2 + 1)) fun v25 =>
  bd (lx L xs (s2 + 2)) fun v26 =>
  bd (lx L xs (s2 + 3)) fun v27 =>
  bd (lf rKL 211 (gX10_set v25 v26 v27)) fun r28 =>
  bd (lx L xs (s2 + 1)) fun v29 =>
  bd (lx L xs (s2 + 2)) fun v30 =>
  bd (lx L xs (s2 + 3)) fun v31 =>
  bd (lf rMo 38 (gX11_set v29 v30 v31)) fun r32 =>
  (if r28 = r32 then
  j4 ()
  else
  fl)
def lb5 (L : Nat) (xs : Nat → Int32) (s2 : Int32) (j4 : Unit → MM Int32) : MM Int32 :=
bd (lx L xs (s2 + 1)) fun v33 =>
  bd (lx L xs (s2 + 2)) fun v34 =>
  bd (lx L xs (s2 + 3)) fun v35 =>
  bd (lf rKL 211 (gX10_act v33 v34 v35)) fun r36 =>
  bd (lx L xs (s2 + 1)) fun v37 =>
  bd (lx L xs (s2 + 2)) fun v38 =>
  bd (lx L xs (s2 + 3)) fun v39 =>
  bd (lf rMo 38 (gX11_act v37 v38 v39)) fun r40 =>
  (if r36 = r40 then
  j4 ()
  else
  fl)
def lb6 (L : Nat) (xs : Nat → Int32) (s2 : Int32) (j4 : Unit → MM Int32) : MM Int32 :=
bd (lx L xs (s2 + 1)) fun v41 =>
  bd (lf rKL 211 (gX10_days v41)) fun r42 =>
  bd (lx L xs (s2 + 1)) fun v43 =>
  bd (lf rMo 38 (gX11_days v43)) fun r44 =>
  (if r42 = r44 then
  j4 ()
  else
  fl)
def lb7 (L : Nat) (xs : Nat → Int32) (s2 : Int32) (j4 : Unit → MM Int32) : MM Int32 :=
bd (lx L xs (s2 + 1)) fun v45 =>
  bd (lx L xs (s2 + 2)) fun v46 =>
  bd (lx L xs (s2 + 3)) fun v47 =>
  bd (lx L xs (s2 + 4)) fun v48 =>
  bd (lx L xs (s2 + 5)) fun v49 =>
  bd (lf rKL 211 (gX10_feed v45 v46 v47 v48 v49)) fun r50 =>
  bd (lx L xs (s2 + 1)) fun v51 =>
  bd (lx L xs (s2 + 2)) fun v52 =>
  bd (lx L xs (s2 + 3)) fun v53 =>
  bd (lx L xs (s2 + 4)) fun v54 =>
  bd (lx L xs (s2 + 5)) fun v55 =>
  bd (lf rMo 38 (gX11_feed v51 v52 v53 v54 v55)) fun r56 =>
  (if r50 = r56 then
  j4 ()
  else
  fl)
def lb8 (L : Nat) (xs : Nat → Int32) (s2 : Int32) (j4 : Unit → MM Int32) : MM Int32 :=
bd (lx L xs (s2 + 1)) fun v57 =>
  bd (lf rKL 211 (gX10_end v57)) fun r58 =>
  bd (lx L xs (s2 + 1)) fun v59 =>
  bd (lf rMo 38 (gX11_end v59)) fun r60 =>
  (if r58 = r60 then
  j4 ()
  else
  fl)
def lb9 (L : Nat) (xs : Nat → Int32) (s2 : Int32) (j4 : Unit → MM Int32) : MM Int32 :=
bd (lx L xs (s2 + 1)) fun v61 =>
  bd (lf rKL 211 (gX10_text v61)) fun r62 =>
  bd (lx L xs (s2 + 1)) fun v63 =>
  bd (lf rMo 38 (gX11_text v63)) fun r64 =>
  (if r62 = r64 then
  j4 ()
  else
  fl)
def lb10 (L : Nat) (xs : Nat → Int32) (s2 : Int32) (j4 : Unit → MM Int32) : MM Int32 :=
bd (lx L xs (s2 + 1)) fun v65 =>
  bd (lf rKL 211 (gX10_fault v65)) fun r66 =>
  bd (lx L xs (s2 + 1)) fun v67 =>
  bd (lf rMo 38 (gX11_fault v67)) fun r68 =>
  (if r66 = r68 then
  j4 ()
  else
  fl)
def lb11 (L : Nat) (xs : Nat → Int32) (s2 : Int32) (j4 : Unit → MM Int32) : MM Int32 :=
bd (lx L xs (s2 + 1)) fun v69 =>
  bd (lx L xs (s2 + 2)) fun v70 =>
  bd (lf rKL 211 (gX10_of v69 v70)) fun r71 =>
  bd (lx L xs (s2 + 1)) fun v72 =>
  bd (lx L xs (s2 + 2)) fun v73 =>
  bd (lf rMo 38 (gX11_of v72 v73)) fun r74 =>
  (if r71 = r74 then
  j4 ()
  else
  fl)
def lb12 (L : Nat) (xs : Nat → Int32) (s2 : Int32) (j4 : Unit → MM Int32) : MM Int32 :=
bd (lx L xs (s2 + 1)) fun v75 =>
  bd (lx L xs (s2 + 2)) fun v76 =>
  bd (lf rKL 211 (gX10_clothOf v75 v76)) fun r77 =>
  bd (lx L xs (s2 + 1)) fun v78 =>
  bd (lx L xs (s2 + 2)) fun v79 =>
  bd (lf rMo 38 (gX11_clothOf v78 v79)) fun r80 =>
  (if r77 = r80 then
  j4 ()
  else
  fl)
def lb13 (L : Nat) (xs : Nat → Int32) (s2 : Int32) (j4 : Unit → MM Int32) : MM Int32 :=
bd (lx L xs (s2 + 1)) fun v81 =>
  bd (lx L xs (s2 + 2)) fun v82 =>
  bd (lf rKL 211 (gX10_thingOf v81 v82)) fun r83 =>
  bd (lx L xs (s2 + 1)) fun v84 =>
  bd (lx L xs (s2 + 2)) fun v85 =>
  bd (lf rMo 38 (gX11_thingOf v84 v85)) fun r86 =>
  (if r83 = r86 then
  j4 ()
  else
  fl)
def lb14 (L : Nat) (xs : Nat → Int32) (s2 : Int32) (j4 : Unit → MM Int32) : MM Int32 :=
bd (lx L xs (s2 + 1)) fun v87 =>
  bd (lx L xs (s2 + 2)) fun v88 =>
  bd (lf rKL 211 (gX10_book v87 v88)) fun r89 =>
  bd (lx L xs (s2 + 1)) fun v90 =>
  bd (lx L xs (s2 + 2)) fun v91 =>
  bd (lf rMo 38 (gX11_book v90 v91)) fun r92 =>
  (if r89 = r92 then
  j4 ()
  else
  fl)
def lb15 (L : Nat) (xs : Nat → Int32) (s2 : Int32) (j4 : Unit → MM Int32) : MM Int32 :=
bd (lx L xs (s2 + 1)) fun v93 =>
  bd (lx L xs (s2 + 2)) fun v94 =>
  bd (lf rKL 211 (gX10_goes v93 v94)) fun r95 =>
  bd (lx L xs (s2 + 1)) fun v96 =>
  bd (lx L xs (s2 + 2)) fun v97 =>
  bd (lf rMo 38 (gX11_goes v96 v97)) fun r98 =>
  (if r95 = r98 then
  j4 ()
  else
  fl)
def lb16 (L : Nat) (xs : Nat → Int32) (s2 : Int32) (j4 : Unit → MM Int32) : MM Int32 :=
bd (lx L xs (s2 + 1)) fun v99 =>
  bd (lf rKL 211 (gX10_fate v99)) fun r100 =>
  bd (lx L xs (s2 + 1)) fun v101 =>
  bd (lf rMo 38 (gX11_fate v101)) fun r102 =>
  (if r100 = r102 then
  j4 ()
  else
  fl)
def lb17 (L : Nat) (xs : Nat → Int32) (s2 : Int32) (j4 : Unit → MM Int32) : MM Int32 :=
bd (lx L xs (s2 + 1)) fun v103 =>
  bd (lf rKL 211 (gX10_crossing v103)) fun r104 =>
  bd (lx L xs (s2 + 1)) fun v105 =>
  bd (lf rMo 38 (gX11_crossing v105)) fun r106 =>
  (if r104 = r106 then
  j4 ()
  else
  fl)
def lb18 (L : Nat) (xs : Nat → Int32) (s2 : Int32) (j4 : Unit → MM Int32) : MM Int32 :=
bd (lx L xs (s2 + 1)) fun v107 =>
  bd (lf rKL 211 (gX10_braid v107)) fun r108 =>
  bd (lx L xs (s2 + 1)) fun v109 =>
  bd (lf rMo 38 (gX11_braid v109)) fun r110 =>
  (if r108 = r110 then
  j4 ()
  else
  fl)
def lb19 (L : Nat) (xs : Nat → Int32) (s2 : Int32) (j4 : Unit → MM Int32) : MM Int32 :=
bd (lx L xs (s2 + 1)) fun v111 =>
  bd (lx L xs (s2 + 2)) fun v112 =>
  bd (lf rKL 211 (gX10_turnings v111 v112)) fun r113 =>
  bd (lx L xs (s2 + 1)) fun v114 =>
  bd (lx L xs (s2 + 2)) fun v115 =>
  bd (lf rMo 38 (gX11_turnings v114 v115)) fun r116 =>
  (if r113 = r116 then
  j4 ()
  else
  fl)
def lb20 (L : Nat) (xs : Nat → Int32) (s2 : Int32) (j4 : Unit → MM Int32) : MM Int32 :=
bd (lx L xs (s2 + 1)) fun v117 =>
  bd (lx L xs (s2 + 2)) fun v118 =>
  bd (lx L xs (s2 + 3)) fun v119 =>
  bd (lf rKL 211 (gX10_strip v117 v118 v119)) fun r120 =>
  bd (lx L xs (s2 + 1)) fun v121 =>
  bd (lx L xs (s2 + 2)) fun v122 =>
  bd (lx L xs (s2 + 3)) fun v123 =>
  bd (lf rMo 38 (gX11_strip v121 v122 v123)) fun r124 =>
  (if r120 = r124 then
  j4 ()
  else
  fl)
def lb21 (L : Nat) (xs : Nat → Int32) (s2 : Int32) (j4 : Unit → MM Int32) : MM Int32 :=
bd (lx L xs (s2 + 1)) fun v125 =>
  bd (lf rKL 211 (gX10_answer v125)) fun r126 =>
  bd (lx L xs (s2 + 1)) fun v127 =>
  bd (lf rMo 38 (gX11_answer v127)) fun r128 =>
  (if r126 = r128 then
  j4 ()
  else
  fl)
def lb22 (L : Nat) (xs : Nat → Int32) (s2 : Int32) (j4 : Unit → MM Int32) : MM Int32 :=
bd (lx L xs (s2 + 1)) fun v129 =>
  bd (lf rKL 211 (gX10_boxes v129)) fun r130 =>
  bd (lx L xs (s2 + 1)) fun v131 =>
  bd (lf rMo 38 (gX11_boxes v131)) fun r132 =>
  (if r130 = r132 then
  j4 ()
  else
  fl)
def lb23 (L : Nat) (xs : Nat → Int32) (s2 : Int32) (j4 : Unit → MM Int32) : MM Int32 :=
bd (lx L xs (s2 + 1)) fun v133 =>
  bd (lx L xs (s2 + 2)) fun v134 =>
  bd (lf rKL 211 (gX10_piles v133 v134)) fun r135 =>
  bd (lx L xs (s2 + 1)) fun v136 =>
  bd (lx L xs (s2 + 2)) fun v137 =>
  bd (lf rMo 38 (gX11_piles v136 v137)) fun r138 =>
  (if r135 = r138 then
  j4 ()
  else
  fl)
def lb24 (L : Nat) (xs : Nat → Int32) (s2 : Int32) (j4 : Unit → MM Int32) : MM Int32 :=
bd (lx L xs (s2 + 1)) fun v139 =>
  bd (lf rKL 211 (gX10_dealt v139)) fun r140 =>
  bd (lx L xs (s2 + 1)) fun v141 =>
  bd (lf rMo 38 (gX11_dealt v141)) fun r142 =>
  (if r140 = r142 then
  j4 ()
  else
  fl)
def lb25 (L : Nat) (xs : Nat → Int32) (s2 : Int32) (j4 : Unit → MM Int32) : MM Int32 :=
bd (lx L xs (s2 + 1)) fun v143 =>
  bd (lf rKL 211 (gX10_key v143)) fun r144 =>
  bd (lx L xs (s2 + 1)) fun v145 =>
  bd (lf rMo 38 (gX11_key v145)) fun r146 =>
  (if r144 = r146 then
  j4 ()
  else
  fl)
def lb26 (L : Nat) (xs : Nat → Int32) (s2 : Int32) (j4 : Unit → MM Int32) : MM Int32 :=
bd (lx L xs (s2 + 1)) fun v147 =>
  bd (lx L xs (s2 + 2)) fun v148 =>
  bd (lx L xs (s2 + 3)) fun v149 =>
  bd (lf rKL 211 (gX10_table v147 v148 v149)) fun r150 =>
  bd (lx L xs (s2 + 1)) fun v151 =>
  bd (lx L xs (s2 + 2)) fun v152 =>
  bd (lx L xs (s2 + 3)) fun v153 =>
  bd (lf rMo 38 (gX11_table v151 v152 v153)) fun r154 =>
  (if r150 = r154 then
  j4 ()
  else
  fl)
def lb27 (L : Nat) (xs : Nat → Int32) (s2 : Int32) (j4 : Unit → MM Int32) : MM Int32 :=
bd (lx L xs (s2 + 1)) fun v155 =>
  bd (lf rKL 211 (gX10_ask v155)) fun r156 =>
  bd (lx L xs (s2 + 1)) fun v157 =>
  bd (lf rMo 38 (gX11_ask v157)) fun r158 =>
  (if r156 = r158 then
  j4 ()
  else
  fl)
def lb28 (L : Nat) (xs : Nat → Int32) (s2 : Int32) (j4 : Unit → MM Int32) : MM Int32 :=
bd (lx L xs (s2 + 1)) fun v159 =>
  bd (lx L xs (s2 + 2)) fun v160 =>
  bd (lf rKL 211 (gX10_pages v159 v160)) fun r161 =>
  bd (lx L xs (s2 + 1)) fun v162 =>
  bd (lx L xs (s2 + 2)) fun v163 =>
  bd (lf rMo 38 (gX11_pages v162 v163)) fun r164 =>
  (if r161 = r164 then
  j4 ()
  else
  fl)
def lb29 (L : Nat) (xs : Nat → Int32) (s2 : Int32) (j4 : Unit → MM Int32) : MM Int32 :=
bd (lx L xs (s2 + 1)) fun v165 =>
  bd (lx L xs (s2 + 2)) fun v166 =>
  bd (lf rKL 211 (gX10_truth v165 v166)) fun r167 =>
  bd (lx L xs (s2 + 1)) fun v168 =>
  bd (lx L xs (s2 + 2)) fun v169 =>
  bd (lf rMo 38 (gX11_truth v168 v169)) fun r170 =>
  (if r167 = r170 then
  j4 ()
  else
  fl)
def lb30 (L : Nat) (xs : Nat → Int32) (s2 : Int32) (j4 : Unit → MM Int32) : MM Int32 :=
bd (lx L xs (s2 + 1)) fun v171 =>
  bd (lx L xs (s2 + 2)) fun v172 =>
  bd (lx L xs (s2 + 3)) fun v173 =>
  bd (lf rKL 211 (gX10_rounds v171 v172 v173)) fun r174 =>
  bd (lx L xs (s2 + 1)) fun v175 =>
  bd (lx L xs (s2 + 2)) fun v176 =>
  bd (lx L xs (s2 + 3)) fun v177 =>
  bd (lf rMo 38 (gX11_rounds v175 v176 v177)) fun r178 =>
  (if r174 = r178 then
  j4 ()
  else
  fl)
def lb31 (L : Nat) (xs : Nat → Int32) (s2 : Int32) (j4 : Unit → MM Int32) : MM Int32 :=
bd (lx L xs (s2 + 1)) fun v179 =>
  bd (lx L xs (s2 + 2)) fun v180 =>
  bd (lx L xs (s2 + 3)) fun v181 =>
  bd (lf rKL 211 (gX10_meets v179 v180 v181)) fun r182 =>
  bd (lx L xs (s2 + 1)) fun v183 =>
  bd (lx L xs (s2 + 2)) fun v184 =>
  bd (lx L xs (s2 + 3)) fun v185 =>
  bd (lf rMo 38 (gX11_meets v183 v184 v185)) fun r186 =>
  (if r182 = r186 then
  j4 ()
  else
  fl)
def lb32 (L : Nat) (xs : Nat → Int32) (s2 : Int32) (j4 : Unit → MM Int32) : MM Int32 :=
bd (lx L xs (s2 + 1)) fun v187 =>
  bd (lx L xs (s2 + 2)) fun v188 =>
  bd (lf rKL 211 (gX10_rows v187 v188)) fun r189 =>
  bd (lx L xs (s2 + 1)) fun v190 =>
  bd (lx L xs (s2 + 2)) fun v191 =>
  bd (lf rMo 38 (gX11_rows v190 v191)) fun r192 =>
  (if r189 = r192 then
  j4 ()
  else
  fl)
def lb33 (L : Nat) (xs : Nat → Int32) (s2 : Int32) (j4 : Unit → MM Int32) : MM Int32 :=
bd (lx L xs (s2 + 1)) fun v193 =>
  bd (lf rKL 211 (gX10_digit v193)) fun r194 =>
  bd (lx L xs (s2 + 1)) fun v195 =>
  bd (lf rMo 38 (gX11_digit v195)) fun r196 =>
  (if r194 = r196 then
  j4 ()
  else
  fl)
def lb34 (L : Nat) (xs : Nat → Int32) (s2 : Int32) (j4 : Unit → MM Int32) : MM Int32 :=
bd (lx L xs (s2 + 1)) fun v197 =>
  bd (lx L xs (s2 + 2)) fun v198 =>
  bd (lf rKL 211 (gX10_spelt v197 v198)) fun r199 =>
  bd (lx L xs (s2 + 1)) fun v200 =>
  bd (lx L xs (s2 + 2)) fun v201 =>
  bd (lf rMo 38 (gX11_spelt v200 v201)) fun r202 =>
  (if r199 = r202 then
  j4 ()
  else
  fl)
def lb35 (L : Nat) (xs : Nat → Int32) (s2 : Int32) (j4 : Unit → MM Int32) : MM Int32 :=
bd (lx L xs (s2 + 1)) fun v203 =>
  bd (lx L xs (s2 + 2)) fun v204 =>
  bd (lf rKL 211 (gX10_game v203 v204)) fun r205 =>
  bd (lx L xs (s2 + 1)) fun v206 =>
  bd (lx L xs (s2 + 2)) fun v207 =>
  bd (lf rMo 38 (gX11_game v206 v207)) fun r208 =>
  (if r205 = r208 then
  j4 ()
  else
  fl)
def lb36 (L : Nat) (xs : Nat → Int32) (s2 : Int32) (j4 : Unit → MM Int32) : MM Int32 :=
bd (lf rKL 211 gX10_undo) fun r209 =>
  bd (lf rMo 38 gX11_undo) fun r210 =>
  (if r209 = r210 then
  j4 ()
  else
  fl)
def lb37 (L : Nat) (xs : Nat → Int32) (s2 : Int32) (j4 : Unit → MM Int32) : MM Int32 :=
bd (lx L xs (s2 + 1)) fun v211 =>
  jn (fun (a213 : Int32) =>
  bd (lf rKL 211 (gX10_image a213)) fun r214 =>
  bd (lx L xs (s2 + 1)) fun v215 =>
  jn (fun (a217 : Int32) =>
  bd (lf rMo 38 (gX11_image a217)) fun r218 =>
  (if r214 = r218 then
  j4 ()
  else
  fl)) (fun j216 =>
  (if v215 = 0 then
  j216 0
  else
  j216 1))) (fun j212 =>
  (if v211 = 0 then
  j212 0
  else
  j212 1))
def lb38 (L : Nat) (xs : Nat → Int32) (s2 : Int32) (j4 : Unit → MM Int32) : MM Int32 :=
bd (lx L xs (s2 + 1)) fun v219 =>
  bd (lf rKL 211 (gX10_look v219)) fun r220 =>
  bd (lx L xs (s2 + 1)) fun v221 =>
  bd (lf rMo 38 (gX11_look v221)) fun r222 =>
  (if r220 = r222 then
  j4 ()
  else
  fl)
set_option maxHeartbeats 400000 in
theorem lb0_go {L a : Nat} {xs : Nat → Int32} {S : Bk} (hL : L ≤ 3072) (ha : a + 6 ≤ L) (h : RS2 S) : ∃ S', RS2 S' ∧ ∀ j4 : Unit → MM Int32, lb0 L xs (nI a) j4 S = j4 () S' := by
  unfold lb0
  have b1 := fun (K : Int32 → MM Int32) => blx (xs := xs) (c := 1) hL (show a + 1 < L by omega) K
  simp only [e_lit2, Nat.reduceAdd, b1]
  exact law_op h (fun A B h => op_state h _)
set_option maxHeartbeats 400000 in
theorem lb1_go {L a : Nat} {xs : Nat → Int32} {S : Bk} (hL : L ≤ 3072) (ha : a + 6 ≤ L) (h : RS2 S) : ∃ S', RS2 S' ∧ ∀ j4 : Unit → MM Int32, lb1 L xs (nI a) j4 S = j4 () S' := by
  unfold lb1
  have b1 := fun (K : Int32 → MM Int32) => blx (xs := xs) (c := 1) hL (show a + 1 < L by omega) K
  simp only [e_lit2, Nat.reduceAdd, b1]
  exact law_op h (fun A B h => op_person h _)
set_option maxHeartbeats 400000 in
theorem lb2_go {L a : Nat} {xs : Nat → Int32} {S : Bk} (hL : L ≤ 3072) (ha : a + 6 ≤ L) (h : RS2 S) : ∃ S', RS2 S' ∧ ∀ j4 : Unit → MM Int32, lb2 L xs (nI a) j4 S = j4 () S' := by
  unfold lb2
  have b1 := fun (K : Int32 → MM Int32) => blx (xs := xs) (c := 1) hL (show a + 1 < L by omega) K
  simp only [e_lit2, Nat.reduceAdd, b1]
  exact law_op h (fun A B h => op_cloth h _)
set_option maxHeartbeats 400000 in
theorem lb3_go {L a : Nat} {xs : Nat → Int32} {S : Bk} (hL : L ≤ 3072) (ha : a + 6 ≤ L) (h : RS2 S) : ∃ S', RS2 S' ∧ ∀ j4 : Unit → MM Int32, lb3 L xs (nI a) j4 S = j4 () S' := by
  unfold lb3
  have b1 := fun (K : Int32 → MM Int32) => blx (xs := xs) (c := 1) hL (show a + 1 < L by omega) K
  have b2 := fun (K : Int32 → MM Int32) => blx (xs := xs) (c := 2) hL (show a + 2 < L by omega) K
  simp only [e_lit2, Nat.reduceAdd, b1, b2]
  exact law_op h (fun A B h => op_thing h _ _)
set_option maxHeartbeats 400000 in
theorem lb4_go {L a : Nat} {xs : Nat → Int32} {S : Bk} (hL : L ≤ 3072) (ha : a + 6 ≤ L) (h : RS2 S) : ∃ S', RS2 S' ∧ ∀ j4 : Unit → MM Int32, lb4 L xs (nI a) j4 S = j4 () S' := by
  unfold lb4
  have b1 := fun (K : Int32 → MM Int32) => blx (xs := xs) (c := 1) hL (show a + 1 < L by omega) K
  have b2 := fun (K : Int32 → MM Int32) => blx (xs := xs) (c := 2) hL (show a + 2 < L by omega) K
  have b3 := fun (K : Int32 → MM Int32) => blx (xs := xs) (c := 3) hL (show a + 3 < L by omega) K
  simp only [e_lit2, Nat.reduceAdd, b1, b2, b3]
  exact law_op h (fun A B h => op_set h _ _ _)
set_option maxHeartbeats 400000 in
theorem lb5_go {L a : Nat} {xs : Nat → Int32} {S : Bk} (hL : L ≤ 3072) (ha : a + 6 ≤ L) (h : RS2 S) : ∃ S', RS2 S' ∧ ∀ j4 : Unit → MM Int32, lb5 L xs (nI a) j4 S = j4 () S' := by
  unfold lb5
  have b1 := fun (K : Int32 → MM Int32) => blx (xs := xs) (c := 1) hL (show a + 1 < L by omega) K
  have b2 := fun (K : Int32 → MM Int32) => blx (xs := xs) (c := 2) hL (show a + 2 < L by omega) K
  have b3 := fun (K : Int32 → MM Int32) => blx (xs := xs) (c := 3) hL (show a + 3 < L by omega) K
  simp only [e_lit2, Nat.reduceAdd, b1, b2, b3]
  exact law_op h (fun A B h => op_act h _ _ _)
set_option maxHeartbeats 400000 in
theorem lb6_go {L a : Nat} {xs : Nat → Int32} {S : Bk} (hL : L ≤ 3072) (ha : a + 6 ≤ L) (h : RS2 S) : ∃ S', RS2 S' ∧ ∀ j4 : Unit → MM Int32, lb6 L xs (nI a) j4 S = j4 () S' := by
  unfold lb6
  have b1 := fun (K : Int32 → MM Int32) => blx (xs := xs) (c := 1) hL (show a + 1 < L by omega) K
  simp only [e_lit2, Nat.reduceAdd, b1]
  exact law_op h (fun A B h => op_days h _)
set_option maxHeartbeats 400000 in
theorem lb7_go {L a : Nat} {xs : Nat → Int32} {S : Bk} (hL : L ≤ 3072) (ha : a + 6 ≤ L) (h : RS2 S) : ∃ S', RS2 S' ∧ ∀ j4 : Unit → MM Int32, lb7 L xs (nI a) j4 S = j4 () S' := by
  unfold lb7
  have b1 := fun (K : Int32 → MM Int32) => blx (xs := xs) (c := 1) hL (show a + 1 < L by omega) K
  have b2 := fun (K : Int32 → MM Int32) => blx (xs := xs) (c := 2) hL (show a + 2 < L by omega) K
  have b3 := fun (K : Int32 → MM Int32) => blx (xs := xs) (c := 3) hL (show a + 3 < L by omega) K
  have b4 := fun (K : Int32 → MM Int32) => blx (xs := xs) (c := 4) hL (show a + 4 < L by omega) K
  have b5 := fun (K : Int32 → MM Int32) => blx (xs := xs) (c := 5) hL (show a + 5 < L by omega) K
  simp only [e_lit2, Nat.reduceAdd, b1, b2, b3, b4, b5]
  exact law_op h (fun A B h => op_feed h _ _ _ _ _)
set_option maxHeartbeats 400000 in
theorem lb8_go {L a : Nat} {xs : Nat → Int32} {S : Bk} (hL : L ≤ 3072) (ha : a + 6 ≤ L) (h : RS2 S) : ∃ S', RS2 S' ∧ ∀ j4 : Unit → MM Int32, lb8 L xs (nI a) j4 S = j4 () S' := by
  unfold lb8
  have b1 := fun (K : Int32 → MM Int32) => blx (xs := xs) (c := 1) hL (show a + 1 < L by omega) K
  simp only [e_lit2, Nat.reduceAdd, b1]
  exact law_op h (fun A B h => op_end h _)
set_option maxHeartbeats 400000 in
theorem lb9_go {L a : Nat} {xs : Nat → Int32} {S : Bk} (hL : L ≤ 3072) (ha : a + 6 ≤ L) (h : RS2 S) (h_text : ∀ x0 : Int32, OpP (gX10_text x0) (gX11_text x0)) : ∃ S', RS2 S' ∧ ∀ j4 : Unit → MM Int32, lb9 L xs (nI a) j4 S = j4 () S' := by
  unfold lb9
  have b1 := fun (K : Int32 → MM Int32) => blx (xs := xs) (c := 1) hL (show a + 1 < L by omega) K
  simp only [e_lit2, Nat.reduceAdd, b1]
  exact law_op h (h_text _)
set_option maxHeartbeats 400000 in
theorem lb10_go {L a : Nat} {xs : Nat → Int32} {S : Bk} (hL : L ≤ 3072) (ha : a + 6 ≤ L) (h : RS2 S) : ∃ S', RS2 S' ∧ ∀ j4 : Unit → MM Int32, lb10 L xs (nI a) j4 S = j4 () S' := by
  unfold lb10
  have b1 := fun (K : Int32 → MM Int32) => blx (xs := xs) (c := 1) hL (show a + 1 < L by omega) K
  simp only [e_lit2, Nat.reduceAdd, b1]
  exact law_op h (fun A B h => op_fault h _)
set_option maxHeartbeats 400000 in
theorem lb11_go {L a : Nat} {xs : Nat → Int32} {S : Bk} (hL : L ≤ 3072) (ha : a + 6 ≤ L) (h : RS2 S) : ∃ S', RS2 S' ∧ ∀ j4 : Unit → MM Int32, lb11 L xs (nI a) j4 S = j4 () S' := by
  unfold lb11
  have b1 := fun (K : Int32 → MM Int32) => blx (xs := xs) (c := 1) hL (show a + 1 < L by omega) K
  have b2 := fun (K : Int32 → MM Int32) => blx (xs := xs) (c := 2) hL (show a + 2 < L by omega) K
  simp only [e_lit2, Nat.reduceAdd, b1, b2]
  exact law_op h (fun A B h => op_of h _ _)
set_option maxHeartbeats 400000 in
theorem lb12_go {L a : Nat} {xs : Nat → Int32} {S : Bk} (hL : L ≤ 3072) (ha : a + 6 ≤ L) (h : RS2 S) : ∃ S', RS2 S' ∧ ∀ j4 : Unit → MM Int32, lb12 L xs (nI a) j4 S = j4 () S' := by
  unfold lb12
  have b1 := fun (K : Int32 → MM Int32) => blx (xs := xs) (c := 1) hL (show a + 1 < L by omega) K
  have b2 := fun (K : Int32 → MM Int32) => blx (xs := xs) (c := 2) hL (show a + 2 < L by omega) K
  simp only [e_lit2, Nat.reduceAdd, b1, b2]
  exact law_op h (fun A B h => op_clothOf h _ _)
set_option maxHeartbeats 400000 in
theorem lb13_go {L a : Nat} {xs : Nat → Int32} {S : Bk} (hL : L ≤ 3072) (ha : a + 6 ≤ L) (h : RS2 S) : ∃ S', RS2 S' ∧ ∀ j4 : Unit → MM Int32, lb13 L xs (nI a) j4 S = j4 () S' := by
  unfold lb13
  have b1 := fun (K : Int32 → MM Int32) => blx (xs := xs) (c := 1) hL (show a + 1 < L by omega) K
  have b2 := fun (K : Int32 → MM Int32) => blx (xs := xs) (c := 2) hL (show a + 2 < L by omega) K
  simp only [e_lit2, Nat.reduceAdd, b1, b2]
  exact law_op h (fun A B h => op_thingOf h _ _)
set_option maxHeartbeats 400000 in
theorem lb14_go {L a : Nat} {xs : Nat → Int32} {S : Bk} (hL : L ≤ 3072) (ha : a + 6 ≤ L) (h : RS2 S) : ∃ S', RS2 S' ∧ ∀ j4 : Unit → MM Int32, lb14 L xs (nI a) j4 S = j4 () S' := by
  unfold lb14
  have b1 := fun (K : Int32 → MM Int32) => blx (xs := xs) (c := 1) hL (show a + 1 < L by omega) K
  have b2 := fun (K : Int32 → MM Int32) => blx (xs := xs) (c := 2) hL (show a + 2 < L by omega) K
  simp only [e_lit2, Nat.reduceAdd, b1, b2]
  exact law_op h (fun A B h => op_book h _ _)
set_option maxHeartbeats 400000 in
theorem lb15_go {L a : Nat} {xs : Nat → Int32} {S : Bk} (hL : L ≤ 3072) (ha : a + 6 ≤ L) (h : RS2 S) : ∃ S', RS2 S' ∧ ∀ j4 : Unit → MM Int32, lb15 L xs (nI a) j4 S = j4 () S' := by
  unfold lb15
  have b1 := fun (K : Int32 → MM Int32) => blx (xs := xs) (c := 1) hL (show a + 1 < L by omega) K
  have b2 := fun (K : Int32 → MM Int32) => blx (xs := xs) (c := 2) hL (show a + 2 < L by omega) K
  simp only [e_lit2, Nat.reduceAdd, b1, b2]
  exact law_op h (fun A B h => op_goes h _ _)
set_option maxHeartbeats 400000 in
theorem lb16_go {L a : Nat} {xs : Nat → Int32} {S : Bk} (hL : L ≤ 3072) (ha : a + 6 ≤ L) (h : RS2 S) : ∃ S', RS2 S' ∧ ∀ j4 : Unit → MM Int32, lb16 L xs (nI a) j4 S = j4 () S' := by
  unfold lb16
  have b1 := fun (K : Int32 → MM Int32) => blx (xs := xs) (c := 1) hL (show a + 1 < L by omega) K
  simp only [e_lit2, Nat.reduceAdd, b1]
  exact law_op h (fun A B h => op_fate h _)
set_option maxHeartbeats 400000 in
theorem lb17_go {L a : Nat} {xs : Nat → Int32} {S : Bk} (hL : L ≤ 3072) (ha : a + 6 ≤ L) (h : RS2 S) : ∃ S', RS2 S' ∧ ∀ j4 : Unit → MM Int32, lb17 L xs (nI a) j4 S = j4 () S' := by
  unfold lb17
  have b1 := fun (K : Int32 → MM Int32) => blx (xs := xs) (c := 1) hL (show a + 1 < L by omega) K
  simp only [e_lit2, Nat.reduceAdd, b1]
  exact law_op h (fun A B h => op_crossing h _)
set_option maxHeartbeats 400000 in
theorem lb18_go {L a : Nat} {xs : Nat → Int32} {S : Bk} (hL : L ≤ 3072) (ha : a + 6 ≤ L) (h : RS2 S) : ∃ S', RS2 S' ∧ ∀ j4 : Unit → MM Int32, lb18 L xs (nI a) j4 S = j4 () S' := by
  unfold lb18
  have b1 := fun (K : Int32 → MM Int32) => blx (xs := xs) (c := 1) hL (show a + 1 < L by omega) K
  simp only [e_lit2, Nat.reduceAdd, b1]
  exact law_op h (fun A B h => op_braid h _)
set_option maxHeartbeats 400000 in
theorem lb19_go {L a : Nat} {xs : Nat → Int32} {S : Bk} (hL : L ≤ 3072) (ha : a + 6 ≤ L) (h : RS2 S) (h_turnings : ∀ x0 x1 : Int32, OpP (gX10_turnings x0 x1) (gX11_turnings x0 x1)) : ∃ S', RS2 S' ∧ ∀ j4 : Unit → MM Int32, lb19 L xs (nI a) j4 S = j4 () S' := by
  unfold lb19
  have b1 := fun (K : Int32 → MM Int32) => blx (xs := xs) (c := 1) hL (show a + 1 < L by omega) K
  have b2 := fun (K : Int32 → MM Int32) => blx (xs := xs) (c := 2) hL (show a + 2 < L by omega) K
  simp only [e_lit2, Nat.reduceAdd, b1, b2]
  exact law_op h (h_turnings _ _)
set_option maxHeartbeats 400000 in
theorem lb20_go {L a : Nat} {xs : Nat → Int32} {S : Bk} (hL : L ≤ 3072) (ha : a + 6 ≤ L) (h : RS2 S) : ∃ S', RS2 S' ∧ ∀ j4 : Unit → MM Int32, lb20 L xs (nI a) j4 S = j4 () S' := by
  unfold lb20
  have b1 := fun (K : Int32 → MM Int32) => blx (xs := xs) (c := 1) hL (show a + 1 < L by omega) K
  have b2 := fun (K : Int32 → MM Int32) => blx (xs := xs) (c := 2) hL (show a + 2 < L by omega) K
  have b3 := fun (K : Int32 → MM Int32) => blx (xs := xs) (c := 3) hL (show a + 3 < L by omega) K
  simp only [e_lit2, Nat.reduceAdd, b1, b2, b3]
  exact law_op h (fun A B h => op_strip h _ _ _)
set_option maxHeartbeats 400000 in
theorem lb21_go {L a : Nat} {xs : Nat → Int32} {S : Bk} (hL : L ≤ 3072) (ha : a + 6 ≤ L) (h : RS2 S) : ∃ S', RS2 S' ∧ ∀ j4 : Unit → MM Int32, lb21 L xs (nI a) j4 S = j4 () S' := by
  unfold lb21
  have b1 := fun (K : Int32 → MM Int32) => blx (xs := xs) (c := 1) hL (show a + 1 < L by omega) K
  simp only [e_lit2, Nat.reduceAdd, b1]
  exact law_op h (fun A B h => op_answer h _)
set_option maxHeartbeats 400000 in
theorem lb22_go {L a : Nat} {xs : Nat → Int32} {S : Bk} (hL : L ≤ 3072) (ha : a + 6 ≤ L) (h : RS2 S) : ∃ S', RS2 S' ∧ ∀ j4 : Unit → MM Int32, lb22 L xs (nI a) j4 S = j4 () S' := by
  unfold lb22
  have b1 := fun (K : Int32 → MM Int32) => blx (xs := xs) (c := 1) hL (show a + 1 < L by omega) K
  simp only [e_lit2, Nat.reduceAdd, b1]
  exact law_op h (fun A B h => op_boxes h _)
set_option maxHeartbeats 400000 in
theorem lb23_go {L a : Nat} {xs : Nat → Int32} {S : Bk} (hL : L ≤ 3072) (ha : a + 6 ≤ L) (h : RS2 S) : ∃ S', RS2 S' ∧ ∀ j4 : Unit → MM Int32, lb23 L xs (nI a) j4 S = j4 () S' := by
  unfold lb23
  have b1 := fun (K : Int32 → MM Int32) => blx (xs := xs) (c := 1) hL (show a + 1 < L by omega) K
  have b2 := fun (K : Int32 → MM Int32) => blx (xs := xs) (c := 2) hL (show a + 2 < L by omega) K
  simp only [e_lit2, Nat.reduceAdd, b1, b2]
  exact law_op h (fun A B h => op_piles' h _ _)
set_option maxHeartbeats 400000 in
theorem lb24_go {L a : Nat} {xs : Nat → Int32} {S : Bk} (hL : L ≤ 3072) (ha : a + 6 ≤ L) (h : RS2 S) : ∃ S', RS2 S' ∧ ∀ j4 : Unit → MM Int32, lb24 L xs (nI a) j4 S = j4 () S' := by
  unfold lb24
  have b1 := fun (K : Int32 → MM Int32) => blx (xs := xs) (c := 1) hL (show a + 1 < L by omega) K
  simp only [e_lit2, Nat.reduceAdd, b1]
  exact law_op h (fun A B h => op_dealt' h _)
set_option maxHeartbeats 400000 in
theorem lb25_go {L a : Nat} {xs : Nat → Int32} {S : Bk} (hL : L ≤ 3072) (ha : a + 6 ≤ L) (h : RS2 S) : ∃ S', RS2 S' ∧ ∀ j4 : Unit → MM Int32, lb25 L xs (nI a) j4 S = j4 () S' := by
  unfold lb25
  have b1 := fun (K : Int32 → MM Int32) => blx (xs := xs) (c := 1) hL (show a + 1 < L by omega) K
  simp only [e_lit2, Nat.reduceAdd, b1]
  exact law_op h (fun A B h => op_key h _)
set_option maxHeartbeats 400000 in
theorem lb26_go {L a : Nat} {xs : Nat → Int32} {S : Bk} (hL : L ≤ 3072) (ha : a + 6 ≤ L) (h : RS2 S) (h_table : ∀ x0 x1 x2 : Int32, OpP (gX10_table x0 x1 x2) (gX11_table x0 x1 x2)) : ∃ S', RS2 S' ∧ ∀ j4 : Unit → MM Int32, lb26 L xs (nI a) j4 S = j4 () S' := by
  unfold lb26
  have b1 := fun (K : Int32 → MM Int32) => blx (xs := xs) (c := 1) hL (show a + 1 < L by omega) K
  have b2 := fun (K : Int32 → MM Int32) => blx (xs := xs) (c := 2) hL (show a + 2 < L by omega) K
  have b3 := fun (K : Int32 → MM Int32) => blx (xs := xs) (c := 3) hL (show a + 3 < L by omega) K
  simp only [e_lit2, Nat.reduceAdd, b1, b2, b3]
  exact law_op h (h_table _ _ _)
set_option maxHeartbeats 400000 in
theorem lb27_go {L a : Nat} {xs : Nat → Int32} {S : Bk} (hL : L ≤ 3072) (ha : a + 6 ≤ L) (h : RS2 S) : ∃ S', RS2 S' ∧ ∀ j4 : Unit → MM Int32, lb27 L xs (nI a) j4 S = j4 () S' := by
  unfold lb27
  have b1 := fun (K : Int32 → MM Int32) => blx (xs := xs) (c := 1) hL (show a + 1 < L by omega) K
  simp only [e_lit2, Nat.reduceAdd, b1]
  exact law_op h (fun A B h => op_ask h _)
set_option maxHeartbeats 400000 in
theorem lb28_go {L a : Nat} {xs : Nat → Int32} {S : Bk} (hL : L ≤ 3072) (ha : a + 6 ≤ L) (h : RS2 S) (h_pages : ∀ x0 x1 : Int32, OpP (gX10_pages x0 x1) (gX11_pages x0 x1)) : ∃ S', RS2 S' ∧ ∀ j4 : Unit → MM Int32, lb28 L xs (nI a) j4 S = j4 () S' := by
  unfold lb28
  have b1 := fun (K : Int32 → MM Int32) => blx (xs := xs) (c := 1) hL (show a + 1 < L by omega) K
  have b2 := fun (K : Int32 → MM Int32) => blx (xs := xs) (c := 2) hL (show a + 2 < L by omega) K
  simp only [e_lit2, Nat.reduceAdd, b1, b2]
  exact law_op h (h_pages _ _)
set_option maxHeartbeats 400000 in
theorem lb29_go {L a : Nat} {xs : Nat → Int32} {S : Bk} (hL : L ≤ 3072) (ha : a + 6 ≤ L) (h : RS2 S) (h_truth : ∀ x0 x1 : Int32, OpP (gX10_truth x0 x1) (gX11_truth x0 x1)) : ∃ S', RS2 S' ∧ ∀ j4 : Unit → MM Int32, lb29 L xs (nI a) j4 S = j4 () S' := by
  unfold lb29
  have b1 := fun (K : Int32 → MM Int32) => blx (xs := xs) (c := 1) hL (show a + 1 < L by omega) K
  have b2 := fun (K : Int32 → MM Int32) => blx (xs := xs) (c := 2) hL (show a + 2 < L by omega) K
  simp only [e_lit2, Nat.reduceAdd, b1, b2]
  exact law_op h (h_truth _ _)
set_option maxHeartbeats 400000 in
theorem lb30_go {L a : Nat} {xs : Nat → Int32} {S : Bk} (hL : L ≤ 3072) (ha : a + 6 ≤ L) (h : RS2 S) : ∃ S', RS2 S' ∧ ∀ j4 : Unit → MM Int32, lb30 L xs (nI a) j4 S = j4 () S' := by
  unfold lb30
  have b1 := fun (K : Int32 → MM Int32) => blx (xs := xs) (c := 1) hL (show a + 1 < L by omega) K
  have b2 := fun (K : Int32 → MM Int32) => blx (xs := xs) (c := 2) hL (show a + 2 < L by omega) K
  have b3 := fun (K : Int32 → MM Int32) => blx (xs := xs) (c := 3) hL (show a + 3 < L by omega) K
  simp only [e_lit2, Nat.reduceAdd, b1, b2, b3]
  exact law_op h (fun A B h => op_rounds' h _ _ _)
set_option maxHeartbeats 400000 in
theorem lb31_go {L a : Nat} {xs : Nat → Int32} {S : Bk} (hL : L ≤ 3072) (ha : a + 6 ≤ L) (h : RS2 S) : ∃ S', RS2 S' ∧ ∀ j4 : Unit → MM Int32, lb31 L xs (nI a) j4 S = j4 () S' := by
  unfold lb31
  have b1 := fun (K : Int32 → MM Int32) => blx (xs := xs) (c := 1) hL (show a + 1 < L by omega) K
  have b2 := fun (K : Int32 → MM Int32) => blx (xs := xs) (c := 2) hL (show a + 2 < L by omega) K
  have b3 := fun (K : Int32 → MM Int32) => blx (xs := xs) (c := 3) hL (show a + 3 < L by omega) K
  simp only [e_lit2, Nat.reduceAdd, b1, b2, b3]
  exact law_op h (fun A B h => op_meets h _ _ _)
set_option maxHeartbeats 400000 in
theorem lb32_go {L a : Nat} {xs : Nat → Int32} {S : Bk} (hL : L ≤ 3072) (ha : a + 6 ≤ L) (h : RS2 S) : ∃ S', RS2 S' ∧ ∀ j4 : Unit → MM Int32, lb32 L xs (nI a) j4 S = j4 () S' := by
  unfold lb32
  have b1 := fun (K : Int32 → MM Int32) => blx (xs := xs) (c := 1) hL (show a + 1 < L by omega) K
  have b2 := fun (K : Int32 → MM Int32) => blx (xs := xs) (c := 2) hL (show a + 2 < L by omega) K
  simp only [e_lit2, Nat.reduceAdd, b1, b2]
  exact law_op h (fun A B h => op_rows h _ _)
set_option maxHeartbeats 400000 in
theorem lb33_go {L a : Nat} {xs : Nat → Int32} {S : Bk} (hL : L ≤ 3072) (ha : a + 6 ≤ L) (h : RS2 S) : ∃ S', RS2 S' ∧ ∀ j4 : Unit → MM Int32, lb33 L xs (nI a) j4 S = j4 () S' := by
  unfold lb33
  have b1 := fun (K : Int32 → MM Int32) => blx (xs := xs) (c := 1) hL (show a + 1 < L by omega) K
  simp only [e_lit2, Nat.reduceAdd, b1]
  exact law_op h (fun A B h => op_digit h _)
set_option maxHeartbeats 400000 in
theorem lb34_go {L a : Nat} {xs : Nat → Int32} {S : Bk} (hL : L ≤ 3072) (ha : a + 6 ≤ L) (h : RS2 S) : ∃ S', RS2 S' ∧ ∀ j4 : Unit → MM Int32, lb34 L xs (nI a) j4 S = j4 () S' := by
  unfold lb34
  have b1 := fun (K : Int32 → MM Int32) => blx (xs := xs) (c := 1) hL (show a + 1 < L by omega) K
  have b2 := fun (K : Int32 → MM Int32) => blx (xs := xs) (c := 2) hL (show a + 2 < L by omega) K
  simp only [e_lit2, Nat.reduceAdd, b1, b2]
  exact law_op h (fun A B h => op_spelt h _ _)
set_option maxHeartbeats 400000 in
theorem lb35_go {L a : Nat} {xs : Nat → Int32} {S : Bk} (hL : L ≤ 3072) (ha : a + 6 ≤ L) (h : RS2 S) (h_game : ∀ x0 x1 : Int32, OpP (gX10_game x0 x1) (gX11_game x0 x1)) : ∃ S', RS2 S' ∧ ∀ j4 : Unit → MM Int32, lb35 L xs (nI a) j4 S = j4 () S' := by
  unfold lb35
  have b1 := fun (K : Int32 → MM Int32) => blx (xs := xs) (c := 1) hL (show a + 1 < L by omega) K
  have b2 := fun (K : Int32 → MM Int32) => blx (xs := xs) (c := 2) hL (show a + 2 < L by omega) K
  simp only [e_lit2, Nat.reduceAdd, b1, b2]
  exact law_op h (h_game _ _)
set_option maxHeartbeats 400000 in
theorem lb36_go {L a : Nat} {xs : Nat → Int32} {S : Bk} (hL : L ≤ 3072) (ha : a + 6 ≤ L) (h : RS2 S) : ∃ S', RS2 S' ∧ ∀ j4 : Unit → MM Int32, lb36 L xs (nI a) j4 S = j4 () S' := by
  unfold lb36
  exact law_op h (fun A B h => op_undo h )
set_option maxHeartbeats 400000 in
theorem lb37_go {L a : Nat} {xs : Nat → Int32} {S : Bk} (hL : L ≤ 3072) (ha : a + 6 ≤ L) (h : RS2 S) (h_image : ∀ x0 : Int32, OpP (gX10_image x0) (gX11_image x0)) : ∃ S', RS2 S' ∧ ∀ j4 : Unit → MM Int32, lb37 L xs (nI a) j4 S = j4 () S' := by
  unfold lb37
  have b1 := fun (K : Int32 → MM Int32) => blx (xs := xs) (c := 1) hL (show a + 1 < L by omega) K
  have e1 : (1 : Int32) = nI 1 := rfl
  rw [e1]
  simp only [b1, jn_eq]
  by_cases hv : xs (a + 1) = 0
  · simp only [if_pos hv]
    exact law_op h (h_image _)
  · simp only [if_neg hv]
    exact law_op h (h_image _)
set_option maxHeartbeats 400000 in
theorem lb38_go {L a : Nat} {xs : Nat → Int32} {S : Bk} (hL : L ≤ 3072) (ha : a + 6 ≤ L) (h : RS2 S) : ∃ S', RS2 S' ∧ ∀ j4 : Unit → MM Int32, lb38 L xs (nI a) j4 S = j4 () S' := by
  unfold lb38
  have b1 := fun (K : Int32 → MM Int32) => blx (xs := xs) (c := 1) hL (show a + 1 < L by omega) K
  simp only [e_lit2, Nat.reduceAdd, b1]
  exact law_op h (fun A B h => op_look h _)
