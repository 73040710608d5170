def mm_law_j1132 (N : Nat) (L : Nat) (xs : Nat → Int32) (r1 : Option Nat) (r4 : Option Nat) (x3_1132 : Int32) (h_1132 : ss_Hp) : Option ((Int32 × ss_Hp) ⊕ ss_Hp) :=
  (some (x3_1132 + (6 : Int32))).bind fun v7 =>
  some (.inl (v7, h_1132))
def mm_law_b18 (N : Nat) (L : Nat) (xs : Nat → Int32) (r1 : Option Nat) (r4 : Option Nat) (st : Int32 × ss_Hp) : Option ((Int32 × ss_Hp) ⊕ ss_Hp) :=
  match st with
  | (x3_18, h_18) =>
    if ((Int32.ofNat L) - (6 : Int32)) < x3_18 then
      some (.inr h_18)
    else
      (ss_xs L xs x3_18).bind fun v9 =>
      (some (v9 &&& (31 : Int32))).bind fun v10 =>
      if v10 = (0 : Int32) then
        (ss_xs L xs (x3_18 + (1 : Int32))).bind fun v12 =>
        (ss_xs L xs (x3_18 + (2 : Int32))).bind fun v13 =>
        (ss_xs L xs (x3_18 + (3 : Int32))).bind fun v14 =>
        (ss_xs L xs (x3_18 + (4 : Int32))).bind fun v15 =>
        (ss_xs L xs (x3_18 + (5 : Int32))).bind fun v16 =>
        ss_b2 (mm_S_feed N r1 v12 v13 v14 v15 v16 h_18) fun v17 h18 =>
        (ss_xs L xs (x3_18 + (1 : Int32))).bind fun v19 =>
        (ss_xs L xs (x3_18 + (2 : Int32))).bind fun v20 =>
        (ss_xs L xs (x3_18 + (3 : Int32))).bind fun v21 =>
        (ss_xs L xs (x3_18 + (4 : Int32))).bind fun v22 =>
        (ss_xs L xs (x3_18 + (5 : Int32))).bind fun v23 =>
        ss_b2 (mm_M_feed N r4 v19 v20 v21 v22 v23 h18) fun v24 h25 =>
        if v17 = v24 then
          mm_law_j1132 N L xs r1 r4 x3_18 h25
        else
          none
      else
      if v10 = (1 : Int32) then
        (ss_xs L xs (x3_18 + (1 : Int32))).bind fun v28 =>
        ss_b2 (mm_S_end N r1 v28 h_18) fun v29 h30 =>
        (ss_xs L xs (x3_18 + (1 : Int32))).bind fun v31 =>
        ss_b2 (mm_M_end N r4 v31 h30) fun v32 h33 =>
        if v29 = v32 then
          mm_law_j1132 N L xs r1 r4 x3_18 h33
        else
          none
      else
      if v10 = (2 : Int32) then
        ss_b2 (mm_S_valley N r1 h_18) fun v36 h37 =>
        ss_b2 (mm_M_valley N r4 h37) fun v38 h39 =>
        if v36 = v38 then
          mm_law_j1132 N L xs r1 r4 x3_18 h39
        else
          none
      else
      if v10 = (3 : Int32) then
        ss_b2 (mm_S_rule N r1 h_18) fun v42 h43 =>
        ss_b2 (mm_M_rule N r4 h43) fun v44 h45 =>
        if v42 = v44 then
          mm_law_j1132 N L xs r1 r4 x3_18 h45
        else
          none
      else
      if v10 = (4 : Int32) then
        (ss_xs L xs (x3_18 + (1 : Int32))).bind fun v48 =>
        ss_b2 (mm_S_force N r1 v48 h_18) fun v49 h50 =>
        (ss_xs L xs (x3_18 + (1 : Int32))).bind fun v51 =>
        ss_b2 (mm_M_force N r4 v51 h50) fun v52 h53 =>
        if v49 = v52 then
          mm_law_j1132 N L xs r1 r4 x3_18 h53
        else
          none
      else
      if v10 = (5 : Int32) then
        (ss_xs L xs (x3_18 + (1 : Int32))).bind fun v56 =>
        (ss_xs L xs (x3_18 + (2 : Int32))).bind fun v57 =>
        (mm_S_step N r1 v56 v57 h_18).bind fun v58 =>
        (ss_xs L xs (x3_18 + (1 : Int32))).bind fun v59 =>
        (ss_xs L xs (x3_18 + (2 : Int32))).bind fun v60 =>
        (mm_M_step N r4 v59 v60 h_18).bind fun v61 =>
        if v58 = v61 then
          mm_law_j1132 N L xs r1 r4 x3_18 h_18
        else
          none
      else
      if v10 = (6 : Int32) then
        (ss_xs L xs (x3_18 + (1 : Int32))).bind fun v64 =>
        (ss_xs L xs (x3_18 + (2 : Int32))).bind fun v65 =>
        (mm_S_house N r1 v64 v65 h_18).bind fun v66 =>
        (ss_xs L xs (x3_18 + (1 : Int32))).bind fun v67 =>
        (ss_xs L xs (x3_18 + (2 : Int32))).bind fun v68 =>
        (mm_M_house N r4 v67 v68 h_18).bind fun v69 =>
        if v66 = v69 then
          mm_law_j1132 N L xs r1 r4 x3_18 h_18
        else
          none
      else
      if v10 = (7 : Int32) then
        ss_b2 (mm_S_day N r1 h_18) fun v72 h73 =>
        ss_b2 (mm_M_day N r4 h73) fun v74 h75 =>
        if v72 = v74 then
          mm_law_j1132 N L xs r1 r4 x3_18 h75
        else
          none
      else
      if v10 = (8 : Int32) then
        (ss_xs L xs (x3_18 + (1 : Int32))).bind fun v78 =>
        (ss_xs L xs (x3_18 + (2 : Int32))).bind fun v79 =>
        ss_b2 (mm_S_sweep N r1 v78 v79 h_18) fun v80 h81 =>
        (ss_xs L xs (x3_18 + (1 : Int32))).bind fun v82 =>
        (ss_xs L xs (x3_18 + (2 : Int32))).bind fun v83 =>
        ss_b2 (mm_M_sweep N r4 v82 v83 h81) fun v84 h85 =>
        if v80 = v84 then
          mm_law_j1132 N L xs r1 r4 x3_18 h85
        else
          none
      else
      if v10 = (9 : Int32) then
        (ss_xs L xs (x3_18 + (1 : Int32))).bind fun v88 =>
        (ss_xs L xs (x3_18 + (2 : Int32))).bind fun v89 =>
        ss_b2 (mm_S_toss N r1 v88 v89 h_18) fun v90 h91 =>
        (ss_xs L xs (x3_18 + (1 : Int32))).bind fun v92 =>
        (ss_xs L xs (x3_18 + (2 : Int32))).bind fun v93 =>
        ss_b2 (mm_M_toss N r4 v92 v93 h91) fun v94 h95 =>
        if v90 = v94 then
          mm_law_j1132 N L xs r1 r4 x3_18 h95
        else
          none
      else
      if v10 = (10 : Int32) then
        (ss_xs L xs (x3_18 + (1 : Int32))).bind fun v98 =>
        ss_b2 (mm_S_pull N r1 v98 h_18) fun v99 h100 =>
        (ss_xs L xs (x3_18 + (1 : Int32))).bind fun v101 =>
        ss_b2 (mm_M_pull N r4 v101 h100) fun v102 h103 =>
        if v99 = v102 then
          mm_law_j1132 N L xs r1 r4 x3_18 h103
        else
          none
      else
      if v10 = (11 : Int32) then
        ss_b2 (mm_S_thaw N r1 h_18) fun v106 h107 =>
        ss_b2 (mm_M_thaw N r4 h107) fun v108 h109 =>
        if v106 = v108 then
          mm_law_j1132 N L xs r1 r4 x3_18 h109
        else
          none
      else
      if v10 = (12 : Int32) then
        ss_b2 (mm_S_undo N r1 h_18) fun v112 h113 =>
        ss_b2 (mm_M_undo N r4 h113) fun v114 h115 =>
        if v112 = v114 then
          mm_law_j1132 N L xs r1 r4 x3_18 h115
        else
          none
      else
      if v10 = (13 : Int32) then
        (ss_xs L xs (x3_18 + (1 : Int32))).bind fun v118 =>
        (ss_xs L xs (x3_18 + (2 : Int32))).bind fun v119 =>
        (ss_xs L xs (x3_18 + (3 : Int32))).bind fun v120 =>
        ss_b2 (mm_S_ahead N r1 v118 v119 v120 h_18) fun v121 h122 =>
        (ss_xs L xs (x3_18 + (1 : Int32))).bind fun v123 =>
        (ss_xs L xs (x3_18 + (2 : Int32))).bind fun v124 =>
        (ss_xs L xs (x3_18 + (3 : Int32))).bind fun v125 =>
        ss_b2 (mm_M_ahead N r4 v123 v124 v125 h122) fun v126 h127 =>
        if v121 = v126 then
          mm_law_j1132 N L xs r1 r4 x3_18 h127
        else
          none
      else
      if v10 = (14 : Int32) then
        (ss_xs L xs (x3_18 + (1 : Int32))).bind fun v130 =>
        ss_b2 (mm_S_stays N r1 v130 h_18) fun v131 h132 =>
        (ss_xs L xs (x3_18 + (1 : Int32))).bind fun v133 =>
        ss_b2 (mm_M_stays N r4 v133 h132) fun v134 h135 =>
        if v131 = v134 then
          mm_law_j1132 N L xs r1 r4 x3_18 h135
        else
          none
      else
      if v10 = (15 : Int32) then
        (ss_xs L xs (x3_18 + (1 : Int32))).bind fun v138 =>
        ss_b2 (mm_S_closes N r1 v138 h_18) fun v139 h140 =>
        (ss_xs L xs (x3_18 + (1 : Int32))).bind fun v141 =>
        ss_b2 (mm_M_closes1 N r4 v141 h140) fun v142 h143 =>
        if v139 = v142 then
          mm_law_j1132 N L xs r1 r4 x3_18 h143
        else
          none
      else
      if v10 = (16 : Int32) then
        (ss_xs L xs (x3_18 + (1 : Int32))).bind fun v146 =>
        ss_b2 (mm_S_ring N r1 v146 h_18) fun v147 h148 =>
        (ss_xs L xs (x3_18 + (1 : Int32))).bind fun v149 =>
        ss_b2 (mm_M_ring N r4 v149 h148) fun v150 h151 =>
        if v147 = v150 then
          mm_law_j1132 N L xs r1 r4 x3_18 h151
        else
          none
      else
      if v10 = (17 : Int32) then
        (ss_xs L xs (x3_18 + (1 : Int32))).bind fun v154 =>
        (ss_xs L xs (x3_18 + (2 : Int32))).bind fun v155 =>
        (ss_xs L xs (x3_18 + (3 : Int32))).bind fun v156 =>
        (mm_S_spare N r1 v154 v155 v156 h_18).bind fun v157 =>
        (ss_xs L xs (x3_18 + (1 : Int32))).bind fun v158 =>
        (ss_xs L xs (x3_18 + (2 : Int32))).bind fun v159 =>
        (ss_xs L xs (x3_18 + (3 : Int32))).bind fun v160 =>
        (mm_M_spare N r4 v158 v159 v160 h_18).bind fun v161 =>
        if v157 = v161 then
          mm_law_j1132 N L xs r1 r4 x3_18 h_18
        else
          none
      else
      if v10 = (18 : Int32) then
        (ss_xs L xs (x3_18 + (1 : Int32))).bind fun v164 =>
        (ss_xs L xs (x3_18 + (2 : Int32))).bind fun v165 =>
        ss_b2 (mm_S_figure N r1 v164 v165 h_18) fun v166 h167 =>
        (ss_xs L xs (x3_18 + (1 : Int32))).bind fun v168 =>
        (ss_xs L xs (x3_18 + (2 : Int32))).bind fun v169 =>
        (mm_M_figure N r4 v168 v169 h167).bind fun v170 =>
        if v166 = v170 then
          mm_law_j1132 N L xs r1 r4 x3_18 h167
        else
          none
      else
      if v10 = (19 : Int32) then
        (ss_xs L xs (x3_18 + (1 : Int32))).bind fun v173 =>
        (ss_xs L xs (x3_18 + (2 : Int32))).bind fun v174 =>
        (ss_xs L xs (x3_18 + (3 : Int32))).bind fun v175 =>
        ss_b2 (mm_S_way N r1 v173 v174 v175 h_18) fun v176 h177 =>
        (ss_xs L xs (x3_18 + (1 : Int32))).bind fun v178 =>
        (ss_xs L xs (x3_18 + (2 : Int32))).bind fun v179 =>
        (ss_xs L xs (x3_18 + (3 : Int32))).bind fun v180 =>
        ss_b2 (mm_M_way N r4 v178 v179 v180 h177) fun v181 h182 =>
        if v176 = v181 then
          mm_law_j1132 N L xs r1 r4 x3_18 h182
        else
          none
      else
      if v10 = (20 : Int32) then
        (ss_xs L xs (x3_18 + (1 : Int32))).bind fun v185 =>
        (ss_xs L xs (x3_18 + (2 : Int32))).bind fun v186 =>
        ss_b2 (mm_S_pacts N r1 v185 v186 h_18) fun v187 h188 =>
        (ss_xs L xs (x3_18 + (1 : Int32))).bind fun v189 =>
        (ss_xs L xs (x3_18 + (2 : Int32))).bind fun v190 =>
        ss_b2 (mm_M_pacts N r4 v189 v190 h188) fun v191 h192 =>
        if v187 = v191 then
          mm_law_j1132 N L xs r1 r4 x3_18 h192
        else
          none
      else
      if v10 = (21 : Int32) then
        (ss_xs L xs (x3_18 + (1 : Int32))).bind fun v195 =>
        (ss_xs L xs (x3_18 + (2 : Int32))).bind fun v196 =>
        (ss_xs L xs (x3_18 + (3 : Int32))).bind fun v197 =>
        ss_b2 (mm_S_thrownOn N r1 v195 v196 v197 h_18) fun v198 h199 =>
        (ss_xs L xs (x3_18 + (1 : Int32))).bind fun v200 =>
        (ss_xs L xs (x3_18 + (2 : Int32))).bind fun v201 =>
        (ss_xs L xs (x3_18 + (3 : Int32))).bind fun v202 =>
        ss_b2 (mm_M_thrownOn N r4 v200 v201 v202 h199) fun v203 h204 =>
        if v198 = v203 then
          mm_law_j1132 N L xs r1 r4 x3_18 h204
        else
          none
      else
      if v10 = (22 : Int32) then
        (ss_xs L xs (x3_18 + (1 : Int32))).bind fun v207 =>
        (ss_xs L xs (x3_18 + (2 : Int32))).bind fun v208 =>
        (ss_xs L xs (x3_18 + (3 : Int32))).bind fun v209 =>
        ss_b2 (mm_S_best N r1 v207 v208 v209 h_18) fun v210 h211 =>
        (ss_xs L xs (x3_18 + (1 : Int32))).bind fun v212 =>
        (ss_xs L xs (x3_18 + (2 : Int32))).bind fun v213 =>
        (ss_xs L xs (x3_18 + (3 : Int32))).bind fun v214 =>
        ss_b2 (mm_M_best N r4 v212 v213 v214 h211) fun v215 h216 =>
        if v210 = v215 then
          mm_law_j1132 N L xs r1 r4 x3_18 h216
        else
          none
      else
      if v10 = (23 : Int32) then
        (ss_xs L xs (x3_18 + (1 : Int32))).bind fun v219 =>
        (ss_xs L xs (x3_18 + (2 : Int32))).bind fun v220 =>
        ss_b2 (mm_S_might N r1 v219 v220 h_18) fun v221 h222 =>
        (ss_xs L xs (x3_18 + (1 : Int32))).bind fun v223 =>
        (ss_xs L xs (x3_18 + (2 : Int32))).bind fun v224 =>
        ss_b2 (mm_M_might N r4 v223 v224 h222) fun v225 h226 =>
        if v221 = v225 then
          mm_law_j1132 N L xs r1 r4 x3_18 h226
        else
          none
      else
      if v10 = (24 : Int32) then
        (ss_xs L xs (x3_18 + (1 : Int32))).bind fun v229 =>
        (ss_xs L xs (x3_18 + (2 : Int32))).bind fun v230 =>
        (ss_xs L xs (x3_18 + (3 : Int32))).bind fun v231 =>
        ss_b2 (mm_S_note N r1 v229 v230 v231 h_18) fun v232 h233 =>
        (ss_xs L xs (x3_18 + (1 : Int32))).bind fun v234 =>
        (ss_xs L xs (x3_18 + (2 : Int32))).bind fun v235 =>
        (ss_xs L xs (x3_18 + (3 : Int32))).bind fun v236 =>
        ss_b2 (mm_M_note N r4 v234 v235 v236 h233) fun v237 h238 =>
        if v232 = v237 then
          mm_law_j1132 N L xs r1 r4 x3_18 h238
        else
          none
      else
      if v10 = (25 : Int32) then
        (ss_xs L xs (x3_18 + (1 : Int32))).bind fun v241 =>
        ss_b2 (mm_S_ruled N r1 v241 h_18) fun v242 h243 =>
        (ss_xs L xs (x3_18 + (1 : Int32))).bind fun v244 =>
        ss_b2 (mm_M_ruled N r4 v244 h243) fun v245 h246 =>
        if v242 = v245 then
          mm_law_j1132 N L xs r1 r4 x3_18 h246
        else
          none
      else
      if v10 = (26 : Int32) then
        (ss_xs L xs (x3_18 + (1 : Int32))).bind fun v249 =>
        (ss_xs L xs (x3_18 + (2 : Int32))).bind fun v250 =>
        ss_b2 (mm_S_look N r1 v249 v250 h_18) fun v251 h252 =>
        (ss_xs L xs (x3_18 + (1 : Int32))).bind fun v253 =>
        (ss_xs L xs (x3_18 + (2 : Int32))).bind fun v254 =>
        ss_b2 (mm_M_look N r4 v253 v254 h252) fun v255 h256 =>
        if v251 = v255 then
          mm_law_j1132 N L xs r1 r4 x3_18 h256
        else
          none
      else
      if v10 = (27 : Int32) then
        (ss_xs L xs (x3_18 + (1 : Int32))).bind fun v259 =>
        ss_b2 (mm_S_seed N r1 v259 h_18) fun v260 h261 =>
        (ss_xs L xs (x3_18 + (1 : Int32))).bind fun v262 =>
        ss_b2 (mm_M_seed N r4 v262 h261) fun v263 h264 =>
        if v260 = v263 then
          mm_law_j1132 N L xs r1 r4 x3_18 h264
        else
          none
      else
      if v10 = (28 : Int32) then
        (ss_xs L xs (x3_18 + (1 : Int32))).bind fun v267 =>
        (ss_xs L xs (x3_18 + (2 : Int32))).bind fun v268 =>
        (ss_xs L xs (x3_18 + (3 : Int32))).bind fun v269 =>
        (ss_xs L xs (x3_18 + (4 : Int32))).bind fun v270 =>
        ss_b2 (mm_S_storms N r1 v267 v268 v269 v270 h_18) fun v271 h272 =>
        (ss_xs L xs (x3_18 + (1 : Int32))).bind fun v273 =>
        (ss_xs L xs (x3_18 + (2 : Int32))).bind fun v274 =>
        (ss_xs L xs (x3_18 + (3 : Int32))).bind fun v275 =>
        (ss_xs L xs (x3_18 + (4 : Int32))).bind fun v276 =>
        ss_b2 (mm_M_storms N r4 v273 v274 v275 v276 h272) fun v277 h278 =>
        if v271 = v277 then
          mm_law_j1132 N L xs r1 r4 x3_18 h278
        else
          none
      else
      if v10 = (29 : Int32) then
        (ss_xs L xs (x3_18 + (1 : Int32))).bind fun v281 =>
        (mm_S_count N r1 v281 h_18).bind fun v282 =>
        (ss_xs L xs (x3_18 + (1 : Int32))).bind fun v283 =>
        (mm_M_count N r4 v283 h_18).bind fun v284 =>
        if v282 = v284 then
          mm_law_j1132 N L xs r1 r4 x3_18 h_18
        else
          none
      else
      if v10 = (30 : Int32) then
        (ss_xs L xs (x3_18 + (1 : Int32))).bind fun v287 =>
        ss_b2 (mm_S_image N r1 v287 h_18) fun v288 h289 =>
        (ss_xs L xs (x3_18 + (1 : Int32))).bind fun v290 =>
        ss_b2 (mm_M_image N r4 v290 h289) fun v291 h292 =>
        if v288 = v291 then
          mm_law_j1132 N L xs r1 r4 x3_18 h292
        else
          none
      else
      if v10 = (31 : Int32) then
        (ss_xs L xs (x3_18 + (1 : Int32))).bind fun v295 =>
        ss_b2 (mm_S_back N r1 v295 h_18) fun v296 h297 =>
        (ss_xs L xs (x3_18 + (1 : Int32))).bind fun v298 =>
        ss_b2 (mm_M_back N r4 v298 h297) fun v299 h300 =>
        if v296 = v299 then
          mm_law_j1132 N L xs r1 r4 x3_18 h300
        else
          none
      else
      mm_law_j1132 N L xs r1 r4 x3_18 h_18
def mm_law (N L : Nat) (xs : Nat → Int32) (h : ss_Hp) : Option ss_Hp :=
  ss_b2 (ss_no h 11 1 0 10) fun r1 h2 =>
  (mm_S_init N r1 h2).bind fun h3 =>
  ss_b2 (ss_no h3 12 16 1 23) fun r4 h5 =>
  (mm_M_init N r4 h5).bind fun h6 =>
  (ss_lp (mm_law_b18 N L xs r1 r4) N ((0 : Int32), h6)).bind fun h_18_1138 =>
  some h_18_1138
def ss_h0 : ss_Hp := (0, fun _ => (99, [], [], []))
set_option maxHeartbeats 16000000 in
set_option maxRecDepth 100000 in
/-- the walk of the law, over what its pure text says -/
theorem ss_law {p : Program} {e : Env} {s : State} {m : MethodId} {below : List Frame} {meth : Method} {c : Code} (l : Launch) {b L : Nat} {xs : Nat → Int32} (hL : L ≤ 3072) (C0 : lw_At p s m meth c b L xs) {N : Nat} {hh : ss_Hp} (hm : mm_law N L xs ss_h0 = some hh) : W p l e room_1 s m #[Value.ref b] below meth c s.heap [] 0 0 (lw_Z below #[Value.ref b] s) (entryFrame m ([Value.ref b] : List Value).toArray 4) := by
  obtain ⟨G, hGb, hK⟩ := ss_start C0
  obtain ⟨hx, hb, hr, hml, hown, hts, hX, hbl, hlocks, hgv⟩ := C0
  have hC : CallFix p m c code 4 s #[Value.ref b] lw_g R_law := ⟨hx, hb, hml, hown, fun w hw => hts w (List.mem_filter.mp hw).1⟩
  have hbA : ¬ ss_A G b := by show ¬ ss_b G ≤ b; rw [hGb]; omega
  have hR : ss_R G ss_h0 s.heap := ⟨by rw [hGb]; rfl, fun k q h => by simp [ss_ws, ss_h0] at h, fun k q => absurd (show 99 < 20 from q) (by decide), fun k _ => rfl⟩
  have hS : va_S (ss_A G) s.heap s.heap [] := va_S.rf
  have hl := lv_entry ([.ref b]) (n := 4) (Nat.le_of_ble_eq_true rfl)
  rw [lg_entry_eq]
  generalize (lg_sl ([.ref b]) ++ List.replicate (4 - (lg_sl ([.ref b])).length) Slot.unset).toArray = ls at hl ⊢
  have hl : lv_has ls 4 [(0, .ref b)] := hl
  obtain ⟨r1, h2, qh2, hm⟩ := ss_bind2 hm
  refine ss_newo (N := 11) hC hK hR hS rfl kn_law_7 rfl qh2 (Nat.le_of_ble_eq_true rfl) (Nat.le_of_ble_eq_true rfl) dd_law_0 (fun H hR hS => ?_)
  refine W.widen (k := 1) (n := 11) (Nat.le_of_ble_eq_true rfl) (Nat.le_of_ble_eq_true rfl) ?_
  refine ss_dupr hx hb dd_law_3 ?_
  obtain ⟨h3, qh3, hm⟩ := ss_bind hm
  refine ss_cI 118 2231 (As := []) hC hK hR hS hl.1 (cc_S_init l G N _ _ _ qh3) km_law_9 (ck_S_init qh3) ⟨Nat.le_of_ble_eq_true rfl, Nat.le_of_ble_eq_true rfl⟩ ⟨Nat.le_of_ble_eq_true rfl, Nat.le_of_ble_eq_true rfl, Nat.le_of_ble_eq_true rfl, Nat.le_of_ble_eq_true rfl⟩ rfl rfl (by simp [ss_v_cat, ss_cat_i, ss_cat_l, ss_cat_r]) dd_law_4 (fun H locs hR hS => ?_)
  refine ss_astore_n (lv' := [(1, ss_v (ss_b G) r1), (0, .ref b)]) hx hb dd_law_7 rfl hl (by decide) rfl (fun ls hl => ?_)
  obtain ⟨r4, h5, qh5, hm⟩ := ss_bind2 hm
  refine ss_newo (N := 40) hC hK hR hS rfl kn_law_10 rfl qh5 (Nat.le_of_ble_eq_true rfl) (Nat.le_of_ble_eq_true rfl) dd_law_8 (fun H hR hS => ?_)
  refine W.widen (k := 119) (n := 2271) (Nat.le_of_ble_eq_true rfl) (Nat.le_of_ble_eq_true rfl) ?_
  refine ss_dupr hx hb dd_law_11 ?_
  obtain ⟨h6, qh6, hm⟩ := ss_bind hm
  refine ss_cI 142 7632 (As := []) hC hK hR hS hl.1 (cc_M_init l G N _ _ _ qh6) km_law_12 (ck_M_init qh6) ⟨Nat.le_of_ble_eq_true rfl, Nat.le_of_ble_eq_true rfl⟩ ⟨Nat.le_of_ble_eq_true rfl, Nat.le_of_ble_eq_true rfl, Nat.le_of_ble_eq_true rfl, Nat.le_of_ble_eq_true rfl⟩ rfl rfl (by simp [ss_v_cat, ss_cat_i, ss_cat_l, ss_cat_r]) dd_law_12 (fun H locs hR hS => ?_)
  refine ss_astore_n (lv' := [(2, ss_v (ss_b G) r4), (1, ss_v (ss_b G) r1), (0, .ref b)]) hx hb dd_law_15 rfl hl (by decide) (by simp only [List.filter_cons, ss_v_cat]; rfl) (fun ls hl => ?_)
  refine lv_iconst (v := 0) hx hb dd_law_16 (by decide) ?_
  refine lv_istore_n (lv' := [(3, .int (0 : Int32)), (2, ss_v (ss_b G) r4), (1, ss_v (ss_b G) r1), (0, .ref b)]) hx hb dd_law_17 rfl hl (by decide) (by simp only [List.filter_cons, ss_v_cat]; rfl) (fun ls hl => ?_)
  obtain ⟨e_18, he_18, hm⟩ := ss_bind hm
  have X_18_1138 : ∀  (h_18_1138 : ss_Hp) (H : Heap) (locs : List Loc) (ls : Array Slot), e_18 = h_18_1138 → ss_R G h_18_1138 H → va_S (ss_A G) s.heap H locs → lv_has ls 4 [] → W p l e room_1 s m #[Value.ref b] below meth c H locs 600000 7302250 (lw_Z below #[Value.ref b] s) (F0 m 1138 ls []) := by
    intro h_18_1138 H locs ls hq hR hS hl
    rw [hq] at hm
    refine lv_iconst (v := 1) hx hb dd_law_1138 (by decide) ?_
    refine va_forget (fun q hq => Nat.le_trans (Nat.le_of_eq hGb.symm) (hS.2.2 q hq)) ?_
    exact lw_ret hx hb hr hlocks dd_law_1139
  have L_18 : ∀ (n kk : Nat) (x3_18 : Int32) (h_18 : ss_Hp) (H : Heap) (locs : List Loc) (ls : Array Slot), x3_18 = nI (6 * kk) → 6 * kk ≤ L → ss_lp (mm_law_b18 N L xs r1 r4) n (x3_18, h_18) = some e_18 → ss_R G h_18 H → va_S (ss_A G) s.heap H locs → lv_has ls 4 [(0, .ref b), (1, ss_v (ss_b G) r1), (2, ss_v (ss_b G) r4), (3, .int x3_18)] → W p l e room_1 s m #[Value.ref b] below meth c H locs (142 + 15 * kk) (7632 + 433 * kk) (lw_Z below #[Value.ref b] s) (F0 m 18 ls []) := by
    intro n
    induction n with
    | zero => intro kk x3_18 h_18 H locs ls hx3 hkl hm; cases hm
    | succ n ih_18 =>
      intro kk x3_18 h_18 H locs ls hx3 hkl hm hR hS hl
      obtain ⟨z_18, hm, hz1_18, hz2_18⟩ := ss_lps hm
      have J_1132 : ∀ (x3_1132 : Int32) (h_1132 : ss_Hp) (H : Heap) (locs : List Loc) (ls : Array Slot), x3_1132 = x3_18 → 6 * kk + 6 ≤ L → mm_law_j1132 N L xs r1 r4 x3_1132 h_1132 = some z_18 → ss_R G h_1132 H → va_S (ss_A G) s.heap H locs → lv_has ls 4 [(0, .ref b), (1, ss_v (ss_b G) r1), (2, ss_v (ss_b G) r4), (3, .int x3_1132)] → W p l e room_1 s m #[Value.ref b] below meth c H locs (142 + 15 * kk + 15) (7632 + 433 * kk + 433) (lw_Z below #[Value.ref b] s) (F0 m 1132 ls []) := by
        intro x3_1132 h_1132 H locs ls hxx hb6 hm hR hS hl
        obtain ⟨v7, qv7, hm⟩ := ss_bind hm
        refine lv_iinc (v := v7) (lv' := [(3, .int v7), (0, .ref b), (1, ss_v (ss_b G) r1), (2, ss_v (ss_b G) r4)]) hx hb dd_law_1132 hl (k := 3) rfl (ss_inc (by decide) qv7) (by decide) (by simp only [List.filter_cons, ss_v_cat]; rfl) (fun ls hl => ?_)
        refine lv_goto (tgt := 18) hx hb dd_law_1135 (by decide) ?_
        refine W.widen (k := 142 + 15 * (kk + 1)) (n := 7632 + 433 * (kk + 1)) (by omega) (by omega) ?_
        exact ih_18 (kk + 1) v7 h_1132 _ _ _ (by rw [ss_some qv7, hxx, hx3]; exact (nI_add (6 * kk) 6).trans (by rw [Nat.mul_add])) (by omega) (hz1_18 _ (ss_some hm)) hR hS (lv_sub hl [1, 2, 3, 0] rfl)
      refine lv_iload_n hx hb dd_law_18 rfl (lv_at hl 3 rfl) ?_
      refine lv_aload_n hx hb dd_law_19 rfl (lv_at hl 0 rfl) ?_
      refine va_slen hx hb hX hbl hbA hS dd_law_20 ?_
      refine lv_bipush (v := 6) hx hb dd_law_21 (by decide) ?_
      refine lv_isub hx hb dd_law_23 ?_
      refine lv_icmp_gt (tgt := 1138) hx hb dd_law_24 (by decide) (fun c8 => ?_) (fun c8 => ?_)
      · have hm := ss_ift hm c8
        refine W.widen (k := 600000) (n := 7302250) (by omega) (by omega) ?_
        exact X_18_1138 h_18 _ _ _ (hz2_18 _ (ss_some hm)) hR hS (lv_sub hl [] rfl)
      · have hm := ss_iff hm c8
        have hb6 : 6 * kk + 6 ≤ L := ss_lawc hL hkl (by rw [← hx3]; exact c8)
        refine lv_aload_n hx hb dd_law_27 rfl (lv_at hl 0 rfl) ?_
        refine lv_iload_n hx hb dd_law_28 rfl (lv_at hl 3 rfl) ?_
        obtain ⟨v9, qv9, hm⟩ := ss_bind hm
        refine ss_sld hx hb hX hbl hbA hS qv9 dd_law_29 ?_
        refine lv_bipush (v := 31) hx hb dd_law_30 (by decide) ?_
        refine lv_iand hx hb dd_law_32 ?_
        obtain ⟨v10, qv10, hm⟩ := ss_bind hm
        refine ss_topi qv10 ?_
        by_cases c11 : v10 = (0 : Int32)
        · have hm := ss_ift hm c11
          refine lv_tableIn (tgt := 176) hx hb dd_law_33 (by rw [c11]; decide) (by rw [c11]; decide) (by rw [c11]; rfl) (by decide) ?_
          refine ss_aload_n hx hb dd_law_176 rfl (lv_at hl 1 rfl) ?_
          refine lv_aload_n hx hb dd_law_177 rfl (lv_at hl 0 rfl) ?_
          refine lv_iload_n hx hb dd_law_178 rfl (lv_at hl 3 rfl) ?_
          refine lv_iconst (v := 1) hx hb dd_law_179 (by decide) ?_
          refine lv_iadd hx hb dd_law_180 ?_
          obtain ⟨v12, qv12, hm⟩ := ss_bind hm
          refine ss_sld hx hb hX hbl hbA hS qv12 dd_law_181 ?_
          refine lv_aload_n hx hb dd_law_182 rfl (lv_at hl 0 rfl) ?_
          refine lv_iload_n hx hb dd_law_183 rfl (lv_at hl 3 rfl) ?_
          refine lv_iconst (v := 2) hx hb dd_law_184 (by decide) ?_
          refine lv_iadd hx hb dd_law_185 ?_
          obtain ⟨v13, qv13, hm⟩ := ss_bind hm
          refine ss_sld hx hb hX hbl hbA hS qv13 dd_law_186 ?_
          refine lv_aload_n hx hb dd_law_187 rfl (lv_at hl 0 rfl) ?_
          refine lv_iload_n hx hb dd_law_188 rfl (lv_at hl 3 rfl) ?_
          refine lv_iconst (v := 3) hx hb dd_law_189 (by decide) ?_
          refine lv_iadd hx hb dd_law_190 ?_
          obtain ⟨v14, qv14, hm⟩ := ss_bind hm
          refine ss_sld hx hb hX hbl hbA hS qv14 dd_law_191 ?_
          refine lv_aload_n hx hb dd_law_192 rfl (lv_at hl 0 rfl) ?_
          refine lv_iload_n hx hb dd_law_193 rfl (lv_at hl 3 rfl) ?_
          refine lv_iconst (v := 4) hx hb dd_law_194 (by decide) ?_
          refine lv_iadd hx hb dd_law_195 ?_
          obtain ⟨v15, qv15, hm⟩ := ss_bind hm
          refine ss_sld hx hb hX hbl hbA hS qv15 dd_law_196 ?_
          refine lv_aload_n hx hb dd_law_197 rfl (lv_at hl 0 rfl) ?_
          refine lv_iload_n hx hb dd_law_198 rfl (lv_at hl 3 rfl) ?_
          refine lv_iconst (v := 5) hx hb dd_law_199 (by decide) ?_
          refine lv_iadd hx hb dd_law_200 ?_
          obtain ⟨v16, qv16, hm⟩ := ss_bind hm
          refine ss_sld hx hb hX hbl hbA hS qv16 dd_law_201 ?_
          obtain ⟨v17, h18, qh18, hm⟩ := ss_bind2 hm
          refine ss_cV (142 + 15 * kk) (7632 + 433 * kk) (As := [.int v12, .int v13, .int v14, .int v15, .int v16]) hC hK hR hS hl.1 (cc_S_feed l G N _ _ _ _ _ _ _ _ _ qh18) km_law_13 (ck_S_feed qh18) ⟨Nat.le_of_ble_eq_true rfl, Nat.le_of_ble_eq_true rfl⟩ ⟨(by first | omega | (dsimp only [room_1]; omega)), (by first | omega | (dsimp only [room_1]; omega)), (by first | omega | (dsimp only [room_1]; omega)), (by first | omega | (dsimp only [room_1]; omega))⟩ rfl rfl (Nat.le_of_ble_eq_true rfl) dd_law_202 (fun H locs hR hS => ?_)
          refine ss_aload_n hx hb dd_law_205 rfl (lv_at hl 2 rfl) ?_
          refine lv_aload_n hx hb dd_law_206 rfl (lv_at hl 0 rfl) ?_
          refine lv_iload_n hx hb dd_law_207 rfl (lv_at hl 3 rfl) ?_
          refine lv_iconst (v := 1) hx hb dd_law_208 (by decide) ?_
          refine lv_iadd hx hb dd_law_209 ?_
          obtain ⟨v19, qv19, hm⟩ := ss_bind hm
          refine ss_sld hx hb hX hbl hbA hS qv19 dd_law_210 ?_
          refine lv_aload_n hx hb dd_law_211 rfl (lv_at hl 0 rfl) ?_
          refine lv_iload_n hx hb dd_law_212 rfl (lv_at hl 3 rfl) ?_
          refine lv_iconst (v := 2) hx hb dd_law_213 (by decide) ?_
          refine lv_iadd hx hb dd_law_214 ?_
          obtain ⟨v20, qv20, hm⟩ := ss_bind hm
          refine ss_sld hx hb hX hbl hbA hS qv20 dd_law_215 ?_
          refine lv_aload_n hx hb dd_law_216 rfl (lv_at hl 0 rfl) ?_
          refine lv_iload_n hx hb dd_law_217 rfl (lv_at hl 3 rfl) ?_
          refine lv_iconst (v := 3) hx hb dd_law_218 (by decide) ?_
          refine lv_iadd hx hb dd_law_219 ?_
          obtain ⟨v21, qv21, hm⟩ := ss_bind hm
          refine ss_sld hx hb hX hbl hbA hS qv21 dd_law_220 ?_
          refine lv_aload_n hx hb dd_law_221 rfl (lv_at hl 0 rfl) ?_
          refine lv_iload_n hx hb dd_law_222 rfl (lv_at hl 3 rfl) ?_
          refine lv_iconst (v := 4) hx hb dd_law_223 (by decide) ?_
          refine lv_iadd hx hb dd_law_224 ?_
          obtain ⟨v22, qv22, hm⟩ := ss_bind hm
          refine ss_sld hx hb hX hbl hbA hS qv22 dd_law_225 ?_
          refine lv_aload_n hx hb dd_law_226 rfl (lv_at hl 0 rfl) ?_
          refine lv_iload_n hx hb dd_law_227 rfl (lv_at hl 3 rfl) ?_
          refine lv_iconst (v := 5) hx hb dd_law_228 (by decide) ?_
          refine lv_iadd hx hb dd_law_229 ?_
          obtain ⟨v23, qv23, hm⟩ := ss_bind hm
          refine ss_sld hx hb hX hbl hbA hS qv23 dd_law_230 ?_
          obtain ⟨v24, h25, qh25, hm⟩ := ss_bind2 hm
          refine ss_cV (142 + 15 * kk) (7632 + 433 * kk) (As := [.int v19, .int v20, .int v21, .int v22, .int v23]) hC hK hR hS hl.1 (cc_M_feed l G N _ _ _ _ _ _ _ _ _ qh25) km_law_17 (ck_M_feed qh25) ⟨Nat.le_of_ble_eq_true rfl, Nat.le_of_ble_eq_true rfl⟩ ⟨(by first | omega | (dsimp only [room_1]; omega)), (by first | omega | (dsimp only [room_1]; omega)), (by first | omega | (dsimp only [room_1]; omega)), (by first | omega | (dsimp only [room_1]; omega))⟩ rfl rfl (Nat.le_of_ble_eq_true rfl) dd_law_231 (fun H locs hR hS => ?_)
          refine lv_icmp_eq (tgt := 1132) hx hb dd_law_234 (by decide) (fun c26 => ?_) (fun c26 => ?_)
          · have hm := ss_ift hm c26
            refine W.widen (k := 142 + 15 * kk + 15) (n := 7632 + 433 * kk + 433) (by omega) (by omega) ?_
            exact J_1132 x3_18 h25 _ _ _ rfl hb6 hm hR hS hl
          · have hm := ss_iff hm c26
            cases hm
        have hm := ss_iff hm c11
        by_cases c27 : v10 = (1 : Int32)
        · have hm := ss_ift hm c27
          refine lv_tableIn (tgt := 239) hx hb dd_law_33 (by rw [c27]; decide) (by rw [c27]; decide) (by rw [c27]; rfl) (by decide) ?_
          refine ss_aload_n hx hb dd_law_239 rfl (lv_at hl 1 rfl) ?_
          refine lv_aload_n hx hb dd_law_240 rfl (lv_at hl 0 rfl) ?_
          refine lv_iload_n hx hb dd_law_241 rfl (lv_at hl 3 rfl) ?_
          refine lv_iconst (v := 1) hx hb dd_law_242 (by decide) ?_
          refine lv_iadd hx hb dd_law_243 ?_
          obtain ⟨v28, qv28, hm⟩ := ss_bind hm
          refine ss_sld hx hb hX hbl hbA hS qv28 dd_law_244 ?_
          obtain ⟨v29, h30, qh30, hm⟩ := ss_bind2 hm
          refine ss_cV (142 + 15 * kk) (7632 + 433 * kk) (As := [.int v28]) hC hK hR hS hl.1 (cc_S_end l G N _ _ _ _ _ qh30) km_law_18 (ck_S_end qh30) ⟨Nat.le_of_ble_eq_true rfl, Nat.le_of_ble_eq_true rfl⟩ ⟨(by first | omega | (dsimp only [room_1]; omega)), (by first | omega | (dsimp only [room_1]; omega)), (by first | omega | (dsimp only [room_1]; omega)), (by first | omega | (dsimp only [room_1]; omega))⟩ rfl rfl (Nat.le_of_ble_eq_true rfl) dd_law_245 (fun H locs hR hS => ?_)
          refine ss_aload_n hx hb dd_law_248 rfl (lv_at hl 2 rfl) ?_
          refine lv_aload_n hx hb dd_law_249 rfl (lv_at hl 0 rfl) ?_
          refine lv_iload_n hx hb dd_law_250 rfl (lv_at hl 3 rfl) ?_
          refine lv_iconst (v := 1) hx hb dd_law_251 (by decide) ?_
          refine lv_iadd hx hb dd_law_252 ?_
          obtain ⟨v31, qv31, hm⟩ := ss_bind hm
          refine ss_sld hx hb hX hbl hbA hS qv31 dd_law_253 ?_
          obtain ⟨v32, h33, qh33, hm⟩ := ss_bind2 hm
          refine ss_cV (142 + 15 * kk) (7632 + 433 * kk) (As := [.int v31]) hC hK hR hS hl.1 (cc_M_end l G N _ _ _ _ _ qh33) km_law_22 (ck_M_end qh33) ⟨Nat.le_of_ble_eq_true rfl, Nat.le_of_ble_eq_true rfl⟩ ⟨(by first | omega | (dsimp only [room_1]; omega)), (by first | omega | (dsimp only [room_1]; omega)), (by first | omega | (dsimp only [room_1]; omega)), (by first | omega | (dsimp only [room_1]; omega))⟩ rfl rfl (Nat.le_of_ble_eq_true rfl) dd_law_254 (fun H locs hR hS => ?_)
          refine lv_icmp_eq (tgt := 1132) hx hb dd_law_257 (by decide) (fun c34 => ?_) (fun c34 => ?_)
          · have hm := ss_ift hm c34
            refine W.widen (k := 142 + 15 * kk + 15) (n := 7632 + 433 * kk + 433) (by omega) (by omega) ?_
            exact J_1132 x3_18 h33 _ _ _ rfl hb6 hm hR hS hl
          · have hm := ss_iff hm c34
            cases hm
        have hm := ss_iff hm c27
        by_cases c35 : v10 = (2 : Int32)
        · have hm := ss_ift hm c35
          refine lv_tableIn (tgt := 262) hx hb dd_law_33 (by rw [c35]; decide) (by rw [c35]; decide) (by rw [c35]; rfl) (by decide) ?_
          refine ss_aload_n hx hb dd_law_262 rfl (lv_at hl 1 rfl) ?_
          obtain ⟨v36, h37, qh37, hm⟩ := ss_bind2 hm
          refine ss_cV (142 + 15 * kk) (7632 + 433 * kk) (As := []) hC hK hR hS hl.1 (cc_S_valley l G N _ _ _ _ qh37) km_law_23 (ck_S_valley qh37) ⟨Nat.le_of_ble_eq_true rfl, Nat.le_of_ble_eq_true rfl⟩ ⟨(by first | omega | (dsimp only [room_1]; omega)), (by first | omega | (dsimp only [room_1]; omega)), (by first | omega | (dsimp only [room_1]; omega)), (by first | omega | (dsimp only [room_1]; omega))⟩ rfl rfl (Nat.le_of_ble_eq_true rfl) dd_law_263 (fun H locs hR hS => ?_)
          refine ss_aload_n hx hb dd_law_266 rfl (lv_at hl 2 rfl) ?_
          obtain ⟨v38, h39, qh39, hm⟩ := ss_bind2 hm
          refine ss_cV (142 + 15 * kk) (7632 + 433 * kk) (As := []) hC hK hR hS hl.1 (cc_M_valley l G N _ _ _ _ qh39) km_law_27 (ck_M_valley qh39) ⟨Nat.le_of_ble_eq_true rfl, Nat.le_of_ble_eq_true rfl⟩ ⟨(by first | omega | (dsimp only [room_1]; omega)), (by first | omega | (dsimp only [room_1]; omega)), (by first | omega | (dsimp only [room_1]; omega)), (by first | omega | (dsimp only [room_1]; omega))⟩ rfl rfl (Nat.le_of_ble_eq_true rfl) dd_law_267 (fun H locs hR hS => ?_)
          refine lv_icmp_eq (tgt := 1132) hx hb dd_law_270 (by decide) (fun c40 => ?_) (fun c40 => ?_)
          · have hm := ss_ift hm c40
            refine W.widen (k := 142 + 15 * kk + 15) (n := 7632 + 433 * kk + 433) (by omega) (by omega) ?_
            exact J_1132 x3_18 h39 _ _ _ rfl hb6 hm hR hS hl
          · have hm := ss_iff hm c40
            cases hm
        have hm := ss_iff hm c35
        by_cases c41 : v10 = (3 : Int32)
        · have hm := ss_ift hm c41
          refine lv_tableIn (tgt := 275) hx hb dd_law_33 (by rw [c41]; decide) (by rw [c41]; decide) (by rw [c41]; rfl) (by decide) ?_
          refine ss_aload_n hx hb dd_law_275 rfl (lv_at hl 1 rfl) ?_
          obtain ⟨v42, h43, qh43, hm⟩ := ss_bind2 hm
          refine ss_cV (142 + 15 * kk + 3) (7632 + 433 * kk + 433) (As := []) hC hK hR hS hl.1 (cc_S_rule l G N _ _ _ _ qh43) km_law_28 (ck_S_rule qh43) ⟨Nat.le_of_ble_eq_true rfl, Nat.le_of_ble_eq_true rfl⟩ ⟨(by first | omega | (dsimp only [room_1]; omega)), (by first | omega | (dsimp only [room_1]; omega)), (by first | omega | (dsimp only [room_1]; omega)), (by first | omega | (dsimp only [room_1]; omega))⟩ rfl rfl (Nat.le_of_ble_eq_true rfl) dd_law_276 (fun H locs hR hS => ?_)
          refine ss_aload_n hx hb dd_law_279 rfl (lv_at hl 2 rfl) ?_
          obtain ⟨v44, h45, qh45, hm⟩ := ss_bind2 hm
          refine ss_cV (142 + 15 * kk + 3) (7632 + 433 * kk + 433) (As := []) hC hK hR hS hl.1 (cc_M_rule l G N _ _ _ _ qh45) km_law_31 (ck_M_rule qh45) ⟨Nat.le_of_ble_eq_true rfl, Nat.le_of_ble_eq_true rfl⟩ ⟨(by first | omega | (dsimp only [room_1]; omega)), (by first | omega | (dsimp only [room_1]; omega)), (by first | omega | (dsimp only [room_1]; omega)), (by first | omega | (dsimp only [room_1]; omega))⟩ rfl rfl (Nat.le_of_ble_eq_true rfl) dd_law_280 (fun H locs hR hS => ?_)
          refine lv_icmp_eq (tgt := 1132) hx hb dd_law_283 (by decide) (fun c46 => ?_) (fun c46 => ?_)
          · have hm := ss_ift hm c46
            refine W.widen (k := 142 + 15 * kk + 15) (n := 7632 + 433 * kk + 433) (by omega) (by omega) ?_
            exact J_1132 x3_18 h45 _ _ _ rfl hb6 hm hR hS hl
          · have hm := ss_iff hm c46
            cases hm
        have hm := ss_iff hm c41
        by_cases c47 : v10 = (4 : Int32)
        · have hm := ss_ift hm c47
          refine lv_tableIn (tgt := 288) hx hb dd_law_33 (by rw [c47]; decide) (by rw [c47]; decide) (by rw [c47]; rfl) (by decide) ?_
          refine ss_aload_n hx hb dd_law_288 rfl (lv_at hl 1 rfl) ?_
          refine lv_aload_n hx hb dd_law_289 rfl (lv_at hl 0 rfl) ?_
          refine lv_iload_n hx hb dd_law_290 rfl (lv_at hl 3 rfl) ?_
          refine lv_iconst (v := 1) hx hb dd_law_291 (by decide) ?_
          refine lv_iadd hx hb dd_law_292 ?_
          obtain ⟨v48, qv48, hm⟩ := ss_bind hm
          refine ss_sld hx hb hX hbl hbA hS qv48 dd_law_293 ?_
          obtain ⟨v49, h50, qh50, hm⟩ := ss_bind2 hm
          refine ss_cV (142 + 15 * kk) (7632 + 433 * kk) (As := [.int v48]) hC hK hR hS hl.1 (cc_S_force l G N _ _ _ _ _ qh50) km_law_32 (ck_S_force qh50) ⟨Nat.le_of_ble_eq_true rfl, Nat.le_of_ble_eq_true rfl⟩ ⟨(by first | omega | (dsimp only [room_1]; omega)), (by first | omega | (dsimp only [room_1]; omega)), (by first | omega | (dsimp only [room_1]; omega)), (by first | omega | (dsimp only [room_1]; omega))⟩ rfl rfl (Nat.le_of_ble_eq_true rfl) dd_law_294 (fun H locs hR hS => ?_)
          refine ss_aload_n hx hb dd_law_297 rfl (lv_at hl 2 rfl) ?_
          refine lv_aload_n hx hb dd_law_298 rfl (lv_at hl 0 rfl) ?_
          refine lv_iload_n hx hb dd_law_299 rfl (lv_at hl 3 rfl) ?_
          refine lv_iconst (v := 1) hx hb dd_law_300 (by decide) ?_
          refine lv_iadd hx hb dd_law_301 ?_
          obtain ⟨v51, qv51, hm⟩ := ss_bind hm
          refine ss_sld hx hb hX hbl hbA hS qv51 dd_law_302 ?_
          obtain ⟨v52, h53, qh53, hm⟩ := ss_bind2 hm
          refine ss_cV (142 + 15 * kk) (7632 + 433 * kk) (As := [.int v51]) hC hK hR hS hl.1 (cc_M_force l G N _ _ _ _ _ qh53) km_law_35 (ck_M_force qh53) ⟨Nat.le_of_ble_eq_true rfl, Nat.le_of_ble_eq_true rfl⟩ ⟨(by first | omega | (dsimp only [room_1]; omega)), (by first | omega | (dsimp only [room_1]; omega)), (by first | omega | (dsimp only [room_1]; omega)), (by first | omega | (dsimp only [room_1]; omega))⟩ rfl rfl (Nat.le_of_ble_eq_true rfl) dd_law_303 (fun H locs hR hS => ?_)
          refine lv_icmp_eq (tgt := 1132) hx hb dd_law_306 (by decide) (fun c54 => ?_) (fun c54 => ?_)
          · have hm := ss_ift hm c54
            refine W.widen (k := 142 + 15 * kk + 15) (n := 7632 + 433 * kk + 433) (by omega) (by omega) ?_
            exact J_1132 x3_18 h53 _ _ _ rfl hb6 hm hR hS hl
          · have hm := ss_iff hm c54
            cases hm
        have hm := ss_iff hm c47
        by_cases c55 : v10 = (5 : Int32)
        · have hm := ss_ift hm c55
          refine lv_tableIn (tgt := 311) hx hb dd_law_33 (by rw [c55]; decide) (by rw [c55]; decide) (by rw [c55]; rfl) (by decide) ?_
          refine ss_aload_n hx hb dd_law_311 rfl (lv_at hl 1 rfl) ?_
          refine lv_aload_n hx hb dd_law_312 rfl (lv_at hl 0 rfl) ?_
          refine lv_iload_n hx hb dd_law_313 rfl (lv_at hl 3 rfl) ?_
          refine lv_iconst (v := 1) hx hb dd_law_314 (by decide) ?_
          refine lv_iadd hx hb dd_law_315 ?_
          obtain ⟨v56, qv56, hm⟩ := ss_bind hm
          refine ss_sld hx hb hX hbl hbA hS qv56 dd_law_316 ?_
          refine lv_aload_n hx hb dd_law_317 rfl (lv_at hl 0 rfl) ?_
          refine lv_iload_n hx hb dd_law_318 rfl (lv_at hl 3 rfl) ?_
          refine lv_iconst (v := 2) hx hb dd_law_319 (by decide) ?_
          refine lv_iadd hx hb dd_law_320 ?_
          obtain ⟨v57, qv57, hm⟩ := ss_bind hm
          refine ss_sld hx hb hX hbl hbA hS qv57 dd_law_321 ?_
          obtain ⟨v58, qv58, hm⟩ := ss_bind hm
          refine ss_cV (142 + 15 * kk) (7632 + 433 * kk) (As := [.int v56, .int v57]) hC hK hR hS hl.1 (cc_S_step l G N _ _ _ _ _ qv58) km_law_36 (ck_S_step qv58) ⟨Nat.le_of_ble_eq_true rfl, Nat.le_of_ble_eq_true rfl⟩ ⟨(by first | omega | (dsimp only [room_1]; omega)), (by first | omega | (dsimp only [room_1]; omega)), (by first | omega | (dsimp only [room_1]; omega)), (by first | omega | (dsimp only [room_1]; omega))⟩ rfl rfl (Nat.le_of_ble_eq_true rfl) dd_law_322 (fun H locs hR hS => ?_)
          refine ss_aload_n hx hb dd_law_325 rfl (lv_at hl 2 rfl) ?_
          refine lv_aload_n hx hb dd_law_326 rfl (lv_at hl 0 rfl) ?_
          refine lv_iload_n hx hb dd_law_327 rfl (lv_at hl 3 rfl) ?_
          refine lv_iconst (v := 1) hx hb dd_law_328 (by decide) ?_
          refine lv_iadd hx hb dd_law_329 ?_
          obtain ⟨v59, qv59, hm⟩ := ss_bind hm
          refine ss_sld hx hb hX hbl hbA hS qv59 dd_law_330 ?_
          refine lv_aload_n hx hb dd_law_331 rfl (lv_at hl 0 rfl) ?_
          refine lv_iload_n hx hb dd_law_332 rfl (lv_at hl 3 rfl) ?_
          refine lv_iconst (v := 2) hx hb dd_law_333 (by decide) ?_
          refine lv_iadd hx hb dd_law_334 ?_
          obtain ⟨v60, qv60, hm⟩ := ss_bind hm
          refine ss_sld hx hb hX hbl hbA hS qv60 dd_law_335 ?_
          obtain ⟨v61, qv61, hm⟩ := ss_bind hm
          refine ss_cV (142 + 15 * kk) (7632 + 433 * kk) (As := [.int v59, .int v60]) hC hK hR hS hl.1 (cc_M_step l G N _ _ _ _ _ qv61) km_law_40 (ck_M_step qv61) ⟨Nat.le_of_ble_eq_true rfl, Nat.le_of_ble_eq_true rfl⟩ ⟨(by first | omega | (dsimp only [room_1]; omega)), (by first | omega | (dsimp only [room_1]; omega)), (by first | omega | (dsimp only [room_1]; omega)), (by first | omega | (dsimp only [room_1]; omega))⟩ rfl rfl (Nat.le_of_ble_eq_true rfl) dd_law_336 (fun H locs hR hS => ?_)
          refine lv_icmp_eq (tgt := 1132) hx hb dd_law_339 (by decide) (fun c62 => ?_) (fun c62 => ?_)
          · have hm := ss_ift hm c62
            refine W.widen (k := 142 + 15 * kk + 15) (n := 7632 + 433 * kk + 433) (by omega) (by omega) ?_
            exact J_1132 x3_18 h_18 _ _ _ rfl hb6 hm hR hS hl
          · have hm := ss_iff hm c62
            cases hm
        have hm := ss_iff hm c55
        by_cases c63 : v10 = (6 : Int32)
        · have hm := ss_ift hm c63
          refine lv_tableIn (tgt := 344) hx hb dd_law_33 (by rw [c63]; decide) (by rw [c63]; decide) (by rw [c63]; rfl) (by decide) ?_
          refine ss_aload_n hx hb dd_law_344 rfl (lv_at hl 1 rfl) ?_
          refine lv_aload_n hx hb dd_law_345 rfl (lv_at hl 0 rfl) ?_
          refine lv_iload_n hx hb dd_law_346 rfl (lv_at hl 3 rfl) ?_
          refine lv_iconst (v := 1) hx hb dd_law_347 (by decide) ?_
          refine lv_iadd hx hb dd_law_348 ?_
          obtain ⟨v64, qv64, hm⟩ := ss_bind hm
          refine ss_sld hx hb hX hbl hbA hS qv64 dd_law_349 ?_
          refine lv_aload_n hx hb dd_law_350 rfl (lv_at hl 0 rfl) ?_
          refine lv_iload_n hx hb dd_law_351 rfl (lv_at hl 3 rfl) ?_
          refine lv_iconst (v := 2) hx hb dd_law_352 (by decide) ?_
          refine lv_iadd hx hb dd_law_353 ?_
          obtain ⟨v65, qv65, hm⟩ := ss_bind hm
          refine ss_sld hx hb hX hbl hbA hS qv65 dd_law_354 ?_
          obtain ⟨v66, qv66, hm⟩ := ss_bind hm
          refine ss_cV (142 + 15 * kk) (7632 + 433 * kk) (As := [.int v64, .int v65]) hC hK hR hS hl.1 (cc_S_house l G N _ _ _ _ _ qv66) km_law_41 (ck_S_house qv66) ⟨Nat.le_of_ble_eq_true rfl, Nat.le_of_ble_eq_true rfl⟩ ⟨(by first | omega | (dsimp only [room_1]; omega)), (by first | omega | (dsimp only [room_1]; omega)), (by first | omega | (dsimp only [room_1]; omega)), (by first | omega | (dsimp only [room_1]; omega))⟩ rfl rfl (Nat.le_of_ble_eq_true rfl) dd_law_355 (fun H locs hR hS => ?_)
          refine ss_aload_n hx hb dd_law_358 rfl (lv_at hl 2 rfl) ?_
          refine lv_aload_n hx hb dd_law_359 rfl (lv_at hl 0 rfl) ?_
          refine lv_iload_n hx hb dd_law_360 rfl (lv_at hl 3 rfl) ?_
          refine lv_iconst (v := 1) hx hb dd_law_361 (by decide) ?_
          refine lv_iadd hx hb dd_law_362 ?_
          obtain ⟨v67, qv67, hm⟩ := ss_bind hm
          refine ss_sld hx hb hX hbl hbA hS qv67 dd_law_363 ?_
          refine lv_aload_n hx hb dd_law_364 rfl (lv_at hl 0 rfl) ?_
          refine lv_iload_n hx hb dd_law_365 rfl (lv_at hl 3 rfl) ?_
          refine lv_iconst (v := 2) hx hb dd_law_366 (by decide) ?_
          refine lv_iadd hx hb dd_law_367 ?_
          obtain ⟨v68, qv68, hm⟩ := ss_bind hm
          refine ss_sld hx hb hX hbl hbA hS qv68 dd_law_368 ?_
          obtain ⟨v69, qv69, hm⟩ := ss_bind hm
          refine ss_cV (142 + 15 * kk) (7632 + 433 * kk) (As := [.int v67, .int v68]) hC hK hR hS hl.1 (cc_M_house l G N _ _ _ _ _ qv69) km_law_44 (ck_M_house qv69) ⟨Nat.le_of_ble_eq_true rfl, Nat.le_of_ble_eq_true rfl⟩ ⟨(by first | omega | (dsimp only [room_1]; omega)), (by first | omega | (dsimp only [room_1]; omega)), (by first | omega | (dsimp only [room_1]; omega)), (by first | omega | (dsimp only [room_1]; omega))⟩ rfl rfl (Nat.le_of_ble_eq_true rfl) dd_law_369 (fun H locs hR hS => ?_)
          refine lv_icmp_eq (tgt := 1132) hx hb dd_law_372 (by decide) (fun c70 => ?_) (fun c70 => ?_)
          · have hm := ss_ift hm c70
            refine W.widen (k := 142 + 15 * kk + 15) (n := 7632 + 433 * kk + 433) (by omega) (by omega) ?_
            exact J_1132 x3_18 h_18 _ _ _ rfl hb6 hm hR hS hl
          · have hm := ss_iff hm c70
            cases hm
        have hm := ss_iff hm c63
        by_cases c71 : v10 = (7 : Int32)
        · have hm := ss_ift hm c71
          refine lv_tableIn (tgt := 377) hx hb dd_law_33 (by rw [c71]; decide) (by rw [c71]; decide) (by rw [c71]; rfl) (by decide) ?_
          refine ss_aload_n hx hb dd_law_377 rfl (lv_at hl 1 rfl) ?_
          obtain ⟨v72, h73, qh73, hm⟩ := ss_bind2 hm
          refine ss_cV (142 + 15 * kk) (7632 + 433 * kk) (As := []) hC hK hR hS hl.1 (cc_S_day l G N _ _ _ _ qh73) km_law_45 (ck_S_day qh73) ⟨Nat.le_of_ble_eq_true rfl, Nat.le_of_ble_eq_true rfl⟩ ⟨(by first | omega | (dsimp only [room_1]; omega)), (by first | omega | (dsimp only [room_1]; omega)), (by first | omega | (dsimp only [room_1]; omega)), (by first | omega | (dsimp only [room_1]; omega))⟩ rfl rfl (Nat.le_of_ble_eq_true rfl) dd_law_378 (fun H locs hR hS => ?_)
          refine ss_aload_n hx hb dd_law_381 rfl (lv_at hl 2 rfl) ?_
          obtain ⟨v74, h75, qh75, hm⟩ := ss_bind2 hm
          refine ss_cV (142 + 15 * kk) (7632 + 433 * kk) (As := []) hC hK hR hS hl.1 (cc_M_day l G N _ _ _ _ qh75) km_law_48 (ck_M_day qh75) ⟨Nat.le_of_ble_eq_true rfl, Nat.le_of_ble_eq_true rfl⟩ ⟨(by first | omega | (dsimp only [room_1]; omega)), (by first | omega | (dsimp only [room_1]; omega)), (by first | omega | (dsimp only [room_1]; omega)), (by first | omega | (dsimp only [room_1]; omega))⟩ rfl rfl (Nat.le_of_ble_eq_true rfl) dd_law_382 (fun H locs hR hS => ?_)
          refine lv_icmp_eq (tgt := 1132) hx hb dd_law_385 (by decide) (fun c76 => ?_) (fun c76 => ?_)
          · have hm := ss_ift hm c76
            refine W.widen (k := 142 + 15 * kk + 15) (n := 7632 + 433 * kk + 433) (by omega) (by omega) ?_
            exact J_1132 x3_18 h75 _ _ _ rfl hb6 hm hR hS hl
          · have hm := ss_iff hm c76
            cases hm
        have hm := ss_iff hm c71
        by_cases c77 : v10 = (8 : Int32)
        · have hm := ss_ift hm c77
          refine lv_tableIn (tgt := 390) hx hb dd_law_33 (by rw [c77]; decide) (by rw [c77]; decide) (by rw [c77]; rfl) (by decide) ?_
          refine ss_aload_n hx hb dd_law_390 rfl (lv_at hl 1 rfl) ?_
          refine lv_aload_n hx hb dd_law_391 rfl (lv_at hl 0 rfl) ?_
          refine lv_iload_n hx hb dd_law_392 rfl (lv_at hl 3 rfl) ?_
          refine lv_iconst (v := 1) hx hb dd_law_393 (by decide) ?_
          refine lv_iadd hx hb dd_law_394 ?_
          obtain ⟨v78, qv78, hm⟩ := ss_bind hm
          refine ss_sld hx hb hX hbl hbA hS qv78 dd_law_395 ?_
          refine lv_aload_n hx hb dd_law_396 rfl (lv_at hl 0 rfl) ?_
          refine lv_iload_n hx hb dd_law_397 rfl (lv_at hl 3 rfl) ?_
          refine lv_iconst (v := 2) hx hb dd_law_398 (by decide) ?_
          refine lv_iadd hx hb dd_law_399 ?_
          obtain ⟨v79, qv79, hm⟩ := ss_bind hm
          refine ss_sld hx hb hX hbl hbA hS qv79 dd_law_400 ?_
          obtain ⟨v80, h81, qh81, hm⟩ := ss_bind2 hm
          refine ss_cV (142 + 15 * kk) (7632 + 433 * kk) (As := [.int v78, .int v79]) hC hK hR hS hl.1 (cc_S_sweep l G N _ _ _ _ _ _ qh81) km_law_49 (ck_S_sweep qh81) ⟨Nat.le_of_ble_eq_true rfl, Nat.le_of_ble_eq_true rfl⟩ ⟨(by first | omega | (dsimp only [room_1]; omega)), (by first | omega | (dsimp only [room_1]; omega)), (by first | omega | (dsimp only [room_1]; omega)), (by first | omega | (dsimp only [room_1]; omega))⟩ rfl rfl (Nat.le_of_ble_eq_true rfl) dd_law_401 (fun H locs hR hS => ?_)
          refine ss_aload_n hx hb dd_law_404 rfl (lv_at hl 2 rfl) ?_
          refine lv_aload_n hx hb dd_law_405 rfl (lv_at hl 0 rfl) ?_
          refine lv_iload_n hx hb dd_law_406 rfl (lv_at hl 3 rfl) ?_
          refine lv_iconst (v := 1) hx hb dd_law_407 (by decide) ?_
          refine lv_iadd hx hb dd_law_408 ?_
          obtain ⟨v82, qv82, hm⟩ := ss_bind hm
          refine ss_sld hx hb hX hbl hbA hS qv82 dd_law_409 ?_
          refine lv_aload_n hx hb dd_law_410 rfl (lv_at hl 0 rfl) ?_
          refine lv_iload_n hx hb dd_law_411 rfl (lv_at hl 3 rfl) ?_
          refine lv_iconst (v := 2) hx hb dd_law_412 (by decide) ?_
          refine lv_iadd hx hb dd_law_413 ?_
          obtain ⟨v83, qv83, hm⟩ := ss_bind hm
          refine ss_sld hx hb hX hbl hbA hS qv83 dd_law_414 ?_
          obtain ⟨v84, h85, qh85, hm⟩ := ss_bind2 hm
          refine ss_cV (142 + 15 * kk) (7632 + 433 * kk) (As := [.int v82, .int v83]) hC hK hR hS hl.1 (cc_M_sweep l G N _ _ _ _ _ _ qh85) km_law_52 (ck_M_sweep qh85) ⟨Nat.le_of_ble_eq_true rfl, Nat.le_of_ble_eq_true rfl⟩ ⟨(by first | omega | (dsimp only [room_1]; omega)), (by first | omega | (dsimp only [room_1]; omega)), (by first | omega | (dsimp only [room_1]; omega)), (by first | omega | (dsimp only [room_1]; omega))⟩ rfl rfl (Nat.le_of_ble_eq_true rfl) dd_law_415 (fun H locs hR hS => ?_)
          refine lv_icmp_eq (tgt := 1132) hx hb dd_law_418 (by decide) (fun c86 => ?_) (fun c86 => ?_)
          · have hm := ss_ift hm c86
            refine W.widen (k := 142 + 15 * kk + 15) (n := 7632 + 433 * kk + 433) (by omega) (by omega) ?_
            exact J_1132 x3_18 h85 _ _ _ rfl hb6 hm hR hS hl
          · have hm := ss_iff hm c86
            cases hm
        have hm := ss_iff hm c77
        by_cases c87 : v10 = (9 : Int32)
        · have hm := ss_ift hm c87
          refine lv_tableIn (tgt := 423) hx hb dd_law_33 (by rw [c87]; decide) (by rw [c87]; decide) (by rw [c87]; rfl) (by decide) ?_
          refine ss_aload_n hx hb dd_law_423 rfl (lv_at hl 1 rfl) ?_
          refine lv_aload_n hx hb dd_law_424 rfl (lv_at hl 0 rfl) ?_
          refine lv_iload_n hx hb dd_law_425 rfl (lv_at hl 3 rfl) ?_
          refine lv_iconst (v := 1) hx hb dd_law_426 (by decide) ?_
          refine lv_iadd hx hb dd_law_427 ?_
          obtain ⟨v88, qv88, hm⟩ := ss_bind hm
          refine ss_sld hx hb hX hbl hbA hS qv88 dd_law_428 ?_
          refine lv_aload_n hx hb dd_law_429 rfl (lv_at hl 0 rfl) ?_
          refine lv_iload_n hx hb dd_law_430 rfl (lv_at hl 3 rfl) ?_
          refine lv_iconst (v := 2) hx hb dd_law_431 (by decide) ?_
          refine lv_iadd hx hb dd_law_432 ?_
          obtain ⟨v89, qv89, hm⟩ := ss_bind hm
          refine ss_sld hx hb hX hbl hbA hS qv89 dd_law_433 ?_
          obtain ⟨v90, h91, qh91, hm⟩ := ss_bind2 hm
          refine ss_cV (142 + 15 * kk) (7632 + 433 * kk) (As := [.int v88, .int v89]) hC hK hR hS hl.1 (cc_S_toss l G N _ _ _ _ _ _ qh91) km_law_53 (ck_S_toss qh91) ⟨Nat.le_of_ble_eq_true rfl, Nat.le_of_ble_eq_true rfl⟩ ⟨(by first | omega | (dsimp only [room_1]; omega)), (by first | omega | (dsimp only [room_1]; omega)), (by first | omega | (dsimp only [room_1]; omega)), (by first | omega | (dsimp only [room_1]; omega))⟩ rfl rfl (Nat.le_of_ble_eq_true rfl) dd_law_434 (fun H locs hR hS => ?_)
          refine ss_aload_n hx hb dd_law_437 rfl (lv_at hl 2 rfl) ?_
          refine lv_aload_n hx hb dd_law_438 rfl (lv_at hl 0 rfl) ?_
          refine lv_iload_n hx hb dd_law_439 rfl (lv_at hl 3 rfl) ?_
          refine lv_iconst (v := 1) hx hb dd_law_440 (by decide) ?_
          refine lv_iadd hx hb dd_law_441 ?_
          obtain ⟨v92, qv92, hm⟩ := ss_bind hm
          refine ss_sld hx hb hX hbl hbA hS qv92 dd_law_442 ?_
          refine lv_aload_n hx hb dd_law_443 rfl (lv_at hl 0 rfl) ?_
          refine lv_iload_n hx hb dd_law_444 rfl (lv_at hl 3 rfl) ?_
          refine lv_iconst (v := 2) hx hb dd_law_445 (by decide) ?_
          refine lv_iadd hx hb dd_law_446 ?_
          obtain ⟨v93, qv93, hm⟩ := ss_bind hm
          refine ss_sld hx hb hX hbl hbA hS qv93 dd_law_447 ?_
          obtain ⟨v94, h95, qh95, hm⟩ := ss_bind2 hm
          refine ss_cV (142 + 15 * kk) (7632 + 433 * kk) (As := [.int v92, .int v93]) hC hK hR hS hl.1 (cc_M_toss l G N _ _ _ _ _ _ qh95) km_law_56 (ck_M_toss qh95) ⟨Nat.le_of_ble_eq_true rfl, Nat.le_of_ble_eq_true rfl⟩ ⟨(by first | omega | (dsimp only [room_1]; omega)), (by first | omega | (dsimp only [room_1]; omega)), (by first | omega | (dsimp only [room_1]; omega)), (by first | omega | (dsimp only [room_1]; omega))⟩ rfl rfl (Nat.le_of_ble_eq_true rfl) dd_law_448 (fun H locs hR hS => ?_)
          refine lv_icmp_eq (tgt := 1132) hx hb dd_law_451 (by decide) (fun c96 => ?_) (fun c96 => ?_)
          · have hm := ss_ift hm c96
            refine W.widen (k := 142 + 15 * kk + 15) (n := 7632 + 433 * kk + 433) (by omega) (by omega) ?_
            exact J_1132 x3_18 h95 _ _ _ rfl hb6 hm hR hS hl
          · have hm := ss_iff hm c96
            cases hm
        have hm := ss_iff hm c87
        by_cases c97 : v10 = (10 : Int32)
        · have hm := ss_ift hm c97
          refine lv_tableIn (tgt := 456) hx hb dd_law_33 (by rw [c97]; decide) (by rw [c97]; decide) (by rw [c97]; rfl) (by decide) ?_
          refine ss_aload_n hx hb dd_law_456 rfl (lv_at hl 1 rfl) ?_
          refine lv_aload_n hx hb dd_law_457 rfl (lv_at hl 0 rfl) ?_
          refine lv_iload_n hx hb dd_law_458 rfl (lv_at hl 3 rfl) ?_
          refine lv_iconst (v := 1) hx hb dd_law_459 (by decide) ?_
          refine lv_iadd hx hb dd_law_460 ?_
          obtain ⟨v98, qv98, hm⟩ := ss_bind hm
          refine ss_sld hx hb hX hbl hbA hS qv98 dd_law_461 ?_
          obtain ⟨v99, h100, qh100, hm⟩ := ss_bind2 hm
          refine ss_cV (142 + 15 * kk) (7632 + 433 * kk) (As := [.int v98]) hC hK hR hS hl.1 (cc_S_pull l G N _ _ _ _ _ qh100) km_law_57 (ck_S_pull qh100) ⟨Nat.le_of_ble_eq_true rfl, Nat.le_of_ble_eq_true rfl⟩ ⟨(by first | omega | (dsimp only [room_1]; omega)), (by first | omega | (dsimp only [room_1]; omega)), (by first | omega | (dsimp only [room_1]; omega)), (by first | omega | (dsimp only [room_1]; omega))⟩ rfl rfl (Nat.le_of_ble_eq_true rfl) dd_law_462 (fun H locs hR hS => ?_)
          refine ss_aload_n hx hb dd_law_465 rfl (lv_at hl 2 rfl) ?_
          refine lv_aload_n hx hb dd_law_466 rfl (lv_at hl 0 rfl) ?_
          refine lv_iload_n hx hb dd_law_467 rfl (lv_at hl 3 rfl) ?_
          refine lv_iconst (v := 1) hx hb dd_law_468 (by decide) ?_
          refine lv_iadd hx hb dd_law_469 ?_
          obtain ⟨v101, qv101, hm⟩ := ss_bind hm
          refine ss_sld hx hb hX hbl hbA hS qv101 dd_law_470 ?_
          obtain ⟨v102, h103, qh103, hm⟩ := ss_bind2 hm
          refine ss_cV (142 + 15 * kk) (7632 + 433 * kk) (As := [.int v101]) hC hK hR hS hl.1 (cc_M_pull l G N _ _ _ _ _ qh103) km_law_60 (ck_M_pull qh103) ⟨Nat.le_of_ble_eq_true rfl, Nat.le_of_ble_eq_true rfl⟩ ⟨(by first | omega | (dsimp only [room_1]; omega)), (by first | omega | (dsimp only [room_1]; omega)), (by first | omega | (dsimp only [room_1]; omega)), (by first | omega | (dsimp only [room_1]; omega))⟩ rfl rfl (Nat.le_of_ble_eq_true rfl) dd_law_471 (fun H locs hR hS => ?_)
          refine lv_icmp_eq (tgt := 1132) hx hb dd_law_474 (by decide) (fun c104 => ?_) (fun c104 => ?_)
          · have hm := ss_ift hm c104
            refine W.widen (k := 142 + 15 * kk + 15) (n := 7632 + 433 * kk + 433) (by omega) (by omega) ?_
            exact J_1132 x3_18 h103 _ _ _ rfl hb6 hm hR hS hl
          · have hm := ss_iff hm c104
            cases hm
        have hm := ss_iff hm c97
        by_cases c105 : v10 = (11 : Int32)
        · have hm := ss_ift hm c105
          refine lv_tableIn (tgt := 479) hx hb dd_law_33 (by rw [c105]; decide) (by rw [c105]; decide) (by rw [c105]; rfl) (by decide) ?_
          refine ss_aload_n hx hb dd_law_479 rfl (lv_at hl 1 rfl) ?_
          obtain ⟨v106, h107, qh107, hm⟩ := ss_bind2 hm
          refine ss_cV (142 + 15 * kk) (7632 + 433 * kk) (As := []) hC hK hR hS hl.1 (cc_S_thaw l G N _ _ _ _ qh107) km_law_61 (ck_S_thaw qh107) ⟨Nat.le_of_ble_eq_true rfl, Nat.le_of_ble_eq_true rfl⟩ ⟨(by first | omega | (dsimp only [room_1]; omega)), (by first | omega | (dsimp only [room_1]; omega)), (by first | omega | (dsimp only [room_1]; omega)), (by first | omega | (dsimp only [room_1]; omega))⟩ rfl rfl (Nat.le_of_ble_eq_true rfl) dd_law_480 (fun H locs hR hS => ?_)
          refine ss_aload_n hx hb dd_law_483 rfl (lv_at hl 2 rfl) ?_
          obtain ⟨v108, h109, qh109, hm⟩ := ss_bind2 hm
          refine ss_cV (142 + 15 * kk) (7632 + 433 * kk) (As := []) hC hK hR hS hl.1 (cc_M_thaw l G N _ _ _ _ qh109) km_law_64 (ck_M_thaw qh109) ⟨Nat.le_of_ble_eq_true rfl, Nat.le_of_ble_eq_true rfl⟩ ⟨(by first | omega | (dsimp only [room_1]; omega)), (by first | omega | (dsimp only [room_1]; omega)), (by first | omega | (dsimp only [room_1]; omega)), (by first | omega | (dsimp only [room_1]; omega))⟩ rfl rfl (Nat.le_of_ble_eq_true rfl) dd_law_484 (fun H locs hR hS => ?_)
          refine lv_icmp_eq (tgt := 1132) hx hb dd_law_487 (by decide) (fun c110 => ?_) (fun c110 => ?_)
          · have hm := ss_ift hm c110
            refine W.widen (k := 142 + 15 * kk + 15) (n := 7632 + 433 * kk + 433) (by omega) (by omega) ?_
            exact J_1132 x3_18 h109 _ _ _ rfl hb6 hm hR hS hl
          · have hm := ss_iff hm c110
            cases hm
        have hm := ss_iff hm c105
        by_cases c111 : v10 = (12 : Int32)
        · have hm := ss_ift hm c111
          refine lv_tableIn (tgt := 492) hx hb dd_law_33 (by rw [c111]; decide) (by rw [c111]; decide) (by rw [c111]; rfl) (by decide) ?_
          refine ss_aload_n hx hb dd_law_492 rfl (lv_at hl 1 rfl) ?_
          obtain ⟨v112, h113, qh113, hm⟩ := ss_bind2 hm
          refine ss_cV (142 + 15 * kk) (7632 + 433 * kk) (As := []) hC hK hR hS hl.1 (cc_S_undo l G N _ _ _ _ qh113) km_law_65 (ck_S_undo qh113) ⟨Nat.le_of_ble_eq_true rfl, Nat.le_of_ble_eq_true rfl⟩ ⟨(by first | omega | (dsimp only [room_1]; omega)), (by first | omega | (dsimp only [room_1]; omega)), (by first | omega | (dsimp only [room_1]; omega)), (by first | omega | (dsimp only [room_1]; omega))⟩ rfl rfl (Nat.le_of_ble_eq_true rfl) dd_law_493 (fun H locs hR hS => ?_)
          refine ss_aload_n hx hb dd_law_496 rfl (lv_at hl 2 rfl) ?_
          obtain ⟨v114, h115, qh115, hm⟩ := ss_bind2 hm
          refine ss_cV (142 + 15 * kk) (7632 + 433 * kk) (As := []) hC hK hR hS hl.1 (cc_M_undo l G N _ _ _ _ qh115) km_law_68 (ck_M_undo qh115) ⟨Nat.le_of_ble_eq_true rfl, Nat.le_of_ble_eq_true rfl⟩ ⟨(by first | omega | (dsimp only [room_1]; omega)), (by first | omega | (dsimp only [room_1]; omega)), (by first | omega | (dsimp only [room_1]; omega)), (by first | omega | (dsimp only [room_1]; omega))⟩ rfl rfl (Nat.le_of_ble_eq_true rfl) dd_law_497 (fun H locs hR hS => ?_)
          refine lv_icmp_eq (tgt := 1132) hx hb dd_law_500 (by decide) (fun c116 => ?_) (fun c116 => ?_)
          · have hm := ss_ift hm c116
            refine W.widen (k := 142 + 15 * kk + 15) (n := 7632 + 433 * kk + 433) (by omega) (by omega) ?_
            exact J_1132 x3_18 h115 _ _ _ rfl hb6 hm hR hS hl
          · have hm := ss_iff hm c116
            cases hm
        have hm := ss_iff hm c111
        by_cases c117 : v10 = (13 : Int32)
        · have hm := ss_ift hm c117
          refine lv_tableIn (tgt := 505) hx hb dd_law_33 (by rw [c117]; decide) (by rw [c117]; decide) (by rw [c117]; rfl) (by decide) ?_
          refine ss_aload_n hx hb dd_law_505 rfl (lv_at hl 1 rfl) ?_
          refine lv_aload_n hx hb dd_law_506 rfl (lv_at hl 0 rfl) ?_
          refine lv_iload_n hx hb dd_law_507 rfl (lv_at hl 3 rfl) ?_
          refine lv_iconst (v := 1) hx hb dd_law_508 (by decide) ?_
          refine lv_iadd hx hb dd_law_509 ?_
          obtain ⟨v118, qv118, hm⟩ := ss_bind hm
          refine ss_sld hx hb hX hbl hbA hS qv118 dd_law_510 ?_
          refine lv_aload_n hx hb dd_law_511 rfl (lv_at hl 0 rfl) ?_
          refine lv_iload_n hx hb dd_law_512 rfl (lv_at hl 3 rfl) ?_
          refine lv_iconst (v := 2) hx hb dd_law_513 (by decide) ?_
          refine lv_iadd hx hb dd_law_514 ?_
          obtain ⟨v119, qv119, hm⟩ := ss_bind hm
          refine ss_sld hx hb hX hbl hbA hS qv119 dd_law_515 ?_
          refine lv_aload_n hx hb dd_law_516 rfl (lv_at hl 0 rfl) ?_
          refine lv_iload_n hx hb dd_law_517 rfl (lv_at hl 3 rfl) ?_
          refine lv_iconst (v := 3) hx hb dd_law_518 (by decide) ?_
          refine lv_iadd hx hb dd_law_519 ?_
          obtain ⟨v120, qv120, hm⟩ := ss_bind hm
          refine ss_sld hx hb hX hbl hbA hS qv120 dd_law_520 ?_
          obtain ⟨v121, h122, qh122, hm⟩ := ss_bind2 hm
          refine ss_cV (142 + 15 * kk) (7632 + 433 * kk) (As := [.int v118, .int v119, .int v120]) hC hK hR hS hl.1 (cc_S_ahead l G N _ _ _ _ _ _ _ qh122) km_law_69 (ck_S_ahead qh122) ⟨Nat.le_of_ble_eq_true rfl, Nat.le_of_ble_eq_true rfl⟩ ⟨(by first | omega | (dsimp only [room_1]; omega)), (by first | omega | (dsimp only [room_1]; omega)), (by first | omega | (dsimp only [room_1]; omega)), (by first | omega | (dsimp only [room_1]; omega))⟩ rfl rfl (Nat.le_of_ble_eq_true rfl) dd_law_521 (fun H locs hR hS => ?_)
          refine ss_aload_n hx hb dd_law_524 rfl (lv_at hl 2 rfl) ?_
          refine lv_aload_n hx hb dd_law_525 rfl (lv_at hl 0 rfl) ?_
          refine lv_iload_n hx hb dd_law_526 rfl (lv_at hl 3 rfl) ?_
          refine lv_iconst (v := 1) hx hb dd_law_527 (by decide) ?_
          refine lv_iadd hx hb dd_law_528 ?_
          obtain ⟨v123, qv123, hm⟩ := ss_bind hm
          refine ss_sld hx hb hX hbl hbA hS qv123 dd_law_529 ?_
          refine lv_aload_n hx hb dd_law_530 rfl (lv_at hl 0 rfl) ?_
          refine lv_iload_n hx hb dd_law_531 rfl (lv_at hl 3 rfl) ?_
          refine lv_iconst (v := 2) hx hb dd_law_532 (by decide) ?_
          refine lv_iadd hx hb dd_law_533 ?_
          obtain ⟨v124, qv124, hm⟩ := ss_bind hm
          refine ss_sld hx hb hX hbl hbA hS qv124 dd_law_534 ?_
          refine lv_aload_n hx hb dd_law_535 rfl (lv_at hl 0 rfl) ?_
          refine lv_iload_n hx hb dd_law_536 rfl (lv_at hl 3 rfl) ?_
          refine lv_iconst (v := 3) hx hb dd_law_537 (by decide) ?_
          refine lv_iadd hx hb dd_law_538 ?_
          obtain ⟨v125, qv125, hm⟩ := ss_bind hm
          refine ss_sld hx hb hX hbl hbA hS qv125 dd_law_539 ?_
          obtain ⟨v126, h127, qh127, hm⟩ := ss_bind2 hm
          refine ss_cV (142 + 15 * kk) (7632 + 433 * kk) (As := [.int v123, .int v124, .int v125]) hC hK hR hS hl.1 (cc_M_ahead l G N _ _ _ _ _ _ _ qh127) km_law_73 (ck_M_ahead qh127) ⟨Nat.le_of_ble_eq_true rfl, Nat.le_of_ble_eq_true rfl⟩ ⟨(by first | omega | (dsimp only [room_1]; omega)), (by first | omega | (dsimp only [room_1]; omega)), (by first | omega | (dsimp only [room_1]; omega)), (by first | omega | (dsimp only [room_1]; omega))⟩ rfl rfl (Nat.le_of_ble_eq_true rfl) dd_law_540 (fun H locs hR hS => ?_)
          refine lv_icmp_eq (tgt := 1132) hx hb dd_law_543 (by decide) (fun c128 => ?_) (fun c128 => ?_)
          · have hm := ss_ift hm c128
            refine W.widen (k := 142 + 15 * kk + 15) (n := 7632 + 433 * kk + 433) (by omega) (by omega) ?_
            exact J_1132 x3_18 h127 _ _ _ rfl hb6 hm hR hS hl
          · have hm := ss_iff hm c128
            cases hm
        have hm := ss_iff hm c117
        by_cases c129 : v10 = (14 : Int32)
        · have hm := ss_ift hm c129
          refine lv_tableIn (tgt := 548) hx hb dd_law_33 (by rw [c129]; decide) (by rw [c129]; decide) (by rw [c129]; rfl) (by decide) ?_
          refine ss_aload_n hx hb dd_law_548 rfl (lv_at hl 1 rfl) ?_
          refine lv_aload_n hx hb dd_law_549 rfl (lv_at hl 0 rfl) ?_
          refine lv_iload_n hx hb dd_law_550 rfl (lv_at hl 3 rfl) ?_
          refine lv_iconst (v := 1) hx hb dd_law_551 (by decide) ?_
          refine lv_iadd hx hb dd_law_552 ?_
          obtain ⟨v130, qv130, hm⟩ := ss_bind hm
          refine ss_sld hx hb hX hbl hbA hS qv130 dd_law_553 ?_
          obtain ⟨v131, h132, qh132, hm⟩ := ss_bind2 hm
          refine ss_cV (142 + 15 * kk) (7632 + 433 * kk) (As := [.int v130]) hC hK hR hS hl.1 (cc_S_stays l G N _ _ _ _ _ qh132) km_law_74 (ck_S_stays qh132) ⟨Nat.le_of_ble_eq_true rfl, Nat.le_of_ble_eq_true rfl⟩ ⟨(by first | omega | (dsimp only [room_1]; omega)), (by first | omega | (dsimp only [room_1]; omega)), (by first | omega | (dsimp only [room_1]; omega)), (by first | omega | (dsimp only [room_1]; omega))⟩ rfl rfl (Nat.le_of_ble_eq_true rfl) dd_law_554 (fun H locs hR hS => ?_)
          refine ss_aload_n hx hb dd_law_557 rfl (lv_at hl 2 rfl) ?_
          refine lv_aload_n hx hb dd_law_558 rfl (lv_at hl 0 rfl) ?_
          refine lv_iload_n hx hb dd_law_559 rfl (lv_at hl 3 rfl) ?_
          refine lv_iconst (v := 1) hx hb dd_law_560 (by decide) ?_
          refine lv_iadd hx hb dd_law_561 ?_
          obtain ⟨v133, qv133, hm⟩ := ss_bind hm
          refine ss_sld hx hb hX hbl hbA hS qv133 dd_law_562 ?_
          obtain ⟨v134, h135, qh135, hm⟩ := ss_bind2 hm
          refine ss_cV (142 + 15 * kk) (7632 + 433 * kk) (As := [.int v133]) hC hK hR hS hl.1 (cc_M_stays l G N _ _ _ _ _ qh135) km_law_77 (ck_M_stays qh135) ⟨Nat.le_of_ble_eq_true rfl, Nat.le_of_ble_eq_true rfl⟩ ⟨(by first | omega | (dsimp only [room_1]; omega)), (by first | omega | (dsimp only [room_1]; omega)), (by first | omega | (dsimp only [room_1]; omega)), (by first | omega | (dsimp only [room_1]; omega))⟩ rfl rfl (Nat.le_of_ble_eq_true rfl) dd_law_563 (fun H locs hR hS => ?_)
          refine lv_icmp_eq (tgt := 1132) hx hb dd_law_566 (by decide) (fun c136 => ?_) (fun c136 => ?_)
          · have hm := ss_ift hm c136
            refine W.widen (k := 142 + 15 * kk + 15) (n := 7632 + 433 * kk + 433) (by omega) (by omega) ?_
            exact J_1132 x3_18 h135 _ _ _ rfl hb6 hm hR hS hl
          · have hm := ss_iff hm c136
            cases hm
        have hm := ss_iff hm c129
        by_cases c137 : v10 = (15 : Int32)
        · have hm := ss_ift hm c137
          refine lv_tableIn (tgt := 571) hx hb dd_law_33 (by rw [c137]; decide) (by rw [c137]; decide) (by rw [c137]; rfl) (by decide) ?_
          refine ss_aload_n hx hb dd_law_571 rfl (lv_at hl 1 rfl) ?_
          refine lv_aload_n hx hb dd_law_572 rfl (lv_at hl 0 rfl) ?_
          refine lv_iload_n hx hb dd_law_573 rfl (lv_at hl 3 rfl) ?_
          refine lv_iconst (v := 1) hx hb dd_law_574 (by decide) ?_
          refine lv_iadd hx hb dd_law_575 ?_
          obtain ⟨v138, qv138, hm⟩ := ss_bind hm
          refine ss_sld hx hb hX hbl hbA hS qv138 dd_law_576 ?_
          obtain ⟨v139, h140, qh140, hm⟩ := ss_bind2 hm
          refine ss_cV (142 + 15 * kk) (7632 + 433 * kk) (As := [.int v138]) hC hK hR hS hl.1 (cc_S_closes l G N _ _ _ _ _ qh140) km_law_78 (ck_S_closes qh140) ⟨Nat.le_of_ble_eq_true rfl, Nat.le_of_ble_eq_true rfl⟩ ⟨(by first | omega | (dsimp only [room_1]; omega)), (by first | omega | (dsimp only [room_1]; omega)), (by first | omega | (dsimp only [room_1]; omega)), (by first | omega | (dsimp only [room_1]; omega))⟩ rfl rfl (Nat.le_of_ble_eq_true rfl) dd_law_577 (fun H locs hR hS => ?_)
          refine ss_aload_n hx hb dd_law_580 rfl (lv_at hl 2 rfl) ?_
          refine lv_aload_n hx hb dd_law_581 rfl (lv_at hl 0 rfl) ?_
          refine lv_iload_n hx hb dd_law_582 rfl (lv_at hl 3 rfl) ?_
          refine lv_iconst (v := 1) hx hb dd_law_583 (by decide) ?_
          refine lv_iadd hx hb dd_law_584 ?_
          obtain ⟨v141, qv141, hm⟩ := ss_bind hm
          refine ss_sld hx hb hX hbl hbA hS qv141 dd_law_585 ?_
          obtain ⟨v142, h143, qh143, hm⟩ := ss_bind2 hm
          refine ss_cV (142 + 15 * kk) (7632 + 433 * kk) (As := [.int v141]) hC hK hR hS hl.1 (cc_M_closes1 l G N _ _ _ _ _ qh143) km_law_81 (ck_M_closes1 qh143) ⟨Nat.le_of_ble_eq_true rfl, Nat.le_of_ble_eq_true rfl⟩ ⟨(by first | omega | (dsimp only [room_1]; omega)), (by first | omega | (dsimp only [room_1]; omega)), (by first | omega | (dsimp only [room_1]; omega)), (by first | omega | (dsimp only [room_1]; omega))⟩ rfl rfl (Nat.le_of_ble_eq_true rfl) dd_law_586 (fun H locs hR hS => ?_)
          refine lv_icmp_eq (tgt := 1132) hx hb dd_law_589 (by decide) (fun c144 => ?_) (fun c144 => ?_)
          · have hm := ss_ift hm c144
            refine W.widen (k := 142 + 15 * kk + 15) (n := 7632 + 433 * kk + 433) (by omega) (by omega) ?_
            exact J_1132 x3_18 h143 _ _ _ rfl hb6 hm hR hS hl
          · have hm := ss_iff hm c144
            cases hm
        have hm := ss_iff hm c137
        by_cases c145 : v10 = (16 : Int32)
        · have hm := ss_ift hm c145
          refine lv_tableIn (tgt := 594) hx hb dd_law_33 (by rw [c145]; decide) (by rw [c145]; decide) (by rw [c145]; rfl) (by decide) ?_
          refine ss_aload_n hx hb dd_law_594 rfl (lv_at hl 1 rfl) ?_
          refine lv_aload_n hx hb dd_law_595 rfl (lv_at hl 0 rfl) ?_
          refine lv_iload_n hx hb dd_law_596 rfl (lv_at hl 3 rfl) ?_
          refine lv_iconst (v := 1) hx hb dd_law_597 (by decide) ?_
          refine lv_iadd hx hb dd_law_598 ?_
          obtain ⟨v146, qv146, hm⟩ := ss_bind hm
          refine ss_sld hx hb hX hbl hbA hS qv146 dd_law_599 ?_
          obtain ⟨v147, h148, qh148, hm⟩ := ss_bind2 hm
          refine ss_cV (142 + 15 * kk) (7632 + 433 * kk) (As := [.int v146]) hC hK hR hS hl.1 (cc_S_ring l G N _ _ _ _ _ qh148) km_law_82 (ck_S_ring qh148) ⟨Nat.le_of_ble_eq_true rfl, Nat.le_of_ble_eq_true rfl⟩ ⟨(by first | omega | (dsimp only [room_1]; omega)), (by first | omega | (dsimp only [room_1]; omega)), (by first | omega | (dsimp only [room_1]; omega)), (by first | omega | (dsimp only [room_1]; omega))⟩ rfl rfl (Nat.le_of_ble_eq_true rfl) dd_law_600 (fun H locs hR hS => ?_)
          refine ss_aload_n hx hb dd_law_603 rfl (lv_at hl 2 rfl) ?_
          refine lv_aload_n hx hb dd_law_604 rfl (lv_at hl 0 rfl) ?_
          refine lv_iload_n hx hb dd_law_605 rfl (lv_at hl 3 rfl) ?_
          refine lv_iconst (v := 1) hx hb dd_law_606 (by decide) ?_
          refine lv_iadd hx hb dd_law_607 ?_
          obtain ⟨v149, qv149, hm⟩ := ss_bind hm
          refine ss_sld hx hb hX hbl hbA hS qv149 dd_law_608 ?_
          obtain ⟨v150, h151, qh151, hm⟩ := ss_bind2 hm
          refine ss_cV (142 + 15 * kk) (7632 + 433 * kk) (As := [.int v149]) hC hK hR hS hl.1 (cc_M_ring l G N _ _ _ _ _ qh151) km_law_85 (ck_M_ring qh151) ⟨Nat.le_of_ble_eq_true rfl, Nat.le_of_ble_eq_true rfl⟩ ⟨(by first | omega | (dsimp only [room_1]; omega)), (by first | omega | (dsimp only [room_1]; omega)), (by first | omega | (dsimp only [room_1]; omega)), (by first | omega | (dsimp only [room_1]; omega))⟩ rfl rfl (Nat.le_of_ble_eq_true rfl) dd_law_609 (fun H locs hR hS => ?_)
          refine lv_icmp_eq (tgt := 1132) hx hb dd_law_612 (by decide) (fun c152 => ?_) (fun c152 => ?_)
          · have hm := ss_ift hm c152
            refine W.widen (k := 142 + 15 * kk + 15) (n := 7632 + 433 * kk + 433) (by omega) (by omega) ?_
            exact J_1132 x3_18 h151 _ _ _ rfl hb6 hm hR hS hl
          · have hm := ss_iff hm c152
            cases hm
        have hm := ss_iff hm c145
        by_cases c153 : v10 = (17 : Int32)
        · have hm := ss_ift hm c153
          refine lv_tableIn (tgt := 617) hx hb dd_law_33 (by rw [c153]; decide) (by rw [c153]; decide) (by rw [c153]; rfl) (by decide) ?_
          refine ss_aload_n hx hb dd_law_617 rfl (lv_at hl 1 rfl) ?_
          refine lv_aload_n hx hb dd_law_618 rfl (lv_at hl 0 rfl) ?_
          refine lv_iload_n hx hb dd_law_619 rfl (lv_at hl 3 rfl) ?_
          refine lv_iconst (v := 1) hx hb dd_law_620 (by decide) ?_
          refine lv_iadd hx hb dd_law_621 ?_
          obtain ⟨v154, qv154, hm⟩ := ss_bind hm
          refine ss_sld hx hb hX hbl hbA hS qv154 dd_law_622 ?_
          refine lv_aload_n hx hb dd_law_623 rfl (lv_at hl 0 rfl) ?_
          refine lv_iload_n hx hb dd_law_624 rfl (lv_at hl 3 rfl) ?_
          refine lv_iconst (v := 2) hx hb dd_law_625 (by decide) ?_
          refine lv_iadd hx hb dd_law_626 ?_
          obtain ⟨v155, qv155, hm⟩ := ss_bind hm
          refine ss_sld hx hb hX hbl hbA hS qv155 dd_law_627 ?_
          refine lv_aload_n hx hb dd_law_628 rfl (lv_at hl 0 rfl) ?_
          refine lv_iload_n hx hb dd_law_629 rfl (lv_at hl 3 rfl) ?_
          refine lv_iconst (v := 3) hx hb dd_law_630 (by decide) ?_
          refine lv_iadd hx hb dd_law_631 ?_
          obtain ⟨v156, qv156, hm⟩ := ss_bind hm
          refine ss_sld hx hb hX hbl hbA hS qv156 dd_law_632 ?_
          obtain ⟨v157, qv157, hm⟩ := ss_bind hm
          refine ss_cV (142 + 15 * kk) (7632 + 433 * kk) (As := [.int v154, .int v155, .int v156]) hC hK hR hS hl.1 (cc_S_spare l G N _ _ _ _ _ _ qv157) km_law_86 (ck_S_spare qv157) ⟨Nat.le_of_ble_eq_true rfl, Nat.le_of_ble_eq_true rfl⟩ ⟨(by first | omega | (dsimp only [room_1]; omega)), (by first | omega | (dsimp only [room_1]; omega)), (by first | omega | (dsimp only [room_1]; omega)), (by first | omega | (dsimp only [room_1]; omega))⟩ rfl rfl (Nat.le_of_ble_eq_true rfl) dd_law_633 (fun H locs hR hS => ?_)
          refine ss_aload_n hx hb dd_law_636 rfl (lv_at hl 2 rfl) ?_
          refine lv_aload_n hx hb dd_law_637 rfl (lv_at hl 0 rfl) ?_
          refine lv_iload_n hx hb dd_law_638 rfl (lv_at hl 3 rfl) ?_
          refine lv_iconst (v := 1) hx hb dd_law_639 (by decide) ?_
          refine lv_iadd hx hb dd_law_640 ?_
          obtain ⟨v158, qv158, hm⟩ := ss_bind hm
          refine ss_sld hx hb hX hbl hbA hS qv158 dd_law_641 ?_
          refine lv_aload_n hx hb dd_law_642 rfl (lv_at hl 0 rfl) ?_
          refine lv_iload_n hx hb dd_law_643 rfl (lv_at hl 3 rfl) ?_
          refine lv_iconst (v := 2) hx hb dd_law_644 (by decide) ?_
          refine lv_iadd hx hb dd_law_645 ?_
          obtain ⟨v159, qv159, hm⟩ := ss_bind hm
          refine ss_sld hx hb hX hbl hbA hS qv159 dd_law_646 ?_
          refine lv_aload_n hx hb dd_law_647 rfl (lv_at hl 0 rfl) ?_
          refine lv_iload_n hx hb dd_law_648 rfl (lv_at hl 3 rfl) ?_
          refine lv_iconst (v := 3) hx hb dd_law_649 (by decide) ?_
          refine lv_iadd hx hb dd_law_650 ?_
          obtain ⟨v160, qv160, hm⟩ := ss_bind hm
          refine ss_sld hx hb hX hbl hbA hS qv160 dd_law_651 ?_
          obtain ⟨v161, qv161, hm⟩ := ss_bind hm
          refine ss_cV (142 + 15 * kk) (7632 + 433 * kk) (As := [.int v158, .int v159, .int v160]) hC hK hR hS hl.1 (cc_M_spare l G N _ _ _ _ _ _ qv161) km_law_89 (ck_M_spare qv161) ⟨Nat.le_of_ble_eq_true rfl, Nat.le_of_ble_eq_true rfl⟩ ⟨(by first | omega | (dsimp only [room_1]; omega)), (by first | omega | (dsimp only [room_1]; omega)), (by first | omega | (dsimp only [room_1]; omega)), (by first | omega | (dsimp only [room_1]; omega))⟩ rfl rfl (Nat.le_of_ble_eq_true rfl) dd_law_652 (fun H locs hR hS => ?_)
          refine lv_icmp_eq (tgt := 1132) hx hb dd_law_655 (by decide) (fun c162 => ?_) (fun c162 => ?_)
          · have hm := ss_ift hm c162
            refine W.widen (k := 142 + 15 * kk + 15) (n := 7632 + 433 * kk + 433) (by omega) (by omega) ?_
            exact J_1132 x3_18 h_18 _ _ _ rfl hb6 hm hR hS hl
          · have hm := ss_iff hm c162
            cases hm
        have hm := ss_iff hm c153
        by_cases c163 : v10 = (18 : Int32)
        · have hm := ss_ift hm c163
          refine lv_tableIn (tgt := 660) hx hb dd_law_33 (by rw [c163]; decide) (by rw [c163]; decide) (by rw [c163]; rfl) (by decide) ?_
          refine ss_aload_n hx hb dd_law_660 rfl (lv_at hl 1 rfl) ?_
          refine lv_aload_n hx hb dd_law_661 rfl (lv_at hl 0 rfl) ?_
          refine lv_iload_n hx hb dd_law_662 rfl (lv_at hl 3 rfl) ?_
          refine lv_iconst (v := 1) hx hb dd_law_663 (by decide) ?_
          refine lv_iadd hx hb dd_law_664 ?_
          obtain ⟨v164, qv164, hm⟩ := ss_bind hm
          refine ss_sld hx hb hX hbl hbA hS qv164 dd_law_665 ?_
          refine lv_aload_n hx hb dd_law_666 rfl (lv_at hl 0 rfl) ?_
          refine lv_iload_n hx hb dd_law_667 rfl (lv_at hl 3 rfl) ?_
          refine lv_iconst (v := 2) hx hb dd_law_668 (by decide) ?_
          refine lv_iadd hx hb dd_law_669 ?_
          obtain ⟨v165, qv165, hm⟩ := ss_bind hm
          refine ss_sld hx hb hX hbl hbA hS qv165 dd_law_670 ?_
          obtain ⟨v166, h167, qh167, hm⟩ := ss_bind2 hm
          refine ss_cV (142 + 15 * kk) (7632 + 433 * kk) (As := [.int v164, .int v165]) hC hK hR hS hl.1 (cc_S_figure l G N _ _ _ _ _ _ qh167) km_law_90 (ck_S_figure qh167) ⟨Nat.le_of_ble_eq_true rfl, Nat.le_of_ble_eq_true rfl⟩ ⟨(by first | omega | (dsimp only [room_1]; omega)), (by first | omega | (dsimp only [room_1]; omega)), (by first | omega | (dsimp only [room_1]; omega)), (by first | omega | (dsimp only [room_1]; omega))⟩ rfl rfl (Nat.le_of_ble_eq_true rfl) dd_law_671 (fun H locs hR hS => ?_)
          refine ss_aload_n hx hb dd_law_674 rfl (lv_at hl 2 rfl) ?_
          refine lv_aload_n hx hb dd_law_675 rfl (lv_at hl 0 rfl) ?_
          refine lv_iload_n hx hb dd_law_676 rfl (lv_at hl 3 rfl) ?_
          refine lv_iconst (v := 1) hx hb dd_law_677 (by decide) ?_
          refine lv_iadd hx hb dd_law_678 ?_
          obtain ⟨v168, qv168, hm⟩ := ss_bind hm
          refine ss_sld hx hb hX hbl hbA hS qv168 dd_law_679 ?_
          refine lv_aload_n hx hb dd_law_680 rfl (lv_at hl 0 rfl) ?_
          refine lv_iload_n hx hb dd_law_681 rfl (lv_at hl 3 rfl) ?_
          refine lv_iconst (v := 2) hx hb dd_law_682 (by decide) ?_
          refine lv_iadd hx hb dd_law_683 ?_
          obtain ⟨v169, qv169, hm⟩ := ss_bind hm
          refine ss_sld hx hb hX hbl hbA hS qv169 dd_law_684 ?_
          obtain ⟨v170, qv170, hm⟩ := ss_bind hm
          refine ss_cV (142 + 15 * kk) (7632 + 433 * kk) (As := [.int v168, .int v169]) hC hK hR hS hl.1 (cc_M_figure l G N _ _ _ _ _ qv170) km_law_93 (ck_M_figure qv170) ⟨Nat.le_of_ble_eq_true rfl, Nat.le_of_ble_eq_true rfl⟩ ⟨(by first | omega | (dsimp only [room_1]; omega)), (by first | omega | (dsimp only [room_1]; omega)), (by first | omega | (dsimp only [room_1]; omega)), (by first | omega | (dsimp only [room_1]; omega))⟩ rfl rfl (Nat.le_of_ble_eq_true rfl) dd_law_685 (fun H locs hR hS => ?_)
          refine lv_icmp_eq (tgt := 1132) hx hb dd_law_688 (by decide) (fun c171 => ?_) (fun c171 => ?_)
          · have hm := ss_ift hm c171
            refine W.widen (k := 142 + 15 * kk + 15) (n := 7632 + 433 * kk + 433) (by omega) (by omega) ?_
            exact J_1132 x3_18 h167 _ _ _ rfl hb6 hm hR hS hl
          · have hm := ss_iff hm c171
            cases hm
        have hm := ss_iff hm c163
        by_cases c172 : v10 = (19 : Int32)
        · have hm := ss_ift hm c172
          refine lv_tableIn (tgt := 693) hx hb dd_law_33 (by rw [c172]; decide) (by rw [c172]; decide) (by rw [c172]; rfl) (by decide) ?_
          refine ss_aload_n hx hb dd_law_693 rfl (lv_at hl 1 rfl) ?_
          refine lv_aload_n hx hb dd_law_694 rfl (lv_at hl 0 rfl) ?_
          refine lv_iload_n hx hb dd_law_695 rfl (lv_at hl 3 rfl) ?_
          refine lv_iconst (v := 1) hx hb dd_law_696 (by decide) ?_
          refine lv_iadd hx hb dd_law_697 ?_
          obtain ⟨v173, qv173, hm⟩ := ss_bind hm
          refine ss_sld hx hb hX hbl hbA hS qv173 dd_law_698 ?_
          refine lv_aload_n hx hb dd_law_699 rfl (lv_at hl 0 rfl) ?_
          refine lv_iload_n hx hb dd_law_700 rfl (lv_at hl 3 rfl) ?_
          refine lv_iconst (v := 2) hx hb dd_law_701 (by decide) ?_
          refine lv_iadd hx hb dd_law_702 ?_
          obtain ⟨v174, qv174, hm⟩ := ss_bind hm
          refine ss_sld hx hb hX hbl hbA hS qv174 dd_law_703 ?_
          refine lv_aload_n hx hb dd_law_704 rfl (lv_at hl 0 rfl) ?_
          refine lv_iload_n hx hb dd_law_705 rfl (lv_at hl 3 rfl) ?_
          refine lv_iconst (v := 3) hx hb dd_law_706 (by decide) ?_
          refine lv_iadd hx hb dd_law_707 ?_
          obtain ⟨v175, qv175, hm⟩ := ss_bind hm
          refine ss_sld hx hb hX hbl hbA hS qv175 dd_law_708 ?_
          obtain ⟨v176, h177, qh177, hm⟩ := ss_bind2 hm
          refine ss_cV (142 + 15 * kk) (7632 + 433 * kk) (As := [.int v173, .int v174, .int v175]) hC hK hR hS hl.1 (cc_S_way l G N _ _ _ _ _ _ _ qh177) km_law_94 (ck_S_way qh177) ⟨Nat.le_of_ble_eq_true rfl, Nat.le_of_ble_eq_true rfl⟩ ⟨(by first | omega | (dsimp only [room_1]; omega)), (by first | omega | (dsimp only [room_1]; omega)), (by first | omega | (dsimp only [room_1]; omega)), (by first | omega | (dsimp only [room_1]; omega))⟩ rfl rfl (Nat.le_of_ble_eq_true rfl) dd_law_709 (fun H locs hR hS => ?_)
          refine ss_aload_n hx hb dd_law_712 rfl (lv_at hl 2 rfl) ?_
          refine lv_aload_n hx hb dd_law_713 rfl (lv_at hl 0 rfl) ?_
          refine lv_iload_n hx hb dd_law_714 rfl (lv_at hl 3 rfl) ?_
          refine lv_iconst (v := 1) hx hb dd_law_715 (by decide) ?_
          refine lv_iadd hx hb dd_law_716 ?_
          obtain ⟨v178, qv178, hm⟩ := ss_bind hm
          refine ss_sld hx hb hX hbl hbA hS qv178 dd_law_717 ?_
          refine lv_aload_n hx hb dd_law_718 rfl (lv_at hl 0 rfl) ?_
          refine lv_iload_n hx hb dd_law_719 rfl (lv_at hl 3 rfl) ?_
          refine lv_iconst (v := 2) hx hb dd_law_720 (by decide) ?_
          refine lv_iadd hx hb dd_law_721 ?_
          obtain ⟨v179, qv179, hm⟩ := ss_bind hm
          refine ss_sld hx hb hX hbl hbA hS qv179 dd_law_722 ?_
          refine lv_aload_n hx hb dd_law_723 rfl (lv_at hl 0 rfl) ?_
          refine lv_iload_n hx hb dd_law_724 rfl (lv_at hl 3 rfl) ?_
          refine lv_iconst (v := 3) hx hb dd_law_725 (by decide) ?_
          refine lv_iadd hx hb dd_law_726 ?_
          obtain ⟨v180, qv180, hm⟩ := ss_bind hm
          refine ss_sld hx hb hX hbl hbA hS qv180 dd_law_727 ?_
          obtain ⟨v181, h182, qh182, hm⟩ := ss_bind2 hm
          refine ss_cV (142 + 15 * kk) (7632 + 433 * kk) (As := [.int v178, .int v179, .int v180]) hC hK hR hS hl.1 (cc_M_way l G N _ _ _ _ _ _ _ qh182) km_law_97 (ck_M_way qh182) ⟨Nat.le_of_ble_eq_true rfl, Nat.le_of_ble_eq_true rfl⟩ ⟨(by first | omega | (dsimp only [room_1]; omega)), (by first | omega | (dsimp only [room_1]; omega)), (by first | omega | (dsimp only [room_1]; omega)), (by first | omega | (dsimp only [room_1]; omega))⟩ rfl rfl (Nat.le_of_ble_eq_true rfl) dd_law_728 (fun H locs hR hS => ?_)
          refine lv_icmp_eq (tgt := 1132) hx hb dd_law_731 (by decide) (fun c183 => ?_) (fun c183 => ?_)
          · have hm := ss_ift hm c183
            refine W.widen (k := 142 + 15 * kk + 15) (n := 7632 + 433 * kk + 433) (by omega) (by omega) ?_
            exact J_1132 x3_18 h182 _ _ _ rfl hb6 hm hR hS hl
          · have hm := ss_iff hm c183
            cases hm
        have hm := ss_iff hm c172
        by_cases c184 : v10 = (20 : Int32)
        · have hm := ss_ift hm c184
          refine lv_tableIn (tgt := 736) hx hb dd_law_33 (by rw [c184]; decide) (by rw [c184]; decide) (by rw [c184]; rfl) (by decide) ?_
          refine ss_aload_n hx hb dd_law_736 rfl (lv_at hl 1 rfl) ?_
          refine lv_aload_n hx hb dd_law_737 rfl (lv_at hl 0 rfl) ?_
          refine lv_iload_n hx hb dd_law_738 rfl (lv_at hl 3 rfl) ?_
          refine lv_iconst (v := 1) hx hb dd_law_739 (by decide) ?_
          refine lv_iadd hx hb dd_law_740 ?_
          obtain ⟨v185, qv185, hm⟩ := ss_bind hm
          refine ss_sld hx hb hX hbl hbA hS qv185 dd_law_741 ?_
          refine lv_aload_n hx hb dd_law_742 rfl (lv_at hl 0 rfl) ?_
          refine lv_iload_n hx hb dd_law_743 rfl (lv_at hl 3 rfl) ?_
          refine lv_iconst (v := 2) hx hb dd_law_744 (by decide) ?_
          refine lv_iadd hx hb dd_law_745 ?_
          obtain ⟨v186, qv186, hm⟩ := ss_bind hm
          refine ss_sld hx hb hX hbl hbA hS qv186 dd_law_746 ?_
          obtain ⟨v187, h188, qh188, hm⟩ := ss_bind2 hm
          refine ss_cV (142 + 15 * kk) (7632 + 433 * kk) (As := [.int v185, .int v186]) hC hK hR hS hl.1 (cc_S_pacts l G N _ _ _ _ _ _ qh188) km_law_98 (ck_S_pacts qh188) ⟨Nat.le_of_ble_eq_true rfl, Nat.le_of_ble_eq_true rfl⟩ ⟨(by first | omega | (dsimp only [room_1]; omega)), (by first | omega | (dsimp only [room_1]; omega)), (by first | omega | (dsimp only [room_1]; omega)), (by first | omega | (dsimp only [room_1]; omega))⟩ rfl rfl (Nat.le_of_ble_eq_true rfl) dd_law_747 (fun H locs hR hS => ?_)
          refine ss_aload_n hx hb dd_law_750 rfl (lv_at hl 2 rfl) ?_
          refine lv_aload_n hx hb dd_law_751 rfl (lv_at hl 0 rfl) ?_
          refine lv_iload_n hx hb dd_law_752 rfl (lv_at hl 3 rfl) ?_
          refine lv_iconst (v := 1) hx hb dd_law_753 (by decide) ?_
          refine lv_iadd hx hb dd_law_754 ?_
          obtain ⟨v189, qv189, hm⟩ := ss_bind hm
          refine ss_sld hx hb hX hbl hbA hS qv189 dd_law_755 ?_
          refine lv_aload_n hx hb dd_law_756 rfl (lv_at hl 0 rfl) ?_
          refine lv_iload_n hx hb dd_law_757 rfl (lv_at hl 3 rfl) ?_
          refine lv_iconst (v := 2) hx hb dd_law_758 (by decide) ?_
          refine lv_iadd hx hb dd_law_759 ?_
          obtain ⟨v190, qv190, hm⟩ := ss_bind hm
          refine ss_sld hx hb hX hbl hbA hS qv190 dd_law_760 ?_
          obtain ⟨v191, h192, qh192, hm⟩ := ss_bind2 hm
          refine ss_cV (142 + 15 * kk) (7632 + 433 * kk) (As := [.int v189, .int v190]) hC hK hR hS hl.1 (cc_M_pacts l G N _ _ _ _ _ _ qh192) km_law_101 (ck_M_pacts qh192) ⟨Nat.le_of_ble_eq_true rfl, Nat.le_of_ble_eq_true rfl⟩ ⟨(by first | omega | (dsimp only [room_1]; omega)), (by first | omega | (dsimp only [room_1]; omega)), (by first | omega | (dsimp only [room_1]; omega)), (by first | omega | (dsimp only [room_1]; omega))⟩ rfl rfl (Nat.le_of_ble_eq_true rfl) dd_law_761 (fun H locs hR hS => ?_)
          refine lv_icmp_eq (tgt := 1132) hx hb dd_law_764 (by decide) (fun c193 => ?_) (fun c193 => ?_)
          · have hm := ss_ift hm c193
            refine W.widen (k := 142 + 15 * kk + 15) (n := 7632 + 433 * kk + 433) (by omega) (by omega) ?_
            exact J_1132 x3_18 h192 _ _ _ rfl hb6 hm hR hS hl
          · have hm := ss_iff hm c193
            cases hm
        have hm := ss_iff hm c184
        by_cases c194 : v10 = (21 : Int32)
        · have hm := ss_ift hm c194
          refine lv_tableIn (tgt := 769) hx hb dd_law_33 (by rw [c194]; decide) (by rw [c194]; decide) (by rw [c194]; rfl) (by decide) ?_
          refine ss_aload_n hx hb dd_law_769 rfl (lv_at hl 1 rfl) ?_
          refine lv_aload_n hx hb dd_law_770 rfl (lv_at hl 0 rfl) ?_
          refine lv_iload_n hx hb dd_law_771 rfl (lv_at hl 3 rfl) ?_
          refine lv_iconst (v := 1) hx hb dd_law_772 (by decide) ?_
          refine lv_iadd hx hb dd_law_773 ?_
          obtain ⟨v195, qv195, hm⟩ := ss_bind hm
          refine ss_sld hx hb hX hbl hbA hS qv195 dd_law_774 ?_
          refine lv_aload_n hx hb dd_law_775 rfl (lv_at hl 0 rfl) ?_
          refine lv_iload_n hx hb dd_law_776 rfl (lv_at hl 3 rfl) ?_
          refine lv_iconst (v := 2) hx hb dd_law_777 (by decide) ?_
          refine lv_iadd hx hb dd_law_778 ?_
          obtain ⟨v196, qv196, hm⟩ := ss_bind hm
          refine ss_sld hx hb hX hbl hbA hS qv196 dd_law_779 ?_
          refine lv_aload_n hx hb dd_law_780 rfl (lv_at hl 0 rfl) ?_
          refine lv_iload_n hx hb dd_law_781 rfl (lv_at hl 3 rfl) ?_
          refine lv_iconst (v := 3) hx hb dd_law_782 (by decide) ?_
          refine lv_iadd hx hb dd_law_783 ?_
          obtain ⟨v197, qv197, hm⟩ := ss_bind hm
          refine ss_sld hx hb hX hbl hbA hS qv197 dd_law_784 ?_
          obtain ⟨v198, h199, qh199, hm⟩ := ss_bind2 hm
          refine ss_cV (142 + 15 * kk) (7632 + 433 * kk) (As := [.int v195, .int v196, .int v197]) hC hK hR hS hl.1 (cc_S_thrownOn l G N _ _ _ _ _ _ _ qh199) km_law_102 (ck_S_thrownOn qh199) ⟨Nat.le_of_ble_eq_true rfl, Nat.le_of_ble_eq_true rfl⟩ ⟨(by first | omega | (dsimp only [room_1]; omega)), (by first | omega | (dsimp only [room_1]; omega)), (by first | omega | (dsimp only [room_1]; omega)), (by first | omega | (dsimp only [room_1]; omega))⟩ rfl rfl (Nat.le_of_ble_eq_true rfl) dd_law_785 (fun H locs hR hS => ?_)
          refine ss_aload_n hx hb dd_law_788 rfl (lv_at hl 2 rfl) ?_
          refine lv_aload_n hx hb dd_law_789 rfl (lv_at hl 0 rfl) ?_
          refine lv_iload_n hx hb dd_law_790 rfl (lv_at hl 3 rfl) ?_
          refine lv_iconst (v := 1) hx hb dd_law_791 (by decide) ?_
          refine lv_iadd hx hb dd_law_792 ?_
          obtain ⟨v200, qv200, hm⟩ := ss_bind hm
          refine ss_sld hx hb hX hbl hbA hS qv200 dd_law_793 ?_
          refine lv_aload_n hx hb dd_law_794 rfl (lv_at hl 0 rfl) ?_
          refine lv_iload_n hx hb dd_law_795 rfl (lv_at hl 3 rfl) ?_
          refine lv_iconst (v := 2) hx hb dd_law_796 (by decide) ?_
          refine lv_iadd hx hb dd_law_797 ?_
          obtain ⟨v201, qv201, hm⟩ := ss_bind hm
          refine ss_sld hx hb hX hbl hbA hS qv201 dd_law_798 ?_
          refine lv_aload_n hx hb dd_law_799 rfl (lv_at hl 0 rfl) ?_
          refine lv_iload_n hx hb dd_law_800 rfl (lv_at hl 3 rfl) ?_
          refine lv_iconst (v := 3) hx hb dd_law_801 (by decide) ?_
          refine lv_iadd hx hb dd_law_802 ?_
          obtain ⟨v202, qv202, hm⟩ := ss_bind hm
          refine ss_sld hx hb hX hbl hbA hS qv202 dd_law_803 ?_
          obtain ⟨v203, h204, qh204, hm⟩ := ss_bind2 hm
          refine ss_cV (142 + 15 * kk) (7632 + 433 * kk) (As := [.int v200, .int v201, .int v202]) hC hK hR hS hl.1 (cc_M_thrownOn l G N _ _ _ _ _ _ _ qh204) km_law_105 (ck_M_thrownOn qh204) ⟨Nat.le_of_ble_eq_true rfl, Nat.le_of_ble_eq_true rfl⟩ ⟨(by first | omega | (dsimp only [room_1]; omega)), (by first | omega | (dsimp only [room_1]; omega)), (by first | omega | (dsimp only [room_1]; omega)), (by first | omega | (dsimp only [room_1]; omega))⟩ rfl rfl (Nat.le_of_ble_eq_true rfl) dd_law_804 (fun H locs hR hS => ?_)
          refine lv_icmp_eq (tgt := 1132) hx hb dd_law_807 (by decide) (fun c205 => ?_) (fun c205 => ?_)
          · have hm := ss_ift hm c205
            refine W.widen (k := 142 + 15 * kk + 15) (n := 7632 + 433 * kk + 433) (by omega) (by omega) ?_
            exact J_1132 x3_18 h204 _ _ _ rfl hb6 hm hR hS hl
          · have hm := ss_iff hm c205
            cases hm
        have hm := ss_iff hm c194
        by_cases c206 : v10 = (22 : Int32)
        · have hm := ss_ift hm c206
          refine lv_tableIn (tgt := 812) hx hb dd_law_33 (by rw [c206]; decide) (by rw [c206]; decide) (by rw [c206]; rfl) (by decide) ?_
          refine ss_aload_n hx hb dd_law_812 rfl (lv_at hl 1 rfl) ?_
          refine lv_aload_n hx hb dd_law_813 rfl (lv_at hl 0 rfl) ?_
          refine lv_iload_n hx hb dd_law_814 rfl (lv_at hl 3 rfl) ?_
          refine lv_iconst (v := 1) hx hb dd_law_815 (by decide) ?_
          refine lv_iadd hx hb dd_law_816 ?_
          obtain ⟨v207, qv207, hm⟩ := ss_bind hm
          refine ss_sld hx hb hX hbl hbA hS qv207 dd_law_817 ?_
          refine lv_aload_n hx hb dd_law_818 rfl (lv_at hl 0 rfl) ?_
          refine lv_iload_n hx hb dd_law_819 rfl (lv_at hl 3 rfl) ?_
          refine lv_iconst (v := 2) hx hb dd_law_820 (by decide) ?_
          refine lv_iadd hx hb dd_law_821 ?_
          obtain ⟨v208, qv208, hm⟩ := ss_bind hm
          refine ss_sld hx hb hX hbl hbA hS qv208 dd_law_822 ?_
          refine lv_aload_n hx hb dd_law_823 rfl (lv_at hl 0 rfl) ?_
          refine lv_iload_n hx hb dd_law_824 rfl (lv_at hl 3 rfl) ?_
          refine lv_iconst (v := 3) hx hb dd_law_825 (by decide) ?_
          refine lv_iadd hx hb dd_law_826 ?_
          obtain ⟨v209, qv209, hm⟩ := ss_bind hm
          refine ss_sld hx hb hX hbl hbA hS qv209 dd_law_827 ?_
          obtain ⟨v210, h211, qh211, hm⟩ := ss_bind2 hm
          refine ss_cV (142 + 15 * kk) (7632 + 433 * kk) (As := [.int v207, .int v208, .int v209]) hC hK hR hS hl.1 (cc_S_best l G N _ _ _ _ _ _ _ qh211) km_law_106 (ck_S_best qh211) ⟨Nat.le_of_ble_eq_true rfl, Nat.le_of_ble_eq_true rfl⟩ ⟨(by first | omega | (dsimp only [room_1]; omega)), (by first | omega | (dsimp only [room_1]; omega)), (by first | omega | (dsimp only [room_1]; omega)), (by first | omega | (dsimp only [room_1]; omega))⟩ rfl rfl (Nat.le_of_ble_eq_true rfl) dd_law_828 (fun H locs hR hS => ?_)
          refine ss_aload_n hx hb dd_law_831 rfl (lv_at hl 2 rfl) ?_
          refine lv_aload_n hx hb dd_law_832 rfl (lv_at hl 0 rfl) ?_
          refine lv_iload_n hx hb dd_law_833 rfl (lv_at hl 3 rfl) ?_
          refine lv_iconst (v := 1) hx hb dd_law_834 (by decide) ?_
          refine lv_iadd hx hb dd_law_835 ?_
          obtain ⟨v212, qv212, hm⟩ := ss_bind hm
          refine ss_sld hx hb hX hbl hbA hS qv212 dd_law_836 ?_
          refine lv_aload_n hx hb dd_law_837 rfl (lv_at hl 0 rfl) ?_
          refine lv_iload_n hx hb dd_law_838 rfl (lv_at hl 3 rfl) ?_
          refine lv_iconst (v := 2) hx hb dd_law_839 (by decide) ?_
          refine lv_iadd hx hb dd_law_840 ?_
          obtain ⟨v213, qv213, hm⟩ := ss_bind hm
          refine ss_sld hx hb hX hbl hbA hS qv213 dd_law_841 ?_
          refine lv_aload_n hx hb dd_law_842 rfl (lv_at hl 0 rfl) ?_
          refine lv_iload_n hx hb dd_law_843 rfl (lv_at hl 3 rfl) ?_
          refine lv_iconst (v := 3) hx hb dd_law_844 (by decide) ?_
          refine lv_iadd hx hb dd_law_845 ?_
          obtain ⟨v214, qv214, hm⟩ := ss_bind hm
          refine ss_sld hx hb hX hbl hbA hS qv214 dd_law_846 ?_
          obtain ⟨v215, h216, qh216, hm⟩ := ss_bind2 hm
          refine ss_cV (142 + 15 * kk) (7632 + 433 * kk) (As := [.int v212, .int v213, .int v214]) hC hK hR hS hl.1 (cc_M_best l G N _ _ _ _ _ _ _ qh216) km_law_109 (ck_M_best qh216) ⟨Nat.le_of_ble_eq_true rfl, Nat.le_of_ble_eq_true rfl⟩ ⟨(by first | omega | (dsimp only [room_1]; omega)), (by first | omega | (dsimp only [room_1]; omega)), (by first | omega | (dsimp only [room_1]; omega)), (by first | omega | (dsimp only [room_1]; omega))⟩ rfl rfl (Nat.le_of_ble_eq_true rfl) dd_law_847 (fun H locs hR hS => ?_)
          refine lv_icmp_eq (tgt := 1132) hx hb dd_law_850 (by decide) (fun c217 => ?_) (fun c217 => ?_)
          · have hm := ss_ift hm c217
            refine W.widen (k := 142 + 15 * kk + 15) (n := 7632 + 433 * kk + 433) (by omega) (by omega) ?_
            exact J_1132 x3_18 h216 _ _ _ rfl hb6 hm hR hS hl
          · have hm := ss_iff hm c217
            cases hm
        have hm := ss_iff hm c206
        by_cases c218 : v10 = (23 : Int32)
        · have hm := ss_ift hm c218
          refine lv_tableIn (tgt := 855) hx hb dd_law_33 (by rw [c218]; decide) (by rw [c218]; decide) (by rw [c218]; rfl) (by decide) ?_
          refine ss_aload_n hx hb dd_law_855 rfl (lv_at hl 1 rfl) ?_
          refine lv_aload_n hx hb dd_law_856 rfl (lv_at hl 0 rfl) ?_
          refine lv_iload_n hx hb dd_law_857 rfl (lv_at hl 3 rfl) ?_
          refine lv_iconst (v := 1) hx hb dd_law_858 (by decide) ?_
          refine lv_iadd hx hb dd_law_859 ?_
          obtain ⟨v219, qv219, hm⟩ := ss_bind hm
          refine ss_sld hx hb hX hbl hbA hS qv219 dd_law_860 ?_
          refine lv_aload_n hx hb dd_law_861 rfl (lv_at hl 0 rfl) ?_
          refine lv_iload_n hx hb dd_law_862 rfl (lv_at hl 3 rfl) ?_
          refine lv_iconst (v := 2) hx hb dd_law_863 (by decide) ?_
          refine lv_iadd hx hb dd_law_864 ?_
          obtain ⟨v220, qv220, hm⟩ := ss_bind hm
          refine ss_sld hx hb hX hbl hbA hS qv220 dd_law_865 ?_
          obtain ⟨v221, h222, qh222, hm⟩ := ss_bind2 hm
          refine ss_cV (142 + 15 * kk) (7632 + 433 * kk) (As := [.int v219, .int v220]) hC hK hR hS hl.1 (cc_S_might l G N _ _ _ _ _ _ qh222) km_law_110 (ck_S_might qh222) ⟨Nat.le_of_ble_eq_true rfl, Nat.le_of_ble_eq_true rfl⟩ ⟨(by first | omega | (dsimp only [room_1]; omega)), (by first | omega | (dsimp only [room_1]; omega)), (by first | omega | (dsimp only [room_1]; omega)), (by first | omega | (dsimp only [room_1]; omega))⟩ rfl rfl (Nat.le_of_ble_eq_true rfl) dd_law_866 (fun H locs hR hS => ?_)
          refine ss_aload_n hx hb dd_law_869 rfl (lv_at hl 2 rfl) ?_
          refine lv_aload_n hx hb dd_law_870 rfl (lv_at hl 0 rfl) ?_
          refine lv_iload_n hx hb dd_law_871 rfl (lv_at hl 3 rfl) ?_
          refine lv_iconst (v := 1) hx hb dd_law_872 (by decide) ?_
          refine lv_iadd hx hb dd_law_873 ?_
          obtain ⟨v223, qv223, hm⟩ := ss_bind hm
          refine ss_sld hx hb hX hbl hbA hS qv223 dd_law_874 ?_
          refine lv_aload_n hx hb dd_law_875 rfl (lv_at hl 0 rfl) ?_
          refine lv_iload_n hx hb dd_law_876 rfl (lv_at hl 3 rfl) ?_
          refine lv_iconst (v := 2) hx hb dd_law_877 (by decide) ?_
          refine lv_iadd hx hb dd_law_878 ?_
          obtain ⟨v224, qv224, hm⟩ := ss_bind hm
          refine ss_sld hx hb hX hbl hbA hS qv224 dd_law_879 ?_
          obtain ⟨v225, h226, qh226, hm⟩ := ss_bind2 hm
          refine ss_cV (142 + 15 * kk) (7632 + 433 * kk) (As := [.int v223, .int v224]) hC hK hR hS hl.1 (cc_M_might l G N _ _ _ _ _ _ qh226) km_law_113 (ck_M_might qh226) ⟨Nat.le_of_ble_eq_true rfl, Nat.le_of_ble_eq_true rfl⟩ ⟨(by first | omega | (dsimp only [room_1]; omega)), (by first | omega | (dsimp only [room_1]; omega)), (by first | omega | (dsimp only [room_1]; omega)), (by first | omega | (dsimp only [room_1]; omega))⟩ rfl rfl (Nat.le_of_ble_eq_true rfl) dd_law_880 (fun H locs hR hS => ?_)
          refine lv_icmp_eq (tgt := 1132) hx hb dd_law_883 (by decide) (fun c227 => ?_) (fun c227 => ?_)
          · have hm := ss_ift hm c227
            refine W.widen (k := 142 + 15 * kk + 15) (n := 7632 + 433 * kk + 433) (by omega) (by omega) ?_
            exact J_1132 x3_18 h226 _ _ _ rfl hb6 hm hR hS hl
          · have hm := ss_iff hm c227
            cases hm
        have hm := ss_iff hm c218
        by_cases c228 : v10 = (24 : Int32)
        · have hm := ss_ift hm c228
          refine lv_tableIn (tgt := 888) hx hb dd_law_33 (by rw [c228]; decide) (by rw [c228]; decide) (by rw [c228]; rfl) (by decide) ?_
          refine ss_aload_n hx hb dd_law_888 rfl (lv_at hl 1 rfl) ?_
          refine lv_aload_n hx hb dd_law_889 rfl (lv_at hl 0 rfl) ?_
          refine lv_iload_n hx hb dd_law_890 rfl (lv_at hl 3 rfl) ?_
          refine lv_iconst (v := 1) hx hb dd_law_891 (by decide) ?_
          refine lv_iadd hx hb dd_law_892 ?_
          obtain ⟨v229, qv229, hm⟩ := ss_bind hm
          refine ss_sld hx hb hX hbl hbA hS qv229 dd_law_893 ?_
          refine lv_aload_n hx hb dd_law_894 rfl (lv_at hl 0 rfl) ?_
          refine lv_iload_n hx hb dd_law_895 rfl (lv_at hl 3 rfl) ?_
          refine lv_iconst (v := 2) hx hb dd_law_896 (by decide) ?_
          refine lv_iadd hx hb dd_law_897 ?_
          obtain ⟨v230, qv230, hm⟩ := ss_bind hm
          refine ss_sld hx hb hX hbl hbA hS qv230 dd_law_898 ?_
          refine lv_aload_n hx hb dd_law_899 rfl (lv_at hl 0 rfl) ?_
          refine lv_iload_n hx hb dd_law_900 rfl (lv_at hl 3 rfl) ?_
          refine lv_iconst (v := 3) hx hb dd_law_901 (by decide) ?_
          refine lv_iadd hx hb dd_law_902 ?_
          obtain ⟨v231, qv231, hm⟩ := ss_bind hm
          refine ss_sld hx hb hX hbl hbA hS qv231 dd_law_903 ?_
          obtain ⟨v232, h233, qh233, hm⟩ := ss_bind2 hm
          refine ss_cV (142 + 15 * kk) (7632 + 433 * kk) (As := [.int v229, .int v230, .int v231]) hC hK hR hS hl.1 (cc_S_note l G N _ _ _ _ _ _ _ qh233) km_law_114 (ck_S_note qh233) ⟨Nat.le_of_ble_eq_true rfl, Nat.le_of_ble_eq_true rfl⟩ ⟨(by first | omega | (dsimp only [room_1]; omega)), (by first | omega | (dsimp only [room_1]; omega)), (by first | omega | (dsimp only [room_1]; omega)), (by first | omega | (dsimp only [room_1]; omega))⟩ rfl rfl (Nat.le_of_ble_eq_true rfl) dd_law_904 (fun H locs hR hS => ?_)
          refine ss_aload_n hx hb dd_law_907 rfl (lv_at hl 2 rfl) ?_
          refine lv_aload_n hx hb dd_law_908 rfl (lv_at hl 0 rfl) ?_
          refine lv_iload_n hx hb dd_law_909 rfl (lv_at hl 3 rfl) ?_
          refine lv_iconst (v := 1) hx hb dd_law_910 (by decide) ?_
          refine lv_iadd hx hb dd_law_911 ?_
          obtain ⟨v234, qv234, hm⟩ := ss_bind hm
          refine ss_sld hx hb hX hbl hbA hS qv234 dd_law_912 ?_
          refine lv_aload_n hx hb dd_law_913 rfl (lv_at hl 0 rfl) ?_
          refine lv_iload_n hx hb dd_law_914 rfl (lv_at hl 3 rfl) ?_
          refine lv_iconst (v := 2) hx hb dd_law_915 (by decide) ?_
          refine lv_iadd hx hb dd_law_916 ?_
          obtain ⟨v235, qv235, hm⟩ := ss_bind hm
          refine ss_sld hx hb hX hbl hbA hS qv235 dd_law_917 ?_
          refine lv_aload_n hx hb dd_law_918 rfl (lv_at hl 0 rfl) ?_
          refine lv_iload_n hx hb dd_law_919 rfl (lv_at hl 3 rfl) ?_
          refine lv_iconst (v := 3) hx hb dd_law_920 (by decide) ?_
          refine lv_iadd hx hb dd_law_921 ?_
          obtain ⟨v236, qv236, hm⟩ := ss_bind hm
          refine ss_sld hx hb hX hbl hbA hS qv236 dd_law_922 ?_
          obtain ⟨v237, h238, qh238, hm⟩ := ss_bind2 hm
          refine ss_cV (142 + 15 * kk) (7632 + 433 * kk) (As := [.int v234, .int v235, .int v236]) hC hK hR hS hl.1 (cc_M_note l G N _ _ _ _ _ _ _ qh238) km_law_117 (ck_M_note qh238) ⟨Nat.le_of_ble_eq_true rfl, Nat.le_of_ble_eq_true rfl⟩ ⟨(by first | omega | (dsimp only [room_1]; omega)), (by first | omega | (dsimp only [room_1]; omega)), (by first | omega | (dsimp only [room_1]; omega)), (by first | omega | (dsimp only [room_1]; omega))⟩ rfl rfl (Nat.le_of_ble_eq_true rfl) dd_law_923 (fun H locs hR hS => ?_)
          refine lv_icmp_eq (tgt := 1132) hx hb dd_law_926 (by decide) (fun c239 => ?_) (fun c239 => ?_)
          · have hm := ss_ift hm c239
            refine W.widen (k := 142 + 15 * kk + 15) (n := 7632 + 433 * kk + 433) (by omega) (by omega) ?_
            exact J_1132 x3_18 h238 _ _ _ rfl hb6 hm hR hS hl
          · have hm := ss_iff hm c239
            cases hm
        have hm := ss_iff hm c228
        by_cases c240 : v10 = (25 : Int32)
        · have hm := ss_ift hm c240
          refine lv_tableIn (tgt := 931) hx hb dd_law_33 (by rw [c240]; decide) (by rw [c240]; decide) (by rw [c240]; rfl) (by decide) ?_
          refine ss_aload_n hx hb dd_law_931 rfl (lv_at hl 1 rfl) ?_
          refine lv_aload_n hx hb dd_law_932 rfl (lv_at hl 0 rfl) ?_
          refine lv_iload_n hx hb dd_law_933 rfl (lv_at hl 3 rfl) ?_
          refine lv_iconst (v := 1) hx hb dd_law_934 (by decide) ?_
          refine lv_iadd hx hb dd_law_935 ?_
          obtain ⟨v241, qv241, hm⟩ := ss_bind hm
          refine ss_sld hx hb hX hbl hbA hS qv241 dd_law_936 ?_
          obtain ⟨v242, h243, qh243, hm⟩ := ss_bind2 hm
          refine ss_cV (142 + 15 * kk) (7632 + 433 * kk) (As := [.int v241]) hC hK hR hS hl.1 (cc_S_ruled l G N _ _ _ _ _ qh243) km_law_118 (ck_S_ruled qh243) ⟨Nat.le_of_ble_eq_true rfl, Nat.le_of_ble_eq_true rfl⟩ ⟨(by first | omega | (dsimp only [room_1]; omega)), (by first | omega | (dsimp only [room_1]; omega)), (by first | omega | (dsimp only [room_1]; omega)), (by first | omega | (dsimp only [room_1]; omega))⟩ rfl rfl (Nat.le_of_ble_eq_true rfl) dd_law_937 (fun H locs hR hS => ?_)
          refine ss_aload_n hx hb dd_law_940 rfl (lv_at hl 2 rfl) ?_
          refine lv_aload_n hx hb dd_law_941 rfl (lv_at hl 0 rfl) ?_
          refine lv_iload_n hx hb dd_law_942 rfl (lv_at hl 3 rfl) ?_
          refine lv_iconst (v := 1) hx hb dd_law_943 (by decide) ?_
          refine lv_iadd hx hb dd_law_944 ?_
          obtain ⟨v244, qv244, hm⟩ := ss_bind hm
          refine ss_sld hx hb hX hbl hbA hS qv244 dd_law_945 ?_
          obtain ⟨v245, h246, qh246, hm⟩ := ss_bind2 hm
          refine ss_cV (142 + 15 * kk) (7632 + 433 * kk) (As := [.int v244]) hC hK hR hS hl.1 (cc_M_ruled l G N _ _ _ _ _ qh246) km_law_121 (ck_M_ruled qh246) ⟨Nat.le_of_ble_eq_true rfl, Nat.le_of_ble_eq_true rfl⟩ ⟨(by first | omega | (dsimp only [room_1]; omega)), (by first | omega | (dsimp only [room_1]; omega)), (by first | omega | (dsimp only [room_1]; omega)), (by first | omega | (dsimp only [room_1]; omega))⟩ rfl rfl (Nat.le_of_ble_eq_true rfl) dd_law_946 (fun H locs hR hS => ?_)
          refine lv_icmp_eq (tgt := 1132) hx hb dd_law_949 (by decide) (fun c247 => ?_) (fun c247 => ?_)
          · have hm := ss_ift hm c247
            refine W.widen (k := 142 + 15 * kk + 15) (n := 7632 + 433 * kk + 433) (by omega) (by omega) ?_
            exact J_1132 x3_18 h246 _ _ _ rfl hb6 hm hR hS hl
          · have hm := ss_iff hm c247
            cases hm
        have hm := ss_iff hm c240
        by_cases c248 : v10 = (26 : Int32)
        · have hm := ss_ift hm c248
          refine lv_tableIn (tgt := 954) hx hb dd_law_33 (by rw [c248]; decide) (by rw [c248]; decide) (by rw [c248]; rfl) (by decide) ?_
          refine ss_aload_n hx hb dd_law_954 rfl (lv_at hl 1 rfl) ?_
          refine lv_aload_n hx hb dd_law_955 rfl (lv_at hl 0 rfl) ?_
          refine lv_iload_n hx hb dd_law_956 rfl (lv_at hl 3 rfl) ?_
          refine lv_iconst (v := 1) hx hb dd_law_957 (by decide) ?_
          refine lv_iadd hx hb dd_law_958 ?_
          obtain ⟨v249, qv249, hm⟩ := ss_bind hm
          refine ss_sld hx hb hX hbl hbA hS qv249 dd_law_959 ?_
          refine lv_aload_n hx hb dd_law_960 rfl (lv_at hl 0 rfl) ?_
          refine lv_iload_n hx hb dd_law_961 rfl (lv_at hl 3 rfl) ?_
          refine lv_iconst (v := 2) hx hb dd_law_962 (by decide) ?_
          refine lv_iadd hx hb dd_law_963 ?_
          obtain ⟨v250, qv250, hm⟩ := ss_bind hm
          refine ss_sld hx hb hX hbl hbA hS qv250 dd_law_964 ?_
          obtain ⟨v251, h252, qh252, hm⟩ := ss_bind2 hm
          refine ss_cV (142 + 15 * kk) (7632 + 433 * kk) (As := [.int v249, .int v250]) hC hK hR hS hl.1 (cc_S_look l G N _ _ _ _ _ _ qh252) km_law_122 (ck_S_look qh252) ⟨Nat.le_of_ble_eq_true rfl, Nat.le_of_ble_eq_true rfl⟩ ⟨(by first | omega | (dsimp only [room_1]; omega)), (by first | omega | (dsimp only [room_1]; omega)), (by first | omega | (dsimp only [room_1]; omega)), (by first | omega | (dsimp only [room_1]; omega))⟩ rfl rfl (Nat.le_of_ble_eq_true rfl) dd_law_965 (fun H locs hR hS => ?_)
          refine ss_aload_n hx hb dd_law_968 rfl (lv_at hl 2 rfl) ?_
          refine lv_aload_n hx hb dd_law_969 rfl (lv_at hl 0 rfl) ?_
          refine lv_iload_n hx hb dd_law_970 rfl (lv_at hl 3 rfl) ?_
          refine lv_iconst (v := 1) hx hb dd_law_971 (by decide) ?_
          refine lv_iadd hx hb dd_law_972 ?_
          obtain ⟨v253, qv253, hm⟩ := ss_bind hm
          refine ss_sld hx hb hX hbl hbA hS qv253 dd_law_973 ?_
          refine lv_aload_n hx hb dd_law_974 rfl (lv_at hl 0 rfl) ?_
          refine lv_iload_n hx hb dd_law_975 rfl (lv_at hl 3 rfl) ?_
          refine lv_iconst (v := 2) hx hb dd_law_976 (by decide) ?_
          refine lv_iadd hx hb dd_law_977 ?_
          obtain ⟨v254, qv254, hm⟩ := ss_bind hm
          refine ss_sld hx hb hX hbl hbA hS qv254 dd_law_978 ?_
          obtain ⟨v255, h256, qh256, hm⟩ := ss_bind2 hm
          refine ss_cV (142 + 15 * kk) (7632 + 433 * kk) (As := [.int v253, .int v254]) hC hK hR hS hl.1 (cc_M_look l G N _ _ _ _ _ _ qh256) km_law_125 (ck_M_look qh256) ⟨Nat.le_of_ble_eq_true rfl, Nat.le_of_ble_eq_true rfl⟩ ⟨(by first | omega | (dsimp only [room_1]; omega)), (by first | omega | (dsimp only [room_1]; omega)), (by first | omega | (dsimp only [room_1]; omega)), (by first | omega | (dsimp only [room_1]; omega))⟩ rfl rfl (Nat.le_of_ble_eq_true rfl) dd_law_979 (fun H locs hR hS => ?_)
          refine lv_icmp_eq (tgt := 1132) hx hb dd_law_982 (by decide) (fun c257 => ?_) (fun c257 => ?_)
          · have hm := ss_ift hm c257
            refine W.widen (k := 142 + 15 * kk + 15) (n := 7632 + 433 * kk + 433) (by omega) (by omega) ?_
            exact J_1132 x3_18 h256 _ _ _ rfl hb6 hm hR hS hl
          · have hm := ss_iff hm c257
            cases hm
        have hm := ss_iff hm c248
        by_cases c258 : v10 = (27 : Int32)
        · have hm := ss_ift hm c258
          refine lv_tableIn (tgt := 987) hx hb dd_law_33 (by rw [c258]; decide) (by rw [c258]; decide) (by rw [c258]; rfl) (by decide) ?_
          refine ss_aload_n hx hb dd_law_987 rfl (lv_at hl 1 rfl) ?_
          refine lv_aload_n hx hb dd_law_988 rfl (lv_at hl 0 rfl) ?_
          refine lv_iload_n hx hb dd_law_989 rfl (lv_at hl 3 rfl) ?_
          refine lv_iconst (v := 1) hx hb dd_law_990 (by decide) ?_
          refine lv_iadd hx hb dd_law_991 ?_
          obtain ⟨v259, qv259, hm⟩ := ss_bind hm
          refine ss_sld hx hb hX hbl hbA hS qv259 dd_law_992 ?_
          obtain ⟨v260, h261, qh261, hm⟩ := ss_bind2 hm
          refine ss_cV (142 + 15 * kk) (7632 + 433 * kk) (As := [.int v259]) hC hK hR hS hl.1 (cc_S_seed l G N _ _ _ _ _ qh261) km_law_126 (ck_S_seed qh261) ⟨Nat.le_of_ble_eq_true rfl, Nat.le_of_ble_eq_true rfl⟩ ⟨(by first | omega | (dsimp only [room_1]; omega)), (by first | omega | (dsimp only [room_1]; omega)), (by first | omega | (dsimp only [room_1]; omega)), (by first | omega | (dsimp only [room_1]; omega))⟩ rfl rfl (Nat.le_of_ble_eq_true rfl) dd_law_993 (fun H locs hR hS => ?_)
          refine ss_aload_n hx hb dd_law_996 rfl (lv_at hl 2 rfl) ?_
          refine lv_aload_n hx hb dd_law_997 rfl (lv_at hl 0 rfl) ?_
          refine lv_iload_n hx hb dd_law_998 rfl (lv_at hl 3 rfl) ?_
          refine lv_iconst (v := 1) hx hb dd_law_999 (by decide) ?_
          refine lv_iadd hx hb dd_law_1000 ?_
          obtain ⟨v262, qv262, hm⟩ := ss_bind hm
          refine ss_sld hx hb hX hbl hbA hS qv262 dd_law_1001 ?_
          obtain ⟨v263, h264, qh264, hm⟩ := ss_bind2 hm
          refine ss_cV (142 + 15 * kk) (7632 + 433 * kk) (As := [.int v262]) hC hK hR hS hl.1 (cc_M_seed l G N _ _ _ _ _ qh264) km_law_129 (ck_M_seed qh264) ⟨Nat.le_of_ble_eq_true rfl, Nat.le_of_ble_eq_true rfl⟩ ⟨(by first | omega | (dsimp only [room_1]; omega)), (by first | omega | (dsimp only [room_1]; omega)), (by first | omega | (dsimp only [room_1]; omega)), (by first | omega | (dsimp only [room_1]; omega))⟩ rfl rfl (Nat.le_of_ble_eq_true rfl) dd_law_1002 (fun H locs hR hS => ?_)
          refine lv_icmp_eq (tgt := 1132) hx hb dd_law_1005 (by decide) (fun c265 => ?_) (fun c265 => ?_)
          · have hm := ss_ift hm c265
            refine W.widen (k := 142 + 15 * kk + 15) (n := 7632 + 433 * kk + 433) (by omega) (by omega) ?_
            exact J_1132 x3_18 h264 _ _ _ rfl hb6 hm hR hS hl
          · have hm := ss_iff hm c265
            cases hm
        have hm := ss_iff hm c258
        by_cases c266 : v10 = (28 : Int32)
        · have hm := ss_ift hm c266
          refine lv_tableIn (tgt := 1010) hx hb dd_law_33 (by rw [c266]; decide) (by rw [c266]; decide) (by rw [c266]; rfl) (by decide) ?_
          refine ss_aload_n hx hb dd_law_1010 rfl (lv_at hl 1 rfl) ?_
          refine lv_aload_n hx hb dd_law_1011 rfl (lv_at hl 0 rfl) ?_
          refine lv_iload_n hx hb dd_law_1012 rfl (lv_at hl 3 rfl) ?_
          refine lv_iconst (v := 1) hx hb dd_law_1013 (by decide) ?_
          refine lv_iadd hx hb dd_law_1014 ?_
          obtain ⟨v267, qv267, hm⟩ := ss_bind hm
          refine ss_sld hx hb hX hbl hbA hS qv267 dd_law_1015 ?_
          refine lv_aload_n hx hb dd_law_1016 rfl (lv_at hl 0 rfl) ?_
          refine lv_iload_n hx hb dd_law_1017 rfl (lv_at hl 3 rfl) ?_
          refine lv_iconst (v := 2) hx hb dd_law_1018 (by decide) ?_
          refine lv_iadd hx hb dd_law_1019 ?_
          obtain ⟨v268, qv268, hm⟩ := ss_bind hm
          refine ss_sld hx hb hX hbl hbA hS qv268 dd_law_1020 ?_
          refine lv_aload_n hx hb dd_law_1021 rfl (lv_at hl 0 rfl) ?_
          refine lv_iload_n hx hb dd_law_1022 rfl (lv_at hl 3 rfl) ?_
          refine lv_iconst (v := 3) hx hb dd_law_1023 (by decide) ?_
          refine lv_iadd hx hb dd_law_1024 ?_
          obtain ⟨v269, qv269, hm⟩ := ss_bind hm
          refine ss_sld hx hb hX hbl hbA hS qv269 dd_law_1025 ?_
          refine lv_aload_n hx hb dd_law_1026 rfl (lv_at hl 0 rfl) ?_
          refine lv_iload_n hx hb dd_law_1027 rfl (lv_at hl 3 rfl) ?_
          refine lv_iconst (v := 4) hx hb dd_law_1028 (by decide) ?_
          refine lv_iadd hx hb dd_law_1029 ?_
          obtain ⟨v270, qv270, hm⟩ := ss_bind hm
          refine ss_sld hx hb hX hbl hbA hS qv270 dd_law_1030 ?_
          obtain ⟨v271, h272, qh272, hm⟩ := ss_bind2 hm
          refine ss_cV (142 + 15 * kk) (7632 + 433 * kk) (As := [.int v267, .int v268, .int v269, .int v270]) hC hK hR hS hl.1 (cc_S_storms l G N _ _ _ _ _ _ _ _ qh272) km_law_130 (ck_S_storms qh272) ⟨Nat.le_of_ble_eq_true rfl, Nat.le_of_ble_eq_true rfl⟩ ⟨(by first | omega | (dsimp only [room_1]; omega)), (by first | omega | (dsimp only [room_1]; omega)), (by first | omega | (dsimp only [room_1]; omega)), (by first | omega | (dsimp only [room_1]; omega))⟩ rfl rfl (Nat.le_of_ble_eq_true rfl) dd_law_1031 (fun H locs hR hS => ?_)
          refine ss_aload_n hx hb dd_law_1034 rfl (lv_at hl 2 rfl) ?_
          refine lv_aload_n hx hb dd_law_1035 rfl (lv_at hl 0 rfl) ?_
          refine lv_iload_n hx hb dd_law_1036 rfl (lv_at hl 3 rfl) ?_
          refine lv_iconst (v := 1) hx hb dd_law_1037 (by decide) ?_
          refine lv_iadd hx hb dd_law_1038 ?_
          obtain ⟨v273, qv273, hm⟩ := ss_bind hm
          refine ss_sld hx hb hX hbl hbA hS qv273 dd_law_1039 ?_
          refine lv_aload_n hx hb dd_law_1040 rfl (lv_at hl 0 rfl) ?_
          refine lv_iload_n hx hb dd_law_1041 rfl (lv_at hl 3 rfl) ?_
          refine lv_iconst (v := 2) hx hb dd_law_1042 (by decide) ?_
          refine lv_iadd hx hb dd_law_1043 ?_
          obtain ⟨v274, qv274, hm⟩ := ss_bind hm
          refine ss_sld hx hb hX hbl hbA hS qv274 dd_law_1044 ?_
          refine lv_aload_n hx hb dd_law_1045 rfl (lv_at hl 0 rfl) ?_
          refine lv_iload_n hx hb dd_law_1046 rfl (lv_at hl 3 rfl) ?_
          refine lv_iconst (v := 3) hx hb dd_law_1047 (by decide) ?_
          refine lv_iadd hx hb dd_law_1048 ?_
          obtain ⟨v275, qv275, hm⟩ := ss_bind hm
          refine ss_sld hx hb hX hbl hbA hS qv275 dd_law_1049 ?_
          refine lv_aload_n hx hb dd_law_1050 rfl (lv_at hl 0 rfl) ?_
          refine lv_iload_n hx hb dd_law_1051 rfl (lv_at hl 3 rfl) ?_
          refine lv_iconst (v := 4) hx hb dd_law_1052 (by decide) ?_
          refine lv_iadd hx hb dd_law_1053 ?_
          obtain ⟨v276, qv276, hm⟩ := ss_bind hm
          refine ss_sld hx hb hX hbl hbA hS qv276 dd_law_1054 ?_
          obtain ⟨v277, h278, qh278, hm⟩ := ss_bind2 hm
          refine ss_cV (142 + 15 * kk) (7632 + 433 * kk) (As := [.int v273, .int v274, .int v275, .int v276]) hC hK hR hS hl.1 (cc_M_storms l G N _ _ _ _ _ _ _ _ qh278) km_law_134 (ck_M_storms qh278) ⟨Nat.le_of_ble_eq_true rfl, Nat.le_of_ble_eq_true rfl⟩ ⟨(by first | omega | (dsimp only [room_1]; omega)), (by first | omega | (dsimp only [room_1]; omega)), (by first | omega | (dsimp only [room_1]; omega)), (by first | omega | (dsimp only [room_1]; omega))⟩ rfl rfl (Nat.le_of_ble_eq_true rfl) dd_law_1055 (fun H locs hR hS => ?_)
          refine lv_icmp_eq (tgt := 1132) hx hb dd_law_1058 (by decide) (fun c279 => ?_) (fun c279 => ?_)
          · have hm := ss_ift hm c279
            refine W.widen (k := 142 + 15 * kk + 15) (n := 7632 + 433 * kk + 433) (by omega) (by omega) ?_
            exact J_1132 x3_18 h278 _ _ _ rfl hb6 hm hR hS hl
          · have hm := ss_iff hm c279
            cases hm
        have hm := ss_iff hm c266
        by_cases c280 : v10 = (29 : Int32)
        · have hm := ss_ift hm c280
          refine lv_tableIn (tgt := 1063) hx hb dd_law_33 (by rw [c280]; decide) (by rw [c280]; decide) (by rw [c280]; rfl) (by decide) ?_
          refine ss_aload_n hx hb dd_law_1063 rfl (lv_at hl 1 rfl) ?_
          refine lv_aload_n hx hb dd_law_1064 rfl (lv_at hl 0 rfl) ?_
          refine lv_iload_n hx hb dd_law_1065 rfl (lv_at hl 3 rfl) ?_
          refine lv_iconst (v := 1) hx hb dd_law_1066 (by decide) ?_
          refine lv_iadd hx hb dd_law_1067 ?_
          obtain ⟨v281, qv281, hm⟩ := ss_bind hm
          refine ss_sld hx hb hX hbl hbA hS qv281 dd_law_1068 ?_
          obtain ⟨v282, qv282, hm⟩ := ss_bind hm
          refine ss_cV (142 + 15 * kk) (7632 + 433 * kk) (As := [.int v281]) hC hK hR hS hl.1 (cc_S_count l G N _ _ _ _ qv282) km_law_135 (ck_S_count qv282) ⟨Nat.le_of_ble_eq_true rfl, Nat.le_of_ble_eq_true rfl⟩ ⟨(by first | omega | (dsimp only [room_1]; omega)), (by first | omega | (dsimp only [room_1]; omega)), (by first | omega | (dsimp only [room_1]; omega)), (by first | omega | (dsimp only [room_1]; omega))⟩ rfl rfl (Nat.le_of_ble_eq_true rfl) dd_law_1069 (fun H locs hR hS => ?_)
          refine ss_aload_n hx hb dd_law_1072 rfl (lv_at hl 2 rfl) ?_
          refine lv_aload_n hx hb dd_law_1073 rfl (lv_at hl 0 rfl) ?_
          refine lv_iload_n hx hb dd_law_1074 rfl (lv_at hl 3 rfl) ?_
          refine lv_iconst (v := 1) hx hb dd_law_1075 (by decide) ?_
          refine lv_iadd hx hb dd_law_1076 ?_
          obtain ⟨v283, qv283, hm⟩ := ss_bind hm
          refine ss_sld hx hb hX hbl hbA hS qv283 dd_law_1077 ?_
          obtain ⟨v284, qv284, hm⟩ := ss_bind hm
          refine ss_cV (142 + 15 * kk) (7632 + 433 * kk) (As := [.int v283]) hC hK hR hS hl.1 (cc_M_count l G N _ _ _ _ qv284) km_law_138 (ck_M_count qv284) ⟨Nat.le_of_ble_eq_true rfl, Nat.le_of_ble_eq_true rfl⟩ ⟨(by first | omega | (dsimp only [room_1]; omega)), (by first | omega | (dsimp only [room_1]; omega)), (by first | omega | (dsimp only [room_1]; omega)), (by first | omega | (dsimp only [room_1]; omega))⟩ rfl rfl (Nat.le_of_ble_eq_true rfl) dd_law_1078 (fun H locs hR hS => ?_)
          refine lv_icmp_eq (tgt := 1132) hx hb dd_law_1081 (by decide) (fun c285 => ?_) (fun c285 => ?_)
          · have hm := ss_ift hm c285
            refine W.widen (k := 142 + 15 * kk + 15) (n := 7632 + 433 * kk + 433) (by omega) (by omega) ?_
            exact J_1132 x3_18 h_18 _ _ _ rfl hb6 hm hR hS hl
          · have hm := ss_iff hm c285
            cases hm
        have hm := ss_iff hm c280
        by_cases c286 : v10 = (30 : Int32)
        · have hm := ss_ift hm c286
          refine lv_tableIn (tgt := 1086) hx hb dd_law_33 (by rw [c286]; decide) (by rw [c286]; decide) (by rw [c286]; rfl) (by decide) ?_
          refine ss_aload_n hx hb dd_law_1086 rfl (lv_at hl 1 rfl) ?_
          refine lv_aload_n hx hb dd_law_1087 rfl (lv_at hl 0 rfl) ?_
          refine lv_iload_n hx hb dd_law_1088 rfl (lv_at hl 3 rfl) ?_
          refine lv_iconst (v := 1) hx hb dd_law_1089 (by decide) ?_
          refine lv_iadd hx hb dd_law_1090 ?_
          obtain ⟨v287, qv287, hm⟩ := ss_bind hm
          refine ss_sld hx hb hX hbl hbA hS qv287 dd_law_1091 ?_
          obtain ⟨v288, h289, qh289, hm⟩ := ss_bind2 hm
          refine ss_cV (142 + 15 * kk + 15) (7632 + 433 * kk + 116) (As := [.int v287]) hC hK hR hS hl.1 (cc_S_image l G N _ _ _ _ _ qh289) km_law_139 (ck_S_image qh289) ⟨Nat.le_of_ble_eq_true rfl, Nat.le_of_ble_eq_true rfl⟩ ⟨(by first | omega | (dsimp only [room_1]; omega)), (by first | omega | (dsimp only [room_1]; omega)), (by first | omega | (dsimp only [room_1]; omega)), (by first | omega | (dsimp only [room_1]; omega))⟩ rfl rfl (Nat.le_of_ble_eq_true rfl) dd_law_1092 (fun H locs hR hS => ?_)
          refine ss_aload_n hx hb dd_law_1095 rfl (lv_at hl 2 rfl) ?_
          refine lv_aload_n hx hb dd_law_1096 rfl (lv_at hl 0 rfl) ?_
          refine lv_iload_n hx hb dd_law_1097 rfl (lv_at hl 3 rfl) ?_
          refine lv_iconst (v := 1) hx hb dd_law_1098 (by decide) ?_
          refine lv_iadd hx hb dd_law_1099 ?_
          obtain ⟨v290, qv290, hm⟩ := ss_bind hm
          refine ss_sld hx hb hX hbl hbA hS qv290 dd_law_1100 ?_
          obtain ⟨v291, h292, qh292, hm⟩ := ss_bind2 hm
          refine ss_cV (142 + 15 * kk + 15) (7632 + 433 * kk + 116) (As := [.int v290]) hC hK hR hS hl.1 (cc_M_image l G N _ _ _ _ _ qh292) km_law_142 (ck_M_image qh292) ⟨Nat.le_of_ble_eq_true rfl, Nat.le_of_ble_eq_true rfl⟩ ⟨(by first | omega | (dsimp only [room_1]; omega)), (by first | omega | (dsimp only [room_1]; omega)), (by first | omega | (dsimp only [room_1]; omega)), (by first | omega | (dsimp only [room_1]; omega))⟩ rfl rfl (Nat.le_of_ble_eq_true rfl) dd_law_1101 (fun H locs hR hS => ?_)
          refine lv_icmp_eq (tgt := 1132) hx hb dd_law_1104 (by decide) (fun c293 => ?_) (fun c293 => ?_)
          · have hm := ss_ift hm c293
            refine W.widen (k := 142 + 15 * kk + 15) (n := 7632 + 433 * kk + 433) (by omega) (by omega) ?_
            exact J_1132 x3_18 h292 _ _ _ rfl hb6 hm hR hS hl
          · have hm := ss_iff hm c293
            cases hm
        have hm := ss_iff hm c286
        by_cases c294 : v10 = (31 : Int32)
        · have hm := ss_ift hm c294
          refine lv_tableIn (tgt := 1109) hx hb dd_law_33 (by rw [c294]; decide) (by rw [c294]; decide) (by rw [c294]; rfl) (by decide) ?_
          refine ss_aload_n hx hb dd_law_1109 rfl (lv_at hl 1 rfl) ?_
          refine lv_aload_n hx hb dd_law_1110 rfl (lv_at hl 0 rfl) ?_
          refine lv_iload_n hx hb dd_law_1111 rfl (lv_at hl 3 rfl) ?_
          refine lv_iconst (v := 1) hx hb dd_law_1112 (by decide) ?_
          refine lv_iadd hx hb dd_law_1113 ?_
          obtain ⟨v295, qv295, hm⟩ := ss_bind hm
          refine ss_sld hx hb hX hbl hbA hS qv295 dd_law_1114 ?_
          obtain ⟨v296, h297, qh297, hm⟩ := ss_bind2 hm
          refine ss_cV (142 + 15 * kk) (7632 + 433 * kk) (As := [.int v295]) hC hK hR hS hl.1 (cc_S_back l G N _ _ _ _ _ qh297) km_law_143 (ck_S_back qh297) ⟨Nat.le_of_ble_eq_true rfl, Nat.le_of_ble_eq_true rfl⟩ ⟨(by first | omega | (dsimp only [room_1]; omega)), (by first | omega | (dsimp only [room_1]; omega)), (by first | omega | (dsimp only [room_1]; omega)), (by first | omega | (dsimp only [room_1]; omega))⟩ rfl rfl (Nat.le_of_ble_eq_true rfl) dd_law_1115 (fun H locs hR hS => ?_)
          refine ss_aload_n hx hb dd_law_1118 rfl (lv_at hl 2 rfl) ?_
          refine lv_aload_n hx hb dd_law_1119 rfl (lv_at hl 0 rfl) ?_
          refine lv_iload_n hx hb dd_law_1120 rfl (lv_at hl 3 rfl) ?_
          refine lv_iconst (v := 1) hx hb dd_law_1121 (by decide) ?_
          refine lv_iadd hx hb dd_law_1122 ?_
          obtain ⟨v298, qv298, hm⟩ := ss_bind hm
          refine ss_sld hx hb hX hbl hbA hS qv298 dd_law_1123 ?_
          obtain ⟨v299, h300, qh300, hm⟩ := ss_bind2 hm
          refine ss_cV (142 + 15 * kk) (7632 + 433 * kk) (As := [.int v298]) hC hK hR hS hl.1 (cc_M_back l G N _ _ _ _ _ qh300) km_law_146 (ck_M_back qh300) ⟨Nat.le_of_ble_eq_true rfl, Nat.le_of_ble_eq_true rfl⟩ ⟨(by first | omega | (dsimp only [room_1]; omega)), (by first | omega | (dsimp only [room_1]; omega)), (by first | omega | (dsimp only [room_1]; omega)), (by first | omega | (dsimp only [room_1]; omega))⟩ rfl rfl (Nat.le_of_ble_eq_true rfl) dd_law_1124 (fun H locs hR hS => ?_)
          refine lv_icmp_eq (tgt := 1132) hx hb dd_law_1127 (by decide) (fun c301 => ?_) (fun c301 => ?_)
          · have hm := ss_ift hm c301
            refine W.widen (k := 142 + 15 * kk + 15) (n := 7632 + 433 * kk + 433) (by omega) (by omega) ?_
            exact J_1132 x3_18 h300 _ _ _ rfl hb6 hm hR hS hl
          · have hm := ss_iff hm c301
            cases hm
        have hm := ss_iff hm c294
        have nc11 := lv_neT (a := 0) c11 (by decide)
        have nc27 := lv_neT (a := 1) c27 (by decide)
        have nc35 := lv_neT (a := 2) c35 (by decide)
        have nc41 := lv_neT (a := 3) c41 (by decide)
        have nc47 := lv_neT (a := 4) c47 (by decide)
        have nc55 := lv_neT (a := 5) c55 (by decide)
        have nc63 := lv_neT (a := 6) c63 (by decide)
        have nc71 := lv_neT (a := 7) c71 (by decide)
        have nc77 := lv_neT (a := 8) c77 (by decide)
        have nc87 := lv_neT (a := 9) c87 (by decide)
        have nc97 := lv_neT (a := 10) c97 (by decide)
        have nc105 := lv_neT (a := 11) c105 (by decide)
        have nc111 := lv_neT (a := 12) c111 (by decide)
        have nc117 := lv_neT (a := 13) c117 (by decide)
        have nc129 := lv_neT (a := 14) c129 (by decide)
        have nc137 := lv_neT (a := 15) c137 (by decide)
        have nc145 := lv_neT (a := 16) c145 (by decide)
        have nc153 := lv_neT (a := 17) c153 (by decide)
        have nc163 := lv_neT (a := 18) c163 (by decide)
        have nc172 := lv_neT (a := 19) c172 (by decide)
        have nc184 := lv_neT (a := 20) c184 (by decide)
        have nc194 := lv_neT (a := 21) c194 (by decide)
        have nc206 := lv_neT (a := 22) c206 (by decide)
        have nc218 := lv_neT (a := 23) c218 (by decide)
        have nc228 := lv_neT (a := 24) c228 (by decide)
        have nc240 := lv_neT (a := 25) c240 (by decide)
        have nc248 := lv_neT (a := 26) c248 (by decide)
        have nc258 := lv_neT (a := 27) c258 (by decide)
        have nc266 := lv_neT (a := 28) c266 (by decide)
        have nc280 := lv_neT (a := 29) c280 (by decide)
        have nc286 := lv_neT (a := 30) c286 (by decide)
        have nc294 := lv_neT (a := 31) c294 (by decide)
        refine lv_tableOut (tgt := 1132) hx hb dd_law_33 (by omega) (by decide) ?_
        refine W.widen (k := 142 + 15 * kk + 15) (n := 7632 + 433 * kk + 433) (by omega) (by omega) ?_
        exact J_1132 x3_18 h_18 _ _ _ rfl hb6 hm hR hS hl
  exact L_18 N 0 (0 : Int32) h6 _ _ _ nI_0.symm (Nat.zero_le _) he_18 hR hS (lv_sub hl [3, 2, 1, 0] rfl)
