set_option maxRecDepth 20000 in
set_option maxHeartbeats 4000000 in
theorem e240_23 {x4 : Int32} {o5 : Option Value} {o6 : Option Value} {M : yM} {nc ns : Nat} (hn : nc + 4 ≤ 601024 ∧ ns + 24 ≤ 7293034) : yL (if x4 ≤ ((Int32.ofNat (ylen M)) - 4) then if yinB x4 (ylen M) = true then if ((M 0 (yx x4)) &&& 31) = 0 then yX 240 176 [some (.ref 0), some (.ref 7), some (.ref 190), some (.ref 202), some (.int x4), o5, o6] [] M nc ns else if ((M 0 (yx x4)) &&& 31) = 1 then yX 240 232 [some (.ref 0), some (.ref 7), some (.ref 190), some (.ref 202), some (.int x4), o5, o6] [] M nc ns else if ((M 0 (yx x4)) &&& 31) = 2 then yX 240 245 [some (.ref 0), some (.ref 7), some (.ref 190), some (.ref 202), some (.int x4), o5, o6] [] M nc ns else if ((M 0 (yx x4)) &&& 31) = 3 then yX 240 258 [some (.ref 0), some (.ref 7), some (.ref 190), some (.ref 202), some (.int x4), o5, o6] [] M nc ns else if ((M 0 (yx x4)) &&& 31) = 4 then yX 240 302 [some (.ref 0), some (.ref 7), some (.ref 190), some (.ref 202), some (.int x4), o5, o6] [] M nc ns else if ((M 0 (yx x4)) &&& 31) = 5 then yX 240 358 [some (.ref 0), some (.ref 7), some (.ref 190), some (.ref 202), some (.int x4), o5, o6] [] M nc ns else if ((M 0 (yx x4)) &&& 31) = 6 then yX 240 426 [some (.ref 0), some (.ref 7), some (.ref 190), some (.ref 202), some (.int x4), o5, o6] [] M nc ns else if ((M 0 (yx x4)) &&& 31) = 7 then yX 240 494 [some (.ref 0), some (.ref 7), some (.ref 190), some (.ref 202), some (.int x4), o5, o6] [] M nc ns else if ((M 0 (yx x4)) &&& 31) = 8 then yX 240 562 [some (.ref 0), some (.ref 7), some (.ref 190), some (.ref 202), some (.int x4), o5, o6] [] M nc ns else if ((M 0 (yx x4)) &&& 31) = 9 then yX 240 618 [some (.ref 0), some (.ref 7), some (.ref 190), some (.ref 202), some (.int x4), o5, o6] [] M nc ns else if ((M 0 (yx x4)) &&& 31) = 10 then yX 240 674 [some (.ref 0), some (.ref 7), some (.ref 190), some (.ref 202), some (.int x4), o5, o6] [] M nc ns else if ((M 0 (yx x4)) &&& 31) = 11 then yX 240 730 [some (.ref 0), some (.ref 7), some (.ref 190), some (.ref 202), some (.int x4), o5, o6] [] M nc ns else if ((M 0 (yx x4)) &&& 31) = 12 then yX 240 798 [some (.ref 0), some (.ref 7), some (.ref 190), some (.ref 202), some (.int x4), o5, o6] [] M nc ns else if ((M 0 (yx x4)) &&& 31) = 13 then yX 240 854 [some (.ref 0), some (.ref 7), some (.ref 190), some (.ref 202), some (.int x4), o5, o6] [] M nc ns else if ((M 0 (yx x4)) &&& 31) = 14 then yX 240 922 [some (.ref 0), some (.ref 7), some (.ref 190), some (.ref 202), some (.int x4), o5, o6] [] M nc ns else if ((M 0 (yx x4)) &&& 31) = 15 then yX 240 990 [some (.ref 0), some (.ref 7), some (.ref 190), some (.ref 202), some (.int x4), o5, o6] [] M nc ns else if ((M 0 (yx x4)) &&& 31) = 16 then yX 240 1086 [some (.ref 0), some (.ref 7), some (.ref 190), some (.ref 202), some (.int x4), o5, o6] [] M nc ns else if ((M 0 (yx x4)) &&& 31) = 17 then yX 240 1154 [some (.ref 0), some (.ref 7), some (.ref 190), some (.ref 202), some (.int x4), o5, o6] [] M nc ns else if ((M 0 (yx x4)) &&& 31) = 18 then yX 240 1250 [some (.ref 0), some (.ref 7), some (.ref 190), some (.ref 202), some (.int x4), o5, o6] [] M nc ns else if ((M 0 (yx x4)) &&& 31) = 19 then yX 240 1346 [some (.ref 0), some (.ref 7), some (.ref 190), some (.ref 202), some (.int x4), o5, o6] [] M nc ns else if ((M 0 (yx x4)) &&& 31) = 20 then yX 240 1414 [some (.ref 0), some (.ref 7), some (.ref 190), some (.ref 202), some (.int x4), o5, o6] [] M nc ns else if ((M 0 (yx x4)) &&& 31) = 21 then yX 240 1482 [some (.ref 0), some (.ref 7), some (.ref 190), some (.ref 202), some (.int x4), o5, o6] [] M nc ns else if ((M 0 (yx x4)) &&& 31) = 22 then yX 240 1526 [some (.ref 0), some (.ref 7), some (.ref 190), some (.ref 202), some (.int x4), o5, o6] [] M nc ns else if ((M 0 (yx x4)) &&& 31) = 23 then yX 240 1594 [some (.ref 0), some (.ref 7), some (.ref 190), some (.ref 202), some (.int x4), o5, o6] [] M nc ns else if ((M 0 (yx x4)) &&& 31) = 24 then yX 240 1662 [some (.ref 0), some (.ref 7), some (.ref 190), some (.ref 202), some (.int x4), o5, o6] [] M nc ns else if ((M 0 (yx x4)) &&& 31) = 25 then yX 240 1718 [some (.ref 0), some (.ref 7), some (.ref 190), some (.ref 202), some (.int x4), o5, o6] [] M nc ns else if ((M 0 (yx x4)) &&& 31) = 26 then yX 240 1731 [some (.ref 0), some (.ref 7), some (.ref 190), some (.ref 202), some (.int x4), o5, o6] [] M nc ns else if ((M 0 (yx x4)) &&& 31) = 27 then yX 240 1799 [some (.ref 0), some (.ref 7), some (.ref 190), some (.ref 202), some (.int x4), o5, o6] [] M nc ns else if ((M 0 (yx x4)) &&& 31) = 28 then yX 240 1899 [some (.ref 0), some (.ref 7), some (.ref 190), some (.ref 202), some (.int x4), o5, o6] [] M nc ns else if ((M 0 (yx x4)) &&& 31) = 29 then yX 240 1999 [some (.ref 0), some (.ref 7), some (.ref 190), some (.ref 202), some (.int x4), o5, o6] [] M nc ns else if ((M 0 (yx x4)) &&& 31) = 30 then yX 240 2055 [some (.ref 0), some (.ref 7), some (.ref 190), some (.ref 202), some (.int x4), o5, o6] [] M nc ns else yX 240 23 [some (.ref 0), some (.ref 7), some (.ref 190), some (.ref 202), some (.int (x4 + 4)), o5, o6] [] M nc ns else none else yI 1 M) (yX 240 23 [some (.ref 0), some (.ref 7), some (.ref 190), some (.ref 202), some (.int x4), o5, o6] [] M nc ns) := by
  refine yL.eq (y_iload (pc := 23) (x := x4) d240_23 rfl) ?_
  refine yL.eq (y_aload_n (pc := 25) (x := 0) d240_25 rfl) ?_
  refine yL.eq (y_alen0 (pc := 26) d240_26) ?_
  refine yL.eq (y_iconst (pc := 27) (v := 4) d240_27 kc_4) ?_
  refine yL.eq (y_isub (pc := 28) d240_28) ?_
  refine yL.eq (y_icmp_gt (pc := 29) (t := 2117) d240_29 (by decide)) ?_
  refine yL.ite (fun h1 => ?_) (fun h1 => ?_)
  ·
    refine yL.eq (y_aload_n (pc := 32) (x := 0) d240_32 rfl) ?_
    refine yL.eq (y_iload (pc := 33) (x := x4) d240_33 rfl) ?_
    refine yL.eq (y_iald0 (pc := 35) d240_35) ?_
    refine yL.gd (fun h2 => ?_)
    refine yL.eq (y_bipush (pc := 36) (v := 31) d240_36 kb_31) ?_
    refine yL.eq (y_iand (pc := 38) d240_38) ?_
    refine yL.eq (y_tsw (pc := 39) (ts := [176, 232, 245, 258, 302, 358, 426, 494, 562, 618, 674, 730, 798, 854, 922, 990, 1086, 1154, 1250, 1346, 1414, 1482, 1526, 1594, 1662, 1718, 1731, 1799, 1899, 1999, 2055]) (d := 2111) d240_39 (by decide +kernel)) ?_
    refine yL.eq (y_ts (c := 0) (lo' := 1) kc_0 (by decide)) ?_
    refine yL.ite (fun h3 => ?_) (fun h3 => ?_)
    ·
      exact yL.rf
    ·
      refine yL.eq (y_ts (c := 1) (lo' := 2) kc_1 (by decide)) ?_
      refine yL.ite (fun h4 => ?_) (fun h4 => ?_)
      ·
        exact yL.rf
      ·
        refine yL.eq (y_ts (c := 2) (lo' := 3) kc_2 (by decide)) ?_
        refine yL.ite (fun h5 => ?_) (fun h5 => ?_)
        ·
          exact yL.rf
        ·
          refine yL.eq (y_ts (c := 3) (lo' := 4) kc_3 (by decide)) ?_
          refine yL.ite (fun h6 => ?_) (fun h6 => ?_)
          ·
            exact yL.rf
          ·
            refine yL.eq (y_ts (c := 4) (lo' := 5) kc_4 (by decide)) ?_
            refine yL.ite (fun h7 => ?_) (fun h7 => ?_)
            ·
              exact yL.rf
            ·
              refine yL.eq (y_ts (c := 5) (lo' := 6) kc_5 (by decide)) ?_
              refine yL.ite (fun h8 => ?_) (fun h8 => ?_)
              ·
                exact yL.rf
              ·
                refine yL.eq (y_ts (c := 6) (lo' := 7) kc_6 (by decide)) ?_
                refine yL.ite (fun h9 => ?_) (fun h9 => ?_)
                ·
                  exact yL.rf
                ·
                  refine yL.eq (y_ts (c := 7) (lo' := 8) kc_7 (by decide)) ?_
                  refine yL.ite (fun h10 => ?_) (fun h10 => ?_)
                  ·
                    exact yL.rf
                  ·
                    refine yL.eq (y_ts (c := 8) (lo' := 9) kc_8 (by decide)) ?_
                    refine yL.ite (fun h11 => ?_) (fun h11 => ?_)
                    ·
                      exact yL.rf
                    ·
                      refine yL.eq (y_ts (c := 9) (lo' := 10) kc_9 (by decide)) ?_
                      refine yL.ite (fun h12 => ?_) (fun h12 => ?_)
                      ·
                        exact yL.rf
                      ·
                        refine yL.eq (y_ts (c := 10) (lo' := 11) kc_10 (by decide)) ?_
                        refine yL.ite (fun h13 => ?_) (fun h13 => ?_)
                        ·
                          exact yL.rf
                        ·
                          refine yL.eq (y_ts (c := 11) (lo' := 12) kc_11 (by decide)) ?_
                          refine yL.ite (fun h14 => ?_) (fun h14 => ?_)
                          ·
                            exact yL.rf
                          ·
                            refine yL.eq (y_ts (c := 12) (lo' := 13) kc_12 (by decide)) ?_
                            refine yL.ite (fun h15 => ?_) (fun h15 => ?_)
                            ·
                              exact yL.rf
                            ·
                              refine yL.eq (y_ts (c := 13) (lo' := 14) kc_13 (by decide)) ?_
                              refine yL.ite (fun h16 => ?_) (fun h16 => ?_)
                              ·
                                exact yL.rf
                              ·
                                refine yL.eq (y_ts (c := 14) (lo' := 15) kc_14 (by decide)) ?_
                                refine yL.ite (fun h17 => ?_) (fun h17 => ?_)
                                ·
                                  exact yL.rf
                                ·
                                  refine yL.eq (y_ts (c := 15) (lo' := 16) kc_15 (by decide)) ?_
                                  refine yL.ite (fun h18 => ?_) (fun h18 => ?_)
                                  ·
                                    exact yL.rf
                                  ·
                                    refine yL.eq (y_ts (c := 16) (lo' := 17) kc_16 (by decide)) ?_
                                    refine yL.ite (fun h19 => ?_) (fun h19 => ?_)
                                    ·
                                      exact yL.rf
                                    ·
                                      refine yL.eq (y_ts (c := 17) (lo' := 18) kc_17 (by decide)) ?_
                                      refine yL.ite (fun h20 => ?_) (fun h20 => ?_)
                                      ·
                                        exact yL.rf
                                      ·
                                        refine yL.eq (y_ts (c := 18) (lo' := 19) kc_18 (by decide)) ?_
                                        refine yL.ite (fun h21 => ?_) (fun h21 => ?_)
                                        ·
                                          exact yL.rf
                                        ·
                                          refine yL.eq (y_ts (c := 19) (lo' := 20) kc_19 (by decide)) ?_
                                          refine yL.ite (fun h22 => ?_) (fun h22 => ?_)
                                          ·
                                            exact yL.rf
                                          ·
                                            refine yL.eq (y_ts (c := 20) (lo' := 21) kc_20 (by decide)) ?_
                                            refine yL.ite (fun h23 => ?_) (fun h23 => ?_)
                                            ·
                                              exact yL.rf
                                            ·
                                              refine yL.eq (y_ts (c := 21) (lo' := 22) kc_21 (by decide)) ?_
                                              refine yL.ite (fun h24 => ?_) (fun h24 => ?_)
                                              ·
                                                exact yL.rf
                                              ·
                                                refine yL.eq (y_ts (c := 22) (lo' := 23) kc_22 (by decide)) ?_
                                                refine yL.ite (fun h25 => ?_) (fun h25 => ?_)
                                                ·
                                                  exact yL.rf
                                                ·
                                                  refine yL.eq (y_ts (c := 23) (lo' := 24) kc_23 (by decide)) ?_
                                                  refine yL.ite (fun h26 => ?_) (fun h26 => ?_)
                                                  ·
                                                    exact yL.rf
                                                  ·
                                                    refine yL.eq (y_ts (c := 24) (lo' := 25) kc_24 (by decide)) ?_
                                                    refine yL.ite (fun h27 => ?_) (fun h27 => ?_)
                                                    ·
                                                      exact yL.rf
                                                    ·
                                                      refine yL.eq (y_ts (c := 25) (lo' := 26) kc_25 (by decide)) ?_
                                                      refine yL.ite (fun h28 => ?_) (fun h28 => ?_)
                                                      ·
                                                        exact yL.rf
                                                      ·
                                                        refine yL.eq (y_ts (c := 26) (lo' := 27) kc_26 (by decide)) ?_
                                                        refine yL.ite (fun h29 => ?_) (fun h29 => ?_)
                                                        ·
                                                          exact yL.rf
                                                        ·
                                                          refine yL.eq (y_ts (c := 27) (lo' := 28) kc_27 (by decide)) ?_
                                                          refine yL.ite (fun h30 => ?_) (fun h30 => ?_)
                                                          ·
                                                            exact yL.rf
                                                          ·
                                                            refine yL.eq (y_ts (c := 28) (lo' := 29) kc_28 (by decide)) ?_
                                                            refine yL.ite (fun h31 => ?_) (fun h31 => ?_)
                                                            ·
                                                              exact yL.rf
                                                            ·
                                                              refine yL.eq (y_ts (c := 29) (lo' := 30) kc_29 (by decide)) ?_
                                                              refine yL.ite (fun h32 => ?_) (fun h32 => ?_)
                                                              ·
                                                                exact yL.rf
                                                              ·
                                                                refine yL.eq (y_ts (c := 30) (lo' := 31) kc_30 (by decide)) ?_
                                                                refine yL.ite (fun h33 => ?_) (fun h33 => ?_)
                                                                ·
                                                                  exact yL.rf
                                                                ·
                                                                  refine yL.eq y_tsn ?_
                                                                  refine yL.eq (y_iinc (pc := 2111) (v := 4) (x := x4) (ls' := [some (.ref 0), some (.ref 7), some (.ref 190), some (.ref 202), some (.int (x4 + 4)), o5, o6]) d240_2111 kc_4 rfl (Nat.le_of_ble_eq_true rfl) rfl) ?_
                                                                  refine yL.eq (y_goto (pc := 2114) (t := 23) d240_2114 (by decide)) ?_
                                                                  exact yL.rf
  ·
    refine yL.eq (y_iconst (pc := 2117) (v := 1) d240_2117 kc_1) ?_
    exact yL.eq (y_iretz (pc := 2118) d240_2118 mr_240) (yL.eq yZ_1 yL.rf)
set_option maxRecDepth 20000 in
set_option maxHeartbeats 4000000 in
theorem e240_176 {x4 : Int32} {o5 : Option Value} {o6 : Option Value} {M : yM} {nc ns : Nat} (hn : nc + 4 ≤ 601024 ∧ ns + 24 ≤ 7293034) : yL (if yinB (x4 + 1) (ylen M) = true then yCi false (yX 212 0 [some (.ref 7), some (.int (M 0 (yx (x4 + 1)))), some (.ref 202), none] [] M 0 0) fun v3 M2 => if yinB (x4 + 1) (ylen M2) = true then yCi false (yX 155 0 [some (.ref 190), some (.int (M2 0 (yx (x4 + 1))))] [] M2 0 0) fun v6 M5 => yCi false (yX 106 0 [some (.ref 190)] [] M5 0 0) fun v8 M7 => if v8 = v3 then if v3 = 0 then if ((M7 202 0).toInt64) = v6.toInt64 then yX 240 23 [some (.ref 0), some (.ref 7), some (.ref 190), some (.ref 202), some (.int (x4 + 4)), some (.int v3), some (.int v6)] [] M7 (nc + 2) (ns + 12) else yI 0 M7 else yX 240 23 [some (.ref 0), some (.ref 7), some (.ref 190), some (.ref 202), some (.int (x4 + 4)), some (.int v3), some (.int v6)] [] M7 (nc + 2) (ns + 12) else yI 0 M7 else none else none) (yX 240 176 [some (.ref 0), some (.ref 7), some (.ref 190), some (.ref 202), some (.int x4), o5, o6] [] M nc ns) := by
  refine yL.eq (y_aload_n (pc := 176) (x := 7) d240_176 rfl) ?_
  refine yL.eq (y_aload_n (pc := 177) (x := 0) d240_177 rfl) ?_
  refine yL.eq (y_iload (pc := 178) (x := x4) d240_178 rfl) ?_
  refine yL.eq (y_iconst (pc := 180) (v := 1) d240_180 kc_1) ?_
  refine yL.eq (y_iadd (pc := 181) d240_181) ?_
  refine yL.eq (y_iald0 (pc := 182) d240_182) ?_
  refine yL.gd (fun h1 => ?_)
  refine yL.eq (y_aload_n (pc := 183) (x := 202) d240_183 rfl) ?_
  refine y_calls_i (pc := 184) (n := 3) (n' := 4) (nc' := nc + 2) (ns' := ns + 12) [.ref 7, .int (M 0 (yx (x4 + 1))), .ref 202] [] false d240_184 q240_109 rfl rfl rfl (Nat.le_of_ble_eq_true rfl) (Nat.le_of_ble_eq_true rfl) rfl (by decide +kernel) (y_rmc (c := 2) (s := 12) mcs_212 hn (by decide)) (fun v3 M2 => ?_)
  refine yL.eq (y_istore (pc := 187) (ls' := [some (.ref 0), some (.ref 7), some (.ref 190), some (.ref 202), some (.int x4), some (.int v3), o6]) d240_187 rfl rfl) ?_
  refine yL.eq (y_aload_n (pc := 189) (x := 190) d240_189 rfl) ?_
  refine yL.eq (y_aload_n (pc := 190) (x := 0) d240_190 rfl) ?_
  refine yL.eq (y_iload (pc := 191) (x := x4) d240_191 rfl) ?_
  refine yL.eq (y_iconst (pc := 193) (v := 1) d240_193 kc_1) ?_
  refine yL.eq (y_iadd (pc := 194) d240_194) ?_
  refine yL.eq (y_iald0 (pc := 195) d240_195) ?_
  refine yL.gd (fun h4 => ?_)
  refine y_callv_i (pc := 196) (n := 2) (n' := 2) (nc' := nc + 2) (ns' := ns + 12) [.int (M2 0 (yx (x4 + 1)))] [] false d240_196 q240_114 mk_155 s_t_190 rfl rfl (Nat.le_of_ble_eq_true rfl) (Nat.le_of_ble_eq_true rfl) rfl (by decide +kernel) (y_rmd (c := 2) (s := 12) mcs_155 hn (by decide)) (fun v6 M5 => ?_)
  refine yL.eq (y_istore (pc := 199) (ls' := [some (.ref 0), some (.ref 7), some (.ref 190), some (.ref 202), some (.int x4), some (.int v3), some (.int v6)]) d240_199 rfl rfl) ?_
  refine yL.eq (y_aload_n (pc := 201) (x := 190) d240_201 rfl) ?_
  refine y_callv_i (pc := 202) (n := 1) (n' := 1) (nc' := nc + 2) (ns' := ns + 12) [] [] false d240_202 q240_115 mk_106 s_t_190 rfl rfl (Nat.le_of_ble_eq_true rfl) (Nat.le_of_ble_eq_true rfl) rfl (by decide +kernel) (y_rmd (c := 2) (s := 12) mcs_106 hn (by decide)) (fun v8 M7 => ?_)
  refine yL.eq (y_iload (pc := 205) (x := v3) d240_205 rfl) ?_
  refine yL.eq (y_icmp_eq (pc := 207) (t := 212) d240_207 (by decide)) ?_
  refine yL.ite (fun h9 => ?_) (fun h9 => ?_)
  ·
    refine yL.eq (y_iload (pc := 212) (x := v3) d240_212 rfl) ?_
    refine yL.eq (y_if_ne (pc := 214) (t := 229) d240_214 (by decide)) ?_
    refine yL.ite (fun h10 => ?_) (fun h10 => ?_)
    ·
      refine yL.eq (y_aload_n (pc := 217) (x := 202) d240_217 rfl) ?_
      refine yL.eq (y_iconst (pc := 218) (v := 0) d240_218 kc_0) ?_
      refine yL.eq (y_lald (pc := 219) d240_219 s_21) ?_
      refine yL.eq (y_iload (pc := 220) (x := v6) d240_220 rfl) ?_
      refine yL.eq (y_i2l (pc := 222) d240_222) ?_
      refine yL.eq (y_lcmp (pc := 223) d240_223) ?_
      refine yL.eq (y_lif_eq (pc := 224) (t := 229) d240_224 (by decide)) ?_
      refine yL.ite (fun h11 => ?_) (fun h11 => ?_)
      ·
        refine yL.eq (y_goto (pc := 229) (t := 2111) d240_229 (by decide)) ?_
        refine yL.eq (y_iinc (pc := 2111) (v := 4) (x := x4) (ls' := [some (.ref 0), some (.ref 7), some (.ref 190), some (.ref 202), some (.int (x4 + 4)), some (.int v3), some (.int v6)]) d240_2111 kc_4 rfl (Nat.le_of_ble_eq_true rfl) rfl) ?_
        refine yL.eq (y_goto (pc := 2114) (t := 23) d240_2114 (by decide)) ?_
        exact yL.rf
      ·
        refine yL.eq (y_iconst (pc := 227) (v := 0) d240_227 kc_0) ?_
        exact yL.eq (y_iretz (pc := 228) d240_228 mr_240) (yL.eq yZ_0 yL.rf)
    ·
      refine yL.eq (y_goto (pc := 229) (t := 2111) d240_229 (by decide)) ?_
      refine yL.eq (y_iinc (pc := 2111) (v := 4) (x := x4) (ls' := [some (.ref 0), some (.ref 7), some (.ref 190), some (.ref 202), some (.int (x4 + 4)), some (.int v3), some (.int v6)]) d240_2111 kc_4 rfl (Nat.le_of_ble_eq_true rfl) rfl) ?_
      refine yL.eq (y_goto (pc := 2114) (t := 23) d240_2114 (by decide)) ?_
      exact yL.rf
  ·
    refine yL.eq (y_iconst (pc := 210) (v := 0) d240_210 kc_0) ?_
    exact yL.eq (y_iretz (pc := 211) d240_211 mr_240) (yL.eq yZ_0 yL.rf)
set_option maxRecDepth 20000 in
set_option maxHeartbeats 4000000 in
theorem e240_232 {x4 : Int32} {o5 : Option Value} {o6 : Option Value} {M : yM} {nc ns : Nat} (hn : nc + 4 ≤ 601024 ∧ ns + 24 ≤ 7293034) : yL (yCi false (yX 59 0 [some (.ref 7), none] [] M 0 0) fun v2 M1 => yCi false (yX 156 0 [some (.ref 190), none] [] M1 0 0) fun v4 M3 => if v2 = v4 then yX 240 23 [some (.ref 0), some (.ref 7), some (.ref 190), some (.ref 202), some (.int (x4 + 4)), o5, o6] [] M3 nc ns else yI 0 M3) (yX 240 232 [some (.ref 0), some (.ref 7), some (.ref 190), some (.ref 202), some (.int x4), o5, o6] [] M nc ns) := by
  refine yL.eq (y_aload_n (pc := 232) (x := 7) d240_232 rfl) ?_
  refine y_callv_i (pc := 233) (n := 1) (n' := 2) (nc' := nc) (ns' := ns) [] [] false d240_233 q240_118 mk_59 s_t_7 rfl rfl (Nat.le_of_ble_eq_true rfl) (Nat.le_of_ble_eq_true rfl) rfl (by decide +kernel) (y_rm0 mcs_59 hn) (fun v2 M1 => ?_)
  refine yL.eq (y_aload_n (pc := 236) (x := 190) d240_236 rfl) ?_
  refine y_callv_i (pc := 237) (n := 1) (n' := 2) (nc' := nc) (ns' := ns) [] [.int v2] false d240_237 q240_121 mk_156 s_t_190 rfl rfl (Nat.le_of_ble_eq_true rfl) (Nat.le_of_ble_eq_true rfl) rfl (by decide +kernel) (y_rm0 mcs_156 hn) (fun v4 M3 => ?_)
  refine yL.eq (y_icmp_eq (pc := 240) (t := 2111) d240_240 (by decide)) ?_
  refine yL.ite (fun h5 => ?_) (fun h5 => ?_)
  ·
    refine yL.eq (y_iinc (pc := 2111) (v := 4) (x := x4) (ls' := [some (.ref 0), some (.ref 7), some (.ref 190), some (.ref 202), some (.int (x4 + 4)), o5, o6]) d240_2111 kc_4 rfl (Nat.le_of_ble_eq_true rfl) rfl) ?_
    refine yL.eq (y_goto (pc := 2114) (t := 23) d240_2114 (by decide)) ?_
    exact yL.rf
  ·
    refine yL.eq (y_iconst (pc := 243) (v := 0) d240_243 kc_0) ?_
    exact yL.eq (y_iretz (pc := 244) d240_244 mr_240) (yL.eq yZ_0 yL.rf)
set_option maxRecDepth 20000 in
set_option maxHeartbeats 4000000 in
theorem e240_245 {x4 : Int32} {o5 : Option Value} {o6 : Option Value} {M : yM} {nc ns : Nat} (hn : nc + 4 ≤ 601024 ∧ ns + 24 ≤ 7293034) : yL (yCi false (yX 60 0 [some (.ref 7)] [] M 0 0) fun v2 M1 => yCi false (yX 170 0 [some (.ref 190)] [] M1 0 0) fun v4 M3 => if v2 = v4 then yX 240 23 [some (.ref 0), some (.ref 7), some (.ref 190), some (.ref 202), some (.int (x4 + 4)), o5, o6] [] M3 nc ns else yI 0 M3) (yX 240 245 [some (.ref 0), some (.ref 7), some (.ref 190), some (.ref 202), some (.int x4), o5, o6] [] M nc ns) := by
  refine yL.eq (y_aload_n (pc := 245) (x := 7) d240_245 rfl) ?_
  refine y_callv_i (pc := 246) (n := 1) (n' := 1) (nc' := nc) (ns' := ns) [] [] false d240_246 q240_122 mk_60 s_t_7 rfl rfl (Nat.le_of_ble_eq_true rfl) (Nat.le_of_ble_eq_true rfl) rfl (by decide +kernel) (y_rm0 mcs_60 hn) (fun v2 M1 => ?_)
  refine yL.eq (y_aload_n (pc := 249) (x := 190) d240_249 rfl) ?_
  refine y_callv_i (pc := 250) (n := 1) (n' := 1) (nc' := nc) (ns' := ns) [] [.int v2] false d240_250 q240_125 mk_170 s_t_190 rfl rfl (Nat.le_of_ble_eq_true rfl) (Nat.le_of_ble_eq_true rfl) rfl (by decide +kernel) (y_rm0 mcs_170 hn) (fun v4 M3 => ?_)
  refine yL.eq (y_icmp_eq (pc := 253) (t := 2111) d240_253 (by decide)) ?_
  refine yL.ite (fun h5 => ?_) (fun h5 => ?_)
  ·
    refine yL.eq (y_iinc (pc := 2111) (v := 4) (x := x4) (ls' := [some (.ref 0), some (.ref 7), some (.ref 190), some (.ref 202), some (.int (x4 + 4)), o5, o6]) d240_2111 kc_4 rfl (Nat.le_of_ble_eq_true rfl) rfl) ?_
    refine yL.eq (y_goto (pc := 2114) (t := 23) d240_2114 (by decide)) ?_
    exact yL.rf
  ·
    refine yL.eq (y_iconst (pc := 256) (v := 0) d240_256 kc_0) ?_
    exact yL.eq (y_iretz (pc := 257) d240_257 mr_240) (yL.eq yZ_0 yL.rf)
set_option maxRecDepth 20000 in
set_option maxHeartbeats 4000000 in
theorem e240_258 {x4 : Int32} {o5 : Option Value} {o6 : Option Value} {M : yM} {nc ns : Nat} (hn : nc + 4 ≤ 601024 ∧ ns + 24 ≤ 7293034) : yL (yCi false (yX 213 0 [some (.ref 7), some (.ref 202), none] [] M 0 0) fun v2 M1 => yCi false (yX 171 0 [some (.ref 190)] [] M1 0 0) fun v4 M3 => yCi false (yX 106 0 [some (.ref 190)] [] M3 0 0) fun v6 M5 => if v6 = v2 then if v2 = 0 then if ((M5 202 0).toInt64) = v4.toInt64 then yX 240 23 [some (.ref 0), some (.ref 7), some (.ref 190), some (.ref 202), some (.int (x4 + 4)), some (.int v2), some (.int v4)] [] M5 (nc + 1) (ns + 6) else yI 0 M5 else yX 240 23 [some (.ref 0), some (.ref 7), some (.ref 190), some (.ref 202), some (.int (x4 + 4)), some (.int v2), some (.int v4)] [] M5 (nc + 1) (ns + 6) else yI 0 M5) (yX 240 258 [some (.ref 0), some (.ref 7), some (.ref 190), some (.ref 202), some (.int x4), o5, o6] [] M nc ns) := by
  refine yL.eq (y_aload_n (pc := 258) (x := 7) d240_258 rfl) ?_
  refine yL.eq (y_aload_n (pc := 259) (x := 202) d240_259 rfl) ?_
  refine y_calls_i (pc := 260) (n := 2) (n' := 3) (nc' := nc + 1) (ns' := ns + 6) [.ref 7, .ref 202] [] false d240_260 q240_126 rfl rfl rfl (Nat.le_of_ble_eq_true rfl) (Nat.le_of_ble_eq_true rfl) rfl (by decide +kernel) (y_rmc (c := 1) (s := 6) mcs_213 hn (by decide)) (fun v2 M1 => ?_)
  refine yL.eq (y_istore (pc := 263) (ls' := [some (.ref 0), some (.ref 7), some (.ref 190), some (.ref 202), some (.int x4), some (.int v2), o6]) d240_263 rfl rfl) ?_
  refine yL.eq (y_aload_n (pc := 265) (x := 190) d240_265 rfl) ?_
  refine y_callv_i (pc := 266) (n := 1) (n' := 1) (nc' := nc + 1) (ns' := ns + 6) [] [] false d240_266 q240_129 mk_171 s_t_190 rfl rfl (Nat.le_of_ble_eq_true rfl) (Nat.le_of_ble_eq_true rfl) rfl (by decide +kernel) (y_rmd (c := 1) (s := 6) mcs_171 hn (by decide)) (fun v4 M3 => ?_)
  refine yL.eq (y_istore (pc := 269) (ls' := [some (.ref 0), some (.ref 7), some (.ref 190), some (.ref 202), some (.int x4), some (.int v2), some (.int v4)]) d240_269 rfl rfl) ?_
  refine yL.eq (y_aload_n (pc := 271) (x := 190) d240_271 rfl) ?_
  refine y_callv_i (pc := 272) (n := 1) (n' := 1) (nc' := nc + 1) (ns' := ns + 6) [] [] false d240_272 q240_115 mk_106 s_t_190 rfl rfl (Nat.le_of_ble_eq_true rfl) (Nat.le_of_ble_eq_true rfl) rfl (by decide +kernel) (y_rmd (c := 1) (s := 6) mcs_106 hn (by decide)) (fun v6 M5 => ?_)
  refine yL.eq (y_iload (pc := 275) (x := v2) d240_275 rfl) ?_
  refine yL.eq (y_icmp_eq (pc := 277) (t := 282) d240_277 (by decide)) ?_
  refine yL.ite (fun h7 => ?_) (fun h7 => ?_)
  ·
    refine yL.eq (y_iload (pc := 282) (x := v2) d240_282 rfl) ?_
    refine yL.eq (y_if_ne (pc := 284) (t := 299) d240_284 (by decide)) ?_
    refine yL.ite (fun h8 => ?_) (fun h8 => ?_)
    ·
      refine yL.eq (y_aload_n (pc := 287) (x := 202) d240_287 rfl) ?_
      refine yL.eq (y_iconst (pc := 288) (v := 0) d240_288 kc_0) ?_
      refine yL.eq (y_lald (pc := 289) d240_289 s_21) ?_
      refine yL.eq (y_iload (pc := 290) (x := v4) d240_290 rfl) ?_
      refine yL.eq (y_i2l (pc := 292) d240_292) ?_
      refine yL.eq (y_lcmp (pc := 293) d240_293) ?_
      refine yL.eq (y_lif_eq (pc := 294) (t := 299) d240_294 (by decide)) ?_
      refine yL.ite (fun h9 => ?_) (fun h9 => ?_)
      ·
        refine yL.eq (y_goto (pc := 299) (t := 2111) d240_299 (by decide)) ?_
        refine yL.eq (y_iinc (pc := 2111) (v := 4) (x := x4) (ls' := [some (.ref 0), some (.ref 7), some (.ref 190), some (.ref 202), some (.int (x4 + 4)), some (.int v2), some (.int v4)]) d240_2111 kc_4 rfl (Nat.le_of_ble_eq_true rfl) rfl) ?_
        refine yL.eq (y_goto (pc := 2114) (t := 23) d240_2114 (by decide)) ?_
        exact yL.rf
      ·
        refine yL.eq (y_iconst (pc := 297) (v := 0) d240_297 kc_0) ?_
        exact yL.eq (y_iretz (pc := 298) d240_298 mr_240) (yL.eq yZ_0 yL.rf)
    ·
      refine yL.eq (y_goto (pc := 299) (t := 2111) d240_299 (by decide)) ?_
      refine yL.eq (y_iinc (pc := 2111) (v := 4) (x := x4) (ls' := [some (.ref 0), some (.ref 7), some (.ref 190), some (.ref 202), some (.int (x4 + 4)), some (.int v2), some (.int v4)]) d240_2111 kc_4 rfl (Nat.le_of_ble_eq_true rfl) rfl) ?_
      refine yL.eq (y_goto (pc := 2114) (t := 23) d240_2114 (by decide)) ?_
      exact yL.rf
  ·
    refine yL.eq (y_iconst (pc := 280) (v := 0) d240_280 kc_0) ?_
    exact yL.eq (y_iretz (pc := 281) d240_281 mr_240) (yL.eq yZ_0 yL.rf)
set_option maxRecDepth 20000 in
set_option maxHeartbeats 4000000 in
theorem e240_302 {x4 : Int32} {o5 : Option Value} {o6 : Option Value} {M : yM} {nc ns : Nat} (hn : nc + 4 ≤ 601024 ∧ ns + 24 ≤ 7293034) : yL (if yinB (x4 + 1) (ylen M) = true then yCi false (yX 214 0 [some (.ref 7), some (.int (M 0 (yx (x4 + 1)))), some (.ref 202), none] [] M 0 0) fun v3 M2 => if yinB (x4 + 1) (ylen M2) = true then yCi false (yX 174 0 [some (.ref 190), some (.int (M2 0 (yx (x4 + 1))))] [] M2 0 0) fun v6 M5 => yCi false (yX 106 0 [some (.ref 190)] [] M5 0 0) fun v8 M7 => if v8 = v3 then if v3 = 0 then if ((M7 202 0).toInt64) = v6.toInt64 then yX 240 23 [some (.ref 0), some (.ref 7), some (.ref 190), some (.ref 202), some (.int (x4 + 4)), some (.int v3), some (.int v6)] [] M7 (nc + 1) (ns + 6) else yI 0 M7 else yX 240 23 [some (.ref 0), some (.ref 7), some (.ref 190), some (.ref 202), some (.int (x4 + 4)), some (.int v3), some (.int v6)] [] M7 (nc + 1) (ns + 6) else yI 0 M7 else none else none) (yX 240 302 [some (.ref 0), some (.ref 7), some (.ref 190), some (.ref 202), some (.int x4), o5, o6] [] M nc ns) := by
  refine yL.eq (y_aload_n (pc := 302) (x := 7) d240_302 rfl) ?_
  refine yL.eq (y_aload_n (pc := 303) (x := 0) d240_303 rfl) ?_
  refine yL.eq (y_iload (pc := 304) (x := x4) d240_304 rfl) ?_
  refine yL.eq (y_iconst (pc := 306) (v := 1) d240_306 kc_1) ?_
  refine yL.eq (y_iadd (pc := 307) d240_307) ?_
  refine yL.eq (y_iald0 (pc := 308) d240_308) ?_
  refine yL.gd (fun h1 => ?_)
  refine yL.eq (y_aload_n (pc := 309) (x := 202) d240_309 rfl) ?_
  refine y_calls_i (pc := 310) (n := 3) (n' := 4) (nc' := nc + 1) (ns' := ns + 6) [.ref 7, .int (M 0 (yx (x4 + 1))), .ref 202] [] false d240_310 q240_130 rfl rfl rfl (Nat.le_of_ble_eq_true rfl) (Nat.le_of_ble_eq_true rfl) rfl (by decide +kernel) (y_rmc (c := 1) (s := 6) mcs_214 hn (by decide)) (fun v3 M2 => ?_)
  refine yL.eq (y_istore (pc := 313) (ls' := [some (.ref 0), some (.ref 7), some (.ref 190), some (.ref 202), some (.int x4), some (.int v3), o6]) d240_313 rfl rfl) ?_
  refine yL.eq (y_aload_n (pc := 315) (x := 190) d240_315 rfl) ?_
  refine yL.eq (y_aload_n (pc := 316) (x := 0) d240_316 rfl) ?_
  refine yL.eq (y_iload (pc := 317) (x := x4) d240_317 rfl) ?_
  refine yL.eq (y_iconst (pc := 319) (v := 1) d240_319 kc_1) ?_
  refine yL.eq (y_iadd (pc := 320) d240_320) ?_
  refine yL.eq (y_iald0 (pc := 321) d240_321) ?_
  refine yL.gd (fun h4 => ?_)
  refine y_callv_i (pc := 322) (n := 2) (n' := 2) (nc' := nc + 1) (ns' := ns + 6) [.int (M2 0 (yx (x4 + 1)))] [] false d240_322 q240_132 mk_174 s_t_190 rfl rfl (Nat.le_of_ble_eq_true rfl) (Nat.le_of_ble_eq_true rfl) rfl (by decide +kernel) (y_rmd (c := 1) (s := 6) mcs_174 hn (by decide)) (fun v6 M5 => ?_)
  refine yL.eq (y_istore (pc := 325) (ls' := [some (.ref 0), some (.ref 7), some (.ref 190), some (.ref 202), some (.int x4), some (.int v3), some (.int v6)]) d240_325 rfl rfl) ?_
  refine yL.eq (y_aload_n (pc := 327) (x := 190) d240_327 rfl) ?_
  refine y_callv_i (pc := 328) (n := 1) (n' := 1) (nc' := nc + 1) (ns' := ns + 6) [] [] false d240_328 q240_115 mk_106 s_t_190 rfl rfl (Nat.le_of_ble_eq_true rfl) (Nat.le_of_ble_eq_true rfl) rfl (by decide +kernel) (y_rmd (c := 1) (s := 6) mcs_106 hn (by decide)) (fun v8 M7 => ?_)
  refine yL.eq (y_iload (pc := 331) (x := v3) d240_331 rfl) ?_
  refine yL.eq (y_icmp_eq (pc := 333) (t := 338) d240_333 (by decide)) ?_
  refine yL.ite (fun h9 => ?_) (fun h9 => ?_)
  ·
    refine yL.eq (y_iload (pc := 338) (x := v3) d240_338 rfl) ?_
    refine yL.eq (y_if_ne (pc := 340) (t := 355) d240_340 (by decide)) ?_
    refine yL.ite (fun h10 => ?_) (fun h10 => ?_)
    ·
      refine yL.eq (y_aload_n (pc := 343) (x := 202) d240_343 rfl) ?_
      refine yL.eq (y_iconst (pc := 344) (v := 0) d240_344 kc_0) ?_
      refine yL.eq (y_lald (pc := 345) d240_345 s_21) ?_
      refine yL.eq (y_iload (pc := 346) (x := v6) d240_346 rfl) ?_
      refine yL.eq (y_i2l (pc := 348) d240_348) ?_
      refine yL.eq (y_lcmp (pc := 349) d240_349) ?_
      refine yL.eq (y_lif_eq (pc := 350) (t := 355) d240_350 (by decide)) ?_
      refine yL.ite (fun h11 => ?_) (fun h11 => ?_)
      ·
        refine yL.eq (y_goto (pc := 355) (t := 2111) d240_355 (by decide)) ?_
        refine yL.eq (y_iinc (pc := 2111) (v := 4) (x := x4) (ls' := [some (.ref 0), some (.ref 7), some (.ref 190), some (.ref 202), some (.int (x4 + 4)), some (.int v3), some (.int v6)]) d240_2111 kc_4 rfl (Nat.le_of_ble_eq_true rfl) rfl) ?_
        refine yL.eq (y_goto (pc := 2114) (t := 23) d240_2114 (by decide)) ?_
        exact yL.rf
      ·
        refine yL.eq (y_iconst (pc := 353) (v := 0) d240_353 kc_0) ?_
        exact yL.eq (y_iretz (pc := 354) d240_354 mr_240) (yL.eq yZ_0 yL.rf)
    ·
      refine yL.eq (y_goto (pc := 355) (t := 2111) d240_355 (by decide)) ?_
      refine yL.eq (y_iinc (pc := 2111) (v := 4) (x := x4) (ls' := [some (.ref 0), some (.ref 7), some (.ref 190), some (.ref 202), some (.int (x4 + 4)), some (.int v3), some (.int v6)]) d240_2111 kc_4 rfl (Nat.le_of_ble_eq_true rfl) rfl) ?_
      refine yL.eq (y_goto (pc := 2114) (t := 23) d240_2114 (by decide)) ?_
      exact yL.rf
  ·
    refine yL.eq (y_iconst (pc := 336) (v := 0) d240_336 kc_0) ?_
    exact yL.eq (y_iretz (pc := 337) d240_337 mr_240) (yL.eq yZ_0 yL.rf)
set_option maxRecDepth 20000 in
set_option maxHeartbeats 4000000 in
theorem e240_358 {x4 : Int32} {o5 : Option Value} {o6 : Option Value} {M : yM} {nc ns : Nat} (hn : nc + 4 ≤ 601024 ∧ ns + 24 ≤ 7293034) : yL (if yinB (x4 + 1) (ylen M) = true then if yinB (x4 + 2) (ylen M) = true then yCi false (yX 215 0 [some (.ref 7), some (.int (M 0 (yx (x4 + 1)))), some (.int (M 0 (yx (x4 + 2)))), some (.ref 202), none] [] M 0 0) fun v4 M3 => if yinB (x4 + 1) (ylen M3) = true then if yinB (x4 + 2) (ylen M3) = true then yCi false (yX 177 0 [some (.ref 190), some (.int (M3 0 (yx (x4 + 1)))), some (.int (M3 0 (yx (x4 + 2))))] [] M3 0 0) fun v8 M7 => yCi false (yX 106 0 [some (.ref 190)] [] M7 0 0) fun v10 M9 => if v10 = v4 then if v4 = 0 then if ((M9 202 0).toInt64) = v8.toInt64 then yX 240 23 [some (.ref 0), some (.ref 7), some (.ref 190), some (.ref 202), some (.int (x4 + 4)), some (.int v4), some (.int v8)] [] M9 (nc + 2) (ns + 12) else yI 0 M9 else yX 240 23 [some (.ref 0), some (.ref 7), some (.ref 190), some (.ref 202), some (.int (x4 + 4)), some (.int v4), some (.int v8)] [] M9 (nc + 2) (ns + 12) else yI 0 M9 else none else none else none else none) (yX 240 358 [some (.ref 0), some (.ref 7), some (.ref 190), some (.ref 202), some (.int x4), o5, o6] [] M nc ns) := by
  refine yL.eq (y_aload_n (pc := 358) (x := 7) d240_358 rfl) ?_
  refine yL.eq (y_aload_n (pc := 359) (x := 0) d240_359 rfl) ?_
  refine yL.eq (y_iload (pc := 360) (x := x4) d240_360 rfl) ?_
  refine yL.eq (y_iconst (pc := 362) (v := 1) d240_362 kc_1) ?_
  refine yL.eq (y_iadd (pc := 363) d240_363) ?_
  refine yL.eq (y_iald0 (pc := 364) d240_364) ?_
  refine yL.gd (fun h1 => ?_)
  refine yL.eq (y_aload_n (pc := 365) (x := 0) d240_365 rfl) ?_
  refine yL.eq (y_iload (pc := 366) (x := x4) d240_366 rfl) ?_
  refine yL.eq (y_iconst (pc := 368) (v := 2) d240_368 kc_2) ?_
  refine yL.eq (y_iadd (pc := 369) d240_369) ?_
  refine yL.eq (y_iald0 (pc := 370) d240_370) ?_
  refine yL.gd (fun h2 => ?_)
  refine yL.eq (y_aload_n (pc := 371) (x := 202) d240_371 rfl) ?_
  refine y_calls_i (pc := 372) (n := 4) (n' := 5) (nc' := nc + 2) (ns' := ns + 12) [.ref 7, .int (M 0 (yx (x4 + 1))), .int (M 0 (yx (x4 + 2))), .ref 202] [] false d240_372 q240_133 rfl rfl rfl (Nat.le_of_ble_eq_true rfl) (Nat.le_of_ble_eq_true rfl) rfl (by decide +kernel) (y_rmc (c := 2) (s := 12) mcs_215 hn (by decide)) (fun v4 M3 => ?_)
  refine yL.eq (y_istore (pc := 375) (ls' := [some (.ref 0), some (.ref 7), some (.ref 190), some (.ref 202), some (.int x4), some (.int v4), o6]) d240_375 rfl rfl) ?_
  refine yL.eq (y_aload_n (pc := 377) (x := 190) d240_377 rfl) ?_
  refine yL.eq (y_aload_n (pc := 378) (x := 0) d240_378 rfl) ?_
  refine yL.eq (y_iload (pc := 379) (x := x4) d240_379 rfl) ?_
  refine yL.eq (y_iconst (pc := 381) (v := 1) d240_381 kc_1) ?_
  refine yL.eq (y_iadd (pc := 382) d240_382) ?_
  refine yL.eq (y_iald0 (pc := 383) d240_383) ?_
  refine yL.gd (fun h5 => ?_)
  refine yL.eq (y_aload_n (pc := 384) (x := 0) d240_384 rfl) ?_
  refine yL.eq (y_iload (pc := 385) (x := x4) d240_385 rfl) ?_
  refine yL.eq (y_iconst (pc := 387) (v := 2) d240_387 kc_2) ?_
  refine yL.eq (y_iadd (pc := 388) d240_388) ?_
  refine yL.eq (y_iald0 (pc := 389) d240_389) ?_
  refine yL.gd (fun h6 => ?_)
  refine y_callv_i (pc := 390) (n := 3) (n' := 3) (nc' := nc + 2) (ns' := ns + 12) [.int (M3 0 (yx (x4 + 1))), .int (M3 0 (yx (x4 + 2)))] [] false d240_390 q240_136 mk_177 s_t_190 rfl rfl (Nat.le_of_ble_eq_true rfl) (Nat.le_of_ble_eq_true rfl) rfl (by decide +kernel) (y_rmd (c := 2) (s := 12) mcs_177 hn (by decide)) (fun v8 M7 => ?_)
  refine yL.eq (y_istore (pc := 393) (ls' := [some (.ref 0), some (.ref 7), some (.ref 190), some (.ref 202), some (.int x4), some (.int v4), some (.int v8)]) d240_393 rfl rfl) ?_
  refine yL.eq (y_aload_n (pc := 395) (x := 190) d240_395 rfl) ?_
  refine y_callv_i (pc := 396) (n := 1) (n' := 1) (nc' := nc + 2) (ns' := ns + 12) [] [] false d240_396 q240_115 mk_106 s_t_190 rfl rfl (Nat.le_of_ble_eq_true rfl) (Nat.le_of_ble_eq_true rfl) rfl (by decide +kernel) (y_rmd (c := 2) (s := 12) mcs_106 hn (by decide)) (fun v10 M9 => ?_)
  refine yL.eq (y_iload (pc := 399) (x := v4) d240_399 rfl) ?_
  refine yL.eq (y_icmp_eq (pc := 401) (t := 406) d240_401 (by decide)) ?_
  refine yL.ite (fun h11 => ?_) (fun h11 => ?_)
  ·
    refine yL.eq (y_iload (pc := 406) (x := v4) d240_406 rfl) ?_
    refine yL.eq (y_if_ne (pc := 408) (t := 423) d240_408 (by decide)) ?_
    refine yL.ite (fun h12 => ?_) (fun h12 => ?_)
    ·
      refine yL.eq (y_aload_n (pc := 411) (x := 202) d240_411 rfl) ?_
      refine yL.eq (y_iconst (pc := 412) (v := 0) d240_412 kc_0) ?_
      refine yL.eq (y_lald (pc := 413) d240_413 s_21) ?_
      refine yL.eq (y_iload (pc := 414) (x := v8) d240_414 rfl) ?_
      refine yL.eq (y_i2l (pc := 416) d240_416) ?_
      refine yL.eq (y_lcmp (pc := 417) d240_417) ?_
      refine yL.eq (y_lif_eq (pc := 418) (t := 423) d240_418 (by decide)) ?_
      refine yL.ite (fun h13 => ?_) (fun h13 => ?_)
      ·
        refine yL.eq (y_goto (pc := 423) (t := 2111) d240_423 (by decide)) ?_
        refine yL.eq (y_iinc (pc := 2111) (v := 4) (x := x4) (ls' := [some (.ref 0), some (.ref 7), some (.ref 190), some (.ref 202), some (.int (x4 + 4)), some (.int v4), some (.int v8)]) d240_2111 kc_4 rfl (Nat.le_of_ble_eq_true rfl) rfl) ?_
        refine yL.eq (y_goto (pc := 2114) (t := 23) d240_2114 (by decide)) ?_
        exact yL.rf
      ·
        refine yL.eq (y_iconst (pc := 421) (v := 0) d240_421 kc_0) ?_
        exact yL.eq (y_iretz (pc := 422) d240_422 mr_240) (yL.eq yZ_0 yL.rf)
    ·
      refine yL.eq (y_goto (pc := 423) (t := 2111) d240_423 (by decide)) ?_
      refine yL.eq (y_iinc (pc := 2111) (v := 4) (x := x4) (ls' := [some (.ref 0), some (.ref 7), some (.ref 190), some (.ref 202), some (.int (x4 + 4)), some (.int v4), some (.int v8)]) d240_2111 kc_4 rfl (Nat.le_of_ble_eq_true rfl) rfl) ?_
      refine yL.eq (y_goto (pc := 2114) (t := 23) d240_2114 (by decide)) ?_
      exact yL.rf
  ·
    refine yL.eq (y_iconst (pc := 404) (v := 0) d240_404 kc_0) ?_
    exact yL.eq (y_iretz (pc := 405) d240_405 mr_240) (yL.eq yZ_0 yL.rf)
set_option maxRecDepth 20000 in
set_option maxHeartbeats 4000000 in
theorem e240_426 {x4 : Int32} {o5 : Option Value} {o6 : Option Value} {M : yM} {nc ns : Nat} (hn : nc + 4 ≤ 601024 ∧ ns + 24 ≤ 7293034) : yL (if yinB (x4 + 1) (ylen M) = true then if yinB (x4 + 2) (ylen M) = true then yCi false (yX 216 0 [some (.ref 7), some (.int (M 0 (yx (x4 + 1)))), some (.int (M 0 (yx (x4 + 2)))), some (.ref 202), none] [] M 0 0) fun v4 M3 => if yinB (x4 + 1) (ylen M3) = true then if yinB (x4 + 2) (ylen M3) = true then yCi false (yX 178 0 [some (.ref 190), some (.int (M3 0 (yx (x4 + 1)))), some (.int (M3 0 (yx (x4 + 2))))] [] M3 0 0) fun v8 M7 => yCi false (yX 106 0 [some (.ref 190)] [] M7 0 0) fun v10 M9 => if v10 = v4 then if v4 = 0 then if ((M9 202 0).toInt64) = v8.toInt64 then yX 240 23 [some (.ref 0), some (.ref 7), some (.ref 190), some (.ref 202), some (.int (x4 + 4)), some (.int v4), some (.int v8)] [] M9 (nc + 2) (ns + 12) else yI 0 M9 else yX 240 23 [some (.ref 0), some (.ref 7), some (.ref 190), some (.ref 202), some (.int (x4 + 4)), some (.int v4), some (.int v8)] [] M9 (nc + 2) (ns + 12) else yI 0 M9 else none else none else none else none) (yX 240 426 [some (.ref 0), some (.ref 7), some (.ref 190), some (.ref 202), some (.int x4), o5, o6] [] M nc ns) := by
  refine yL.eq (y_aload_n (pc := 426) (x := 7) d240_426 rfl) ?_
  refine yL.eq (y_aload_n (pc := 427) (x := 0) d240_427 rfl) ?_
  refine yL.eq (y_iload (pc := 428) (x := x4) d240_428 rfl) ?_
  refine yL.eq (y_iconst (pc := 430) (v := 1) d240_430 kc_1) ?_
  refine yL.eq (y_iadd (pc := 431) d240_431) ?_
  refine yL.eq (y_iald0 (pc := 432) d240_432) ?_
  refine yL.gd (fun h1 => ?_)
  refine yL.eq (y_aload_n (pc := 433) (x := 0) d240_433 rfl) ?_
  refine yL.eq (y_iload (pc := 434) (x := x4) d240_434 rfl) ?_
  refine yL.eq (y_iconst (pc := 436) (v := 2) d240_436 kc_2) ?_
  refine yL.eq (y_iadd (pc := 437) d240_437) ?_
  refine yL.eq (y_iald0 (pc := 438) d240_438) ?_
  refine yL.gd (fun h2 => ?_)
  refine yL.eq (y_aload_n (pc := 439) (x := 202) d240_439 rfl) ?_
  refine y_calls_i (pc := 440) (n := 4) (n' := 5) (nc' := nc + 2) (ns' := ns + 12) [.ref 7, .int (M 0 (yx (x4 + 1))), .int (M 0 (yx (x4 + 2))), .ref 202] [] false d240_440 q240_137 rfl rfl rfl (Nat.le_of_ble_eq_true rfl) (Nat.le_of_ble_eq_true rfl) rfl (by decide +kernel) (y_rmc (c := 2) (s := 12) mcs_216 hn (by decide)) (fun v4 M3 => ?_)
  refine yL.eq (y_istore (pc := 443) (ls' := [some (.ref 0), some (.ref 7), some (.ref 190), some (.ref 202), some (.int x4), some (.int v4), o6]) d240_443 rfl rfl) ?_
  refine yL.eq (y_aload_n (pc := 445) (x := 190) d240_445 rfl) ?_
  refine yL.eq (y_aload_n (pc := 446) (x := 0) d240_446 rfl) ?_
  refine yL.eq (y_iload (pc := 447) (x := x4) d240_447 rfl) ?_
  refine yL.eq (y_iconst (pc := 449) (v := 1) d240_449 kc_1) ?_
  refine yL.eq (y_iadd (pc := 450) d240_450) ?_
  refine yL.eq (y_iald0 (pc := 451) d240_451) ?_
  refine yL.gd (fun h5 => ?_)
  refine yL.eq (y_aload_n (pc := 452) (x := 0) d240_452 rfl) ?_
  refine yL.eq (y_iload (pc := 453) (x := x4) d240_453 rfl) ?_
  refine yL.eq (y_iconst (pc := 455) (v := 2) d240_455 kc_2) ?_
  refine yL.eq (y_iadd (pc := 456) d240_456) ?_
  refine yL.eq (y_iald0 (pc := 457) d240_457) ?_
  refine yL.gd (fun h6 => ?_)
  refine y_callv_i (pc := 458) (n := 3) (n' := 3) (nc' := nc + 2) (ns' := ns + 12) [.int (M3 0 (yx (x4 + 1))), .int (M3 0 (yx (x4 + 2)))] [] false d240_458 q240_139 mk_178 s_t_190 rfl rfl (Nat.le_of_ble_eq_true rfl) (Nat.le_of_ble_eq_true rfl) rfl (by decide +kernel) (y_rmd (c := 2) (s := 12) mcs_178 hn (by decide)) (fun v8 M7 => ?_)
  refine yL.eq (y_istore (pc := 461) (ls' := [some (.ref 0), some (.ref 7), some (.ref 190), some (.ref 202), some (.int x4), some (.int v4), some (.int v8)]) d240_461 rfl rfl) ?_
  refine yL.eq (y_aload_n (pc := 463) (x := 190) d240_463 rfl) ?_
  refine y_callv_i (pc := 464) (n := 1) (n' := 1) (nc' := nc + 2) (ns' := ns + 12) [] [] false d240_464 q240_115 mk_106 s_t_190 rfl rfl (Nat.le_of_ble_eq_true rfl) (Nat.le_of_ble_eq_true rfl) rfl (by decide +kernel) (y_rmd (c := 2) (s := 12) mcs_106 hn (by decide)) (fun v10 M9 => ?_)
  refine yL.eq (y_iload (pc := 467) (x := v4) d240_467 rfl) ?_
  refine yL.eq (y_icmp_eq (pc := 469) (t := 474) d240_469 (by decide)) ?_
  refine yL.ite (fun h11 => ?_) (fun h11 => ?_)
  ·
    refine yL.eq (y_iload (pc := 474) (x := v4) d240_474 rfl) ?_
    refine yL.eq (y_if_ne (pc := 476) (t := 491) d240_476 (by decide)) ?_
    refine yL.ite (fun h12 => ?_) (fun h12 => ?_)
    ·
      refine yL.eq (y_aload_n (pc := 479) (x := 202) d240_479 rfl) ?_
      refine yL.eq (y_iconst (pc := 480) (v := 0) d240_480 kc_0) ?_
      refine yL.eq (y_lald (pc := 481) d240_481 s_21) ?_
      refine yL.eq (y_iload (pc := 482) (x := v8) d240_482 rfl) ?_
      refine yL.eq (y_i2l (pc := 484) d240_484) ?_
      refine yL.eq (y_lcmp (pc := 485) d240_485) ?_
      refine yL.eq (y_lif_eq (pc := 486) (t := 491) d240_486 (by decide)) ?_
      refine yL.ite (fun h13 => ?_) (fun h13 => ?_)
      ·
        refine yL.eq (y_goto (pc := 491) (t := 2111) d240_491 (by decide)) ?_
        refine yL.eq (y_iinc (pc := 2111) (v := 4) (x := x4) (ls' := [some (.ref 0), some (.ref 7), some (.ref 190), some (.ref 202), some (.int (x4 + 4)), some (.int v4), some (.int v8)]) d240_2111 kc_4 rfl (Nat.le_of_ble_eq_true rfl) rfl) ?_
        refine yL.eq (y_goto (pc := 2114) (t := 23) d240_2114 (by decide)) ?_
        exact yL.rf
      ·
        refine yL.eq (y_iconst (pc := 489) (v := 0) d240_489 kc_0) ?_
        exact yL.eq (y_iretz (pc := 490) d240_490 mr_240) (yL.eq yZ_0 yL.rf)
    ·
      refine yL.eq (y_goto (pc := 491) (t := 2111) d240_491 (by decide)) ?_
      refine yL.eq (y_iinc (pc := 2111) (v := 4) (x := x4) (ls' := [some (.ref 0), some (.ref 7), some (.ref 190), some (.ref 202), some (.int (x4 + 4)), some (.int v4), some (.int v8)]) d240_2111 kc_4 rfl (Nat.le_of_ble_eq_true rfl) rfl) ?_
      refine yL.eq (y_goto (pc := 2114) (t := 23) d240_2114 (by decide)) ?_
      exact yL.rf
  ·
    refine yL.eq (y_iconst (pc := 472) (v := 0) d240_472 kc_0) ?_
    exact yL.eq (y_iretz (pc := 473) d240_473 mr_240) (yL.eq yZ_0 yL.rf)
set_option maxRecDepth 20000 in
set_option maxHeartbeats 4000000 in
theorem e240_494 {x4 : Int32} {o5 : Option Value} {o6 : Option Value} {M : yM} {nc ns : Nat} (hn : nc + 4 ≤ 601024 ∧ ns + 24 ≤ 7293034) : yL (if yinB (x4 + 1) (ylen M) = true then if yinB (x4 + 2) (ylen M) = true then yCi false (yX 217 0 [some (.ref 7), some (.int (M 0 (yx (x4 + 1)))), some (.int (M 0 (yx (x4 + 2)))), some (.ref 202), none] [] M 0 0) fun v4 M3 => if yinB (x4 + 1) (ylen M3) = true then if yinB (x4 + 2) (ylen M3) = true then yCi false (yX 179 0 [some (.ref 190), some (.int (M3 0 (yx (x4 + 1)))), some (.int (M3 0 (yx (x4 + 2))))] [] M3 0 0) fun v8 M7 => yCi false (yX 106 0 [some (.ref 190)] [] M7 0 0) fun v10 M9 => if v10 = v4 then if v4 = 0 then if ((M9 202 0).toInt64) = v8.toInt64 then yX 240 23 [some (.ref 0), some (.ref 7), some (.ref 190), some (.ref 202), some (.int (x4 + 4)), some (.int v4), some (.int v8)] [] M9 (nc + 2) (ns + 12) else yI 0 M9 else yX 240 23 [some (.ref 0), some (.ref 7), some (.ref 190), some (.ref 202), some (.int (x4 + 4)), some (.int v4), some (.int v8)] [] M9 (nc + 2) (ns + 12) else yI 0 M9 else none else none else none else none) (yX 240 494 [some (.ref 0), some (.ref 7), some (.ref 190), some (.ref 202), some (.int x4), o5, o6] [] M nc ns) := by
  refine yL.eq (y_aload_n (pc := 494) (x := 7) d240_494 rfl) ?_
  refine yL.eq (y_aload_n (pc := 495) (x := 0) d240_495 rfl) ?_
  refine yL.eq (y_iload (pc := 496) (x := x4) d240_496 rfl) ?_
  refine yL.eq (y_iconst (pc := 498) (v := 1) d240_498 kc_1) ?_
  refine yL.eq (y_iadd (pc := 499) d240_499) ?_
  refine yL.eq (y_iald0 (pc := 500) d240_500) ?_
  refine yL.gd (fun h1 => ?_)
  refine yL.eq (y_aload_n (pc := 501) (x := 0) d240_501 rfl) ?_
  refine yL.eq (y_iload (pc := 502) (x := x4) d240_502 rfl) ?_
  refine yL.eq (y_iconst (pc := 504) (v := 2) d240_504 kc_2) ?_
  refine yL.eq (y_iadd (pc := 505) d240_505) ?_
  refine yL.eq (y_iald0 (pc := 506) d240_506) ?_
  refine yL.gd (fun h2 => ?_)
  refine yL.eq (y_aload_n (pc := 507) (x := 202) d240_507 rfl) ?_
  refine y_calls_i (pc := 508) (n := 4) (n' := 5) (nc' := nc + 2) (ns' := ns + 12) [.ref 7, .int (M 0 (yx (x4 + 1))), .int (M 0 (yx (x4 + 2))), .ref 202] [] false d240_508 q240_140 rfl rfl rfl (Nat.le_of_ble_eq_true rfl) (Nat.le_of_ble_eq_true rfl) rfl (by decide +kernel) (y_rmc (c := 2) (s := 12) mcs_217 hn (by decide)) (fun v4 M3 => ?_)
  refine yL.eq (y_istore (pc := 511) (ls' := [some (.ref 0), some (.ref 7), some (.ref 190), some (.ref 202), some (.int x4), some (.int v4), o6]) d240_511 rfl rfl) ?_
  refine yL.eq (y_aload_n (pc := 513) (x := 190) d240_513 rfl) ?_
  refine yL.eq (y_aload_n (pc := 514) (x := 0) d240_514 rfl) ?_
  refine yL.eq (y_iload (pc := 515) (x := x4) d240_515 rfl) ?_
  refine yL.eq (y_iconst (pc := 517) (v := 1) d240_517 kc_1) ?_
  refine yL.eq (y_iadd (pc := 518) d240_518) ?_
  refine yL.eq (y_iald0 (pc := 519) d240_519) ?_
  refine yL.gd (fun h5 => ?_)
  refine yL.eq (y_aload_n (pc := 520) (x := 0) d240_520 rfl) ?_
  refine yL.eq (y_iload (pc := 521) (x := x4) d240_521 rfl) ?_
  refine yL.eq (y_iconst (pc := 523) (v := 2) d240_523 kc_2) ?_
  refine yL.eq (y_iadd (pc := 524) d240_524) ?_
  refine yL.eq (y_iald0 (pc := 525) d240_525) ?_
  refine yL.gd (fun h6 => ?_)
  refine y_callv_i (pc := 526) (n := 3) (n' := 3) (nc' := nc + 2) (ns' := ns + 12) [.int (M3 0 (yx (x4 + 1))), .int (M3 0 (yx (x4 + 2)))] [] false d240_526 q240_142 mk_179 s_t_190 rfl rfl (Nat.le_of_ble_eq_true rfl) (Nat.le_of_ble_eq_true rfl) rfl (by decide +kernel) (y_rmd (c := 2) (s := 12) mcs_179 hn (by decide)) (fun v8 M7 => ?_)
  refine yL.eq (y_istore (pc := 529) (ls' := [some (.ref 0), some (.ref 7), some (.ref 190), some (.ref 202), some (.int x4), some (.int v4), some (.int v8)]) d240_529 rfl rfl) ?_
  refine yL.eq (y_aload_n (pc := 531) (x := 190) d240_531 rfl) ?_
  refine y_callv_i (pc := 532) (n := 1) (n' := 1) (nc' := nc + 2) (ns' := ns + 12) [] [] false d240_532 q240_115 mk_106 s_t_190 rfl rfl (Nat.le_of_ble_eq_true rfl) (Nat.le_of_ble_eq_true rfl) rfl (by decide +kernel) (y_rmd (c := 2) (s := 12) mcs_106 hn (by decide)) (fun v10 M9 => ?_)
  refine yL.eq (y_iload (pc := 535) (x := v4) d240_535 rfl) ?_
  refine yL.eq (y_icmp_eq (pc := 537) (t := 542) d240_537 (by decide)) ?_
  refine yL.ite (fun h11 => ?_) (fun h11 => ?_)
  ·
    refine yL.eq (y_iload (pc := 542) (x := v4) d240_542 rfl) ?_
    refine yL.eq (y_if_ne (pc := 544) (t := 559) d240_544 (by decide)) ?_
    refine yL.ite (fun h12 => ?_) (fun h12 => ?_)
    ·
      refine yL.eq (y_aload_n (pc := 547) (x := 202) d240_547 rfl) ?_
      refine yL.eq (y_iconst (pc := 548) (v := 0) d240_548 kc_0) ?_
      refine yL.eq (y_lald (pc := 549) d240_549 s_21) ?_
      refine yL.eq (y_iload (pc := 550) (x := v8) d240_550 rfl) ?_
      refine yL.eq (y_i2l (pc := 552) d240_552) ?_
      refine yL.eq (y_lcmp (pc := 553) d240_553) ?_
      refine yL.eq (y_lif_eq (pc := 554) (t := 559) d240_554 (by decide)) ?_
      refine yL.ite (fun h13 => ?_) (fun h13 => ?_)
      ·
        refine yL.eq (y_goto (pc := 559) (t := 2111) d240_559 (by decide)) ?_
        refine yL.eq (y_iinc (pc := 2111) (v := 4) (x := x4) (ls' := [some (.ref 0), some (.ref 7), some (.ref 190), some (.ref 202), some (.int (x4 + 4)), some (.int v4), some (.int v8)]) d240_2111 kc_4 rfl (Nat.le_of_ble_eq_true rfl) rfl) ?_
        refine yL.eq (y_goto (pc := 2114) (t := 23) d240_2114 (by decide)) ?_
        exact yL.rf
      ·
        refine yL.eq (y_iconst (pc := 557) (v := 0) d240_557 kc_0) ?_
        exact yL.eq (y_iretz (pc := 558) d240_558 mr_240) (yL.eq yZ_0 yL.rf)
    ·
      refine yL.eq (y_goto (pc := 559) (t := 2111) d240_559 (by decide)) ?_
      refine yL.eq (y_iinc (pc := 2111) (v := 4) (x := x4) (ls' := [some (.ref 0), some (.ref 7), some (.ref 190), some (.ref 202), some (.int (x4 + 4)), some (.int v4), some (.int v8)]) d240_2111 kc_4 rfl (Nat.le_of_ble_eq_true rfl) rfl) ?_
      refine yL.eq (y_goto (pc := 2114) (t := 23) d240_2114 (by decide)) ?_
      exact yL.rf
  ·
    refine yL.eq (y_iconst (pc := 540) (v := 0) d240_540 kc_0) ?_
    exact yL.eq (y_iretz (pc := 541) d240_541 mr_240) (yL.eq yZ_0 yL.rf)
set_option maxRecDepth 20000 in
set_option maxHeartbeats 4000000 in
theorem e240_562 {x4 : Int32} {o5 : Option Value} {o6 : Option Value} {M : yM} {nc ns : Nat} (hn : nc + 4 ≤ 601024 ∧ ns + 24 ≤ 7293034) : yL (if yinB (x4 + 1) (ylen M) = true then yCi false (yX 218 0 [some (.ref 7), some (.int (M 0 (yx (x4 + 1)))), some (.ref 202), none] [] M 0 0) fun v3 M2 => if yinB (x4 + 1) (ylen M2) = true then yCi false (yX 180 0 [some (.ref 190), some (.int (M2 0 (yx (x4 + 1))))] [] M2 0 0) fun v6 M5 => yCi false (yX 106 0 [some (.ref 190)] [] M5 0 0) fun v8 M7 => if v8 = v3 then if v3 = 0 then if ((M7 202 0).toInt64) = v6.toInt64 then yX 240 23 [some (.ref 0), some (.ref 7), some (.ref 190), some (.ref 202), some (.int (x4 + 4)), some (.int v3), some (.int v6)] [] M7 (nc + 1) (ns + 6) else yI 0 M7 else yX 240 23 [some (.ref 0), some (.ref 7), some (.ref 190), some (.ref 202), some (.int (x4 + 4)), some (.int v3), some (.int v6)] [] M7 (nc + 1) (ns + 6) else yI 0 M7 else none else none) (yX 240 562 [some (.ref 0), some (.ref 7), some (.ref 190), some (.ref 202), some (.int x4), o5, o6] [] M nc ns) := by
  refine yL.eq (y_aload_n (pc := 562) (x := 7) d240_562 rfl) ?_
  refine yL.eq (y_aload_n (pc := 563) (x := 0) d240_563 rfl) ?_
  refine yL.eq (y_iload (pc := 564) (x := x4) d240_564 rfl) ?_
  refine yL.eq (y_iconst (pc := 566) (v := 1) d240_566 kc_1) ?_
  refine yL.eq (y_iadd (pc := 567) d240_567) ?_
  refine yL.eq (y_iald0 (pc := 568) d240_568) ?_
  refine yL.gd (fun h1 => ?_)
  refine yL.eq (y_aload_n (pc := 569) (x := 202) d240_569 rfl) ?_
  refine y_calls_i (pc := 570) (n := 3) (n' := 4) (nc' := nc + 1) (ns' := ns + 6) [.ref 7, .int (M 0 (yx (x4 + 1))), .ref 202] [] false d240_570 q240_143 rfl rfl rfl (Nat.le_of_ble_eq_true rfl) (Nat.le_of_ble_eq_true rfl) rfl (by decide +kernel) (y_rmc (c := 1) (s := 6) mcs_218 hn (by decide)) (fun v3 M2 => ?_)
  refine yL.eq (y_istore (pc := 573) (ls' := [some (.ref 0), some (.ref 7), some (.ref 190), some (.ref 202), some (.int x4), some (.int v3), o6]) d240_573 rfl rfl) ?_
  refine yL.eq (y_aload_n (pc := 575) (x := 190) d240_575 rfl) ?_
  refine yL.eq (y_aload_n (pc := 576) (x := 0) d240_576 rfl) ?_
  refine yL.eq (y_iload (pc := 577) (x := x4) d240_577 rfl) ?_
  refine yL.eq (y_iconst (pc := 579) (v := 1) d240_579 kc_1) ?_
  refine yL.eq (y_iadd (pc := 580) d240_580) ?_
  refine yL.eq (y_iald0 (pc := 581) d240_581) ?_
  refine yL.gd (fun h4 => ?_)
  refine y_callv_i (pc := 582) (n := 2) (n' := 2) (nc' := nc + 1) (ns' := ns + 6) [.int (M2 0 (yx (x4 + 1)))] [] false d240_582 q240_145 mk_180 s_t_190 rfl rfl (Nat.le_of_ble_eq_true rfl) (Nat.le_of_ble_eq_true rfl) rfl (by decide +kernel) (y_rmd (c := 1) (s := 6) mcs_180 hn (by decide)) (fun v6 M5 => ?_)
  refine yL.eq (y_istore (pc := 585) (ls' := [some (.ref 0), some (.ref 7), some (.ref 190), some (.ref 202), some (.int x4), some (.int v3), some (.int v6)]) d240_585 rfl rfl) ?_
  refine yL.eq (y_aload_n (pc := 587) (x := 190) d240_587 rfl) ?_
  refine y_callv_i (pc := 588) (n := 1) (n' := 1) (nc' := nc + 1) (ns' := ns + 6) [] [] false d240_588 q240_115 mk_106 s_t_190 rfl rfl (Nat.le_of_ble_eq_true rfl) (Nat.le_of_ble_eq_true rfl) rfl (by decide +kernel) (y_rmd (c := 1) (s := 6) mcs_106 hn (by decide)) (fun v8 M7 => ?_)
  refine yL.eq (y_iload (pc := 591) (x := v3) d240_591 rfl) ?_
  refine yL.eq (y_icmp_eq (pc := 593) (t := 598) d240_593 (by decide)) ?_
  refine yL.ite (fun h9 => ?_) (fun h9 => ?_)
  ·
    refine yL.eq (y_iload (pc := 598) (x := v3) d240_598 rfl) ?_
    refine yL.eq (y_if_ne (pc := 600) (t := 615) d240_600 (by decide)) ?_
    refine yL.ite (fun h10 => ?_) (fun h10 => ?_)
    ·
      refine yL.eq (y_aload_n (pc := 603) (x := 202) d240_603 rfl) ?_
      refine yL.eq (y_iconst (pc := 604) (v := 0) d240_604 kc_0) ?_
      refine yL.eq (y_lald (pc := 605) d240_605 s_21) ?_
      refine yL.eq (y_iload (pc := 606) (x := v6) d240_606 rfl) ?_
      refine yL.eq (y_i2l (pc := 608) d240_608) ?_
      refine yL.eq (y_lcmp (pc := 609) d240_609) ?_
      refine yL.eq (y_lif_eq (pc := 610) (t := 615) d240_610 (by decide)) ?_
      refine yL.ite (fun h11 => ?_) (fun h11 => ?_)
      ·
        refine yL.eq (y_goto (pc := 615) (t := 2111) d240_615 (by decide)) ?_
        refine yL.eq (y_iinc (pc := 2111) (v := 4) (x := x4) (ls' := [some (.ref 0), some (.ref 7), some (.ref 190), some (.ref 202), some (.int (x4 + 4)), some (.int v3), some (.int v6)]) d240_2111 kc_4 rfl (Nat.le_of_ble_eq_true rfl) rfl) ?_
        refine yL.eq (y_goto (pc := 2114) (t := 23) d240_2114 (by decide)) ?_
        exact yL.rf
      ·
        refine yL.eq (y_iconst (pc := 613) (v := 0) d240_613 kc_0) ?_
        exact yL.eq (y_iretz (pc := 614) d240_614 mr_240) (yL.eq yZ_0 yL.rf)
    ·
      refine yL.eq (y_goto (pc := 615) (t := 2111) d240_615 (by decide)) ?_
      refine yL.eq (y_iinc (pc := 2111) (v := 4) (x := x4) (ls' := [some (.ref 0), some (.ref 7), some (.ref 190), some (.ref 202), some (.int (x4 + 4)), some (.int v3), some (.int v6)]) d240_2111 kc_4 rfl (Nat.le_of_ble_eq_true rfl) rfl) ?_
      refine yL.eq (y_goto (pc := 2114) (t := 23) d240_2114 (by decide)) ?_
      exact yL.rf
  ·
    refine yL.eq (y_iconst (pc := 596) (v := 0) d240_596 kc_0) ?_
    exact yL.eq (y_iretz (pc := 597) d240_597 mr_240) (yL.eq yZ_0 yL.rf)
set_option maxRecDepth 20000 in
set_option maxHeartbeats 4000000 in
theorem e240_618 {x4 : Int32} {o5 : Option Value} {o6 : Option Value} {M : yM} {nc ns : Nat} (hn : nc + 4 ≤ 601024 ∧ ns + 24 ≤ 7293034) : yL (if yinB (x4 + 1) (ylen M) = true then yCi false (yX 219 0 [some (.ref 7), some (.int (M 0 (yx (x4 + 1)))), some (.ref 202), none] [] M 0 0) fun v3 M2 => if yinB (x4 + 1) (ylen M2) = true then yCi false (yX 181 0 [some (.ref 190), some (.int (M2 0 (yx (x4 + 1))))] [] M2 0 0) fun v6 M5 => yCi false (yX 106 0 [some (.ref 190)] [] M5 0 0) fun v8 M7 => if v8 = v3 then if v3 = 0 then if ((M7 202 0).toInt64) = v6.toInt64 then yX 240 23 [some (.ref 0), some (.ref 7), some (.ref 190), some (.ref 202), some (.int (x4 + 4)), some (.int v3), some (.int v6)] [] M7 (nc + 1) (ns + 6) else yI 0 M7 else yX 240 23 [some (.ref 0), some (.ref 7), some (.ref 190), some (.ref 202), some (.int (x4 + 4)), some (.int v3), some (.int v6)] [] M7 (nc + 1) (ns + 6) else yI 0 M7 else none else none) (yX 240 618 [some (.ref 0), some (.ref 7), some (.ref 190), some (.ref 202), some (.int x4), o5, o6] [] M nc ns) := by
  refine yL.eq (y_aload_n (pc := 618) (x := 7) d240_618 rfl) ?_
  refine yL.eq (y_aload_n (pc := 619) (x := 0) d240_619 rfl) ?_
  refine yL.eq (y_iload (pc := 620) (x := x4) d240_620 rfl) ?_
  refine yL.eq (y_iconst (pc := 622) (v := 1) d240_622 kc_1) ?_
  refine yL.eq (y_iadd (pc := 623) d240_623) ?_
  refine yL.eq (y_iald0 (pc := 624) d240_624) ?_
  refine yL.gd (fun h1 => ?_)
  refine yL.eq (y_aload_n (pc := 625) (x := 202) d240_625 rfl) ?_
  refine y_calls_i (pc := 626) (n := 3) (n' := 4) (nc' := nc + 1) (ns' := ns + 6) [.ref 7, .int (M 0 (yx (x4 + 1))), .ref 202] [] false d240_626 q240_146 rfl rfl rfl (Nat.le_of_ble_eq_true rfl) (Nat.le_of_ble_eq_true rfl) rfl (by decide +kernel) (y_rmc (c := 1) (s := 6) mcs_219 hn (by decide)) (fun v3 M2 => ?_)
  refine yL.eq (y_istore (pc := 629) (ls' := [some (.ref 0), some (.ref 7), some (.ref 190), some (.ref 202), some (.int x4), some (.int v3), o6]) d240_629 rfl rfl) ?_
  refine yL.eq (y_aload_n (pc := 631) (x := 190) d240_631 rfl) ?_
  refine yL.eq (y_aload_n (pc := 632) (x := 0) d240_632 rfl) ?_
  refine yL.eq (y_iload (pc := 633) (x := x4) d240_633 rfl) ?_
  refine yL.eq (y_iconst (pc := 635) (v := 1) d240_635 kc_1) ?_
  refine yL.eq (y_iadd (pc := 636) d240_636) ?_
  refine yL.eq (y_iald0 (pc := 637) d240_637) ?_
  refine yL.gd (fun h4 => ?_)
  refine y_callv_i (pc := 638) (n := 2) (n' := 2) (nc' := nc + 1) (ns' := ns + 6) [.int (M2 0 (yx (x4 + 1)))] [] false d240_638 q240_148 mk_181 s_t_190 rfl rfl (Nat.le_of_ble_eq_true rfl) (Nat.le_of_ble_eq_true rfl) rfl (by decide +kernel) (y_rmd (c := 1) (s := 6) mcs_181 hn (by decide)) (fun v6 M5 => ?_)
  refine yL.eq (y_istore (pc := 641) (ls' := [some (.ref 0), some (.ref 7), some (.ref 190), some (.ref 202), some (.int x4), some (.int v3), some (.int v6)]) d240_641 rfl rfl) ?_
  refine yL.eq (y_aload_n (pc := 643) (x := 190) d240_643 rfl) ?_
  refine y_callv_i (pc := 644) (n := 1) (n' := 1) (nc' := nc + 1) (ns' := ns + 6) [] [] false d240_644 q240_115 mk_106 s_t_190 rfl rfl (Nat.le_of_ble_eq_true rfl) (Nat.le_of_ble_eq_true rfl) rfl (by decide +kernel) (y_rmd (c := 1) (s := 6) mcs_106 hn (by decide)) (fun v8 M7 => ?_)
  refine yL.eq (y_iload (pc := 647) (x := v3) d240_647 rfl) ?_
  refine yL.eq (y_icmp_eq (pc := 649) (t := 654) d240_649 (by decide)) ?_
  refine yL.ite (fun h9 => ?_) (fun h9 => ?_)
  ·
    refine yL.eq (y_iload (pc := 654) (x := v3) d240_654 rfl) ?_
    refine yL.eq (y_if_ne (pc := 656) (t := 671) d240_656 (by decide)) ?_
    refine yL.ite (fun h10 => ?_) (fun h10 => ?_)
    ·
      refine yL.eq (y_aload_n (pc := 659) (x := 202) d240_659 rfl) ?_
      refine yL.eq (y_iconst (pc := 660) (v := 0) d240_660 kc_0) ?_
      refine yL.eq (y_lald (pc := 661) d240_661 s_21) ?_
      refine yL.eq (y_iload (pc := 662) (x := v6) d240_662 rfl) ?_
      refine yL.eq (y_i2l (pc := 664) d240_664) ?_
      refine yL.eq (y_lcmp (pc := 665) d240_665) ?_
      refine yL.eq (y_lif_eq (pc := 666) (t := 671) d240_666 (by decide)) ?_
      refine yL.ite (fun h11 => ?_) (fun h11 => ?_)
      ·
        refine yL.eq (y_goto (pc := 671) (t := 2111) d240_671 (by decide)) ?_
        refine yL.eq (y_iinc (pc := 2111) (v := 4) (x := x4) (ls' := [some (.ref 0), some (.ref 7), some (.ref 190), some (.ref 202), some (.int (x4 + 4)), some (.int v3), some (.int v6)]) d240_2111 kc_4 rfl (Nat.le_of_ble_eq_true rfl) rfl) ?_
        refine yL.eq (y_goto (pc := 2114) (t := 23) d240_2114 (by decide)) ?_
        exact yL.rf
      ·
        refine yL.eq (y_iconst (pc := 669) (v := 0) d240_669 kc_0) ?_
        exact yL.eq (y_iretz (pc := 670) d240_670 mr_240) (yL.eq yZ_0 yL.rf)
    ·
      refine yL.eq (y_goto (pc := 671) (t := 2111) d240_671 (by decide)) ?_
      refine yL.eq (y_iinc (pc := 2111) (v := 4) (x := x4) (ls' := [some (.ref 0), some (.ref 7), some (.ref 190), some (.ref 202), some (.int (x4 + 4)), some (.int v3), some (.int v6)]) d240_2111 kc_4 rfl (Nat.le_of_ble_eq_true rfl) rfl) ?_
      refine yL.eq (y_goto (pc := 2114) (t := 23) d240_2114 (by decide)) ?_
      exact yL.rf
  ·
    refine yL.eq (y_iconst (pc := 652) (v := 0) d240_652 kc_0) ?_
    exact yL.eq (y_iretz (pc := 653) d240_653 mr_240) (yL.eq yZ_0 yL.rf)
set_option maxRecDepth 20000 in
set_option maxHeartbeats 4000000 in
theorem e240_674 {x4 : Int32} {o5 : Option Value} {o6 : Option Value} {M : yM} {nc ns : Nat} (hn : nc + 4 ≤ 601024 ∧ ns + 24 ≤ 7293034) : yL (if yinB (x4 + 1) (ylen M) = true then yCi false (yX 220 0 [some (.ref 7), some (.int (M 0 (yx (x4 + 1)))), some (.ref 202), none] [] M 0 0) fun v3 M2 => if yinB (x4 + 1) (ylen M2) = true then yCi false (yX 182 0 [some (.ref 190), some (.int (M2 0 (yx (x4 + 1))))] [] M2 0 0) fun v6 M5 => yCi false (yX 106 0 [some (.ref 190)] [] M5 0 0) fun v8 M7 => if v8 = v3 then if v3 = 0 then if ((M7 202 0).toInt64) = v6.toInt64 then yX 240 23 [some (.ref 0), some (.ref 7), some (.ref 190), some (.ref 202), some (.int (x4 + 4)), some (.int v3), some (.int v6)] [] M7 (nc + 1) (ns + 6) else yI 0 M7 else yX 240 23 [some (.ref 0), some (.ref 7), some (.ref 190), some (.ref 202), some (.int (x4 + 4)), some (.int v3), some (.int v6)] [] M7 (nc + 1) (ns + 6) else yI 0 M7 else none else none) (yX 240 674 [some (.ref 0), some (.ref 7), some (.ref 190), some (.ref 202), some (.int x4), o5, o6] [] M nc ns) := by
  refine yL.eq (y_aload_n (pc := 674) (x := 7) d240_674 rfl) ?_
  refine yL.eq (y_aload_n (pc := 675) (x := 0) d240_675 rfl) ?_
  refine yL.eq (y_iload (pc := 676) (x := x4) d240_676 rfl) ?_
  refine yL.eq (y_iconst (pc := 678) (v := 1) d240_678 kc_1) ?_
  refine yL.eq (y_iadd (pc := 679) d240_679) ?_
  refine yL.eq (y_iald0 (pc := 680) d240_680) ?_
  refine yL.gd (fun h1 => ?_)
  refine yL.eq (y_aload_n (pc := 681) (x := 202) d240_681 rfl) ?_
  refine y_calls_i (pc := 682) (n := 3) (n' := 4) (nc' := nc + 1) (ns' := ns + 6) [.ref 7, .int (M 0 (yx (x4 + 1))), .ref 202] [] false d240_682 q240_149 rfl rfl rfl (Nat.le_of_ble_eq_true rfl) (Nat.le_of_ble_eq_true rfl) rfl (by decide +kernel) (y_rmc (c := 1) (s := 6) mcs_220 hn (by decide)) (fun v3 M2 => ?_)
  refine yL.eq (y_istore (pc := 685) (ls' := [some (.ref 0), some (.ref 7), some (.ref 190), some (.ref 202), some (.int x4), some (.int v3), o6]) d240_685 rfl rfl) ?_
  refine yL.eq (y_aload_n (pc := 687) (x := 190) d240_687 rfl) ?_
  refine yL.eq (y_aload_n (pc := 688) (x := 0) d240_688 rfl) ?_
  refine yL.eq (y_iload (pc := 689) (x := x4) d240_689 rfl) ?_
  refine yL.eq (y_iconst (pc := 691) (v := 1) d240_691 kc_1) ?_
  refine yL.eq (y_iadd (pc := 692) d240_692) ?_
  refine yL.eq (y_iald0 (pc := 693) d240_693) ?_
  refine yL.gd (fun h4 => ?_)
  refine y_callv_i (pc := 694) (n := 2) (n' := 2) (nc' := nc + 1) (ns' := ns + 6) [.int (M2 0 (yx (x4 + 1)))] [] false d240_694 q240_151 mk_182 s_t_190 rfl rfl (Nat.le_of_ble_eq_true rfl) (Nat.le_of_ble_eq_true rfl) rfl (by decide +kernel) (y_rmd (c := 1) (s := 6) mcs_182 hn (by decide)) (fun v6 M5 => ?_)
  refine yL.eq (y_istore (pc := 697) (ls' := [some (.ref 0), some (.ref 7), some (.ref 190), some (.ref 202), some (.int x4), some (.int v3), some (.int v6)]) d240_697 rfl rfl) ?_
  refine yL.eq (y_aload_n (pc := 699) (x := 190) d240_699 rfl) ?_
  refine y_callv_i (pc := 700) (n := 1) (n' := 1) (nc' := nc + 1) (ns' := ns + 6) [] [] false d240_700 q240_115 mk_106 s_t_190 rfl rfl (Nat.le_of_ble_eq_true rfl) (Nat.le_of_ble_eq_true rfl) rfl (by decide +kernel) (y_rmd (c := 1) (s := 6) mcs_106 hn (by decide)) (fun v8 M7 => ?_)
  refine yL.eq (y_iload (pc := 703) (x := v3) d240_703 rfl) ?_
  refine yL.eq (y_icmp_eq (pc := 705) (t := 710) d240_705 (by decide)) ?_
  refine yL.ite (fun h9 => ?_) (fun h9 => ?_)
  ·
    refine yL.eq (y_iload (pc := 710) (x := v3) d240_710 rfl) ?_
    refine yL.eq (y_if_ne (pc := 712) (t := 727) d240_712 (by decide)) ?_
    refine yL.ite (fun h10 => ?_) (fun h10 => ?_)
    ·
      refine yL.eq (y_aload_n (pc := 715) (x := 202) d240_715 rfl) ?_
      refine yL.eq (y_iconst (pc := 716) (v := 0) d240_716 kc_0) ?_
      refine yL.eq (y_lald (pc := 717) d240_717 s_21) ?_
      refine yL.eq (y_iload (pc := 718) (x := v6) d240_718 rfl) ?_
      refine yL.eq (y_i2l (pc := 720) d240_720) ?_
      refine yL.eq (y_lcmp (pc := 721) d240_721) ?_
      refine yL.eq (y_lif_eq (pc := 722) (t := 727) d240_722 (by decide)) ?_
      refine yL.ite (fun h11 => ?_) (fun h11 => ?_)
      ·
        refine yL.eq (y_goto (pc := 727) (t := 2111) d240_727 (by decide)) ?_
        refine yL.eq (y_iinc (pc := 2111) (v := 4) (x := x4) (ls' := [some (.ref 0), some (.ref 7), some (.ref 190), some (.ref 202), some (.int (x4 + 4)), some (.int v3), some (.int v6)]) d240_2111 kc_4 rfl (Nat.le_of_ble_eq_true rfl) rfl) ?_
        refine yL.eq (y_goto (pc := 2114) (t := 23) d240_2114 (by decide)) ?_
        exact yL.rf
      ·
        refine yL.eq (y_iconst (pc := 725) (v := 0) d240_725 kc_0) ?_
        exact yL.eq (y_iretz (pc := 726) d240_726 mr_240) (yL.eq yZ_0 yL.rf)
    ·
      refine yL.eq (y_goto (pc := 727) (t := 2111) d240_727 (by decide)) ?_
      refine yL.eq (y_iinc (pc := 2111) (v := 4) (x := x4) (ls' := [some (.ref 0), some (.ref 7), some (.ref 190), some (.ref 202), some (.int (x4 + 4)), some (.int v3), some (.int v6)]) d240_2111 kc_4 rfl (Nat.le_of_ble_eq_true rfl) rfl) ?_
      refine yL.eq (y_goto (pc := 2114) (t := 23) d240_2114 (by decide)) ?_
      exact yL.rf
  ·
    refine yL.eq (y_iconst (pc := 708) (v := 0) d240_708 kc_0) ?_
    exact yL.eq (y_iretz (pc := 709) d240_709 mr_240) (yL.eq yZ_0 yL.rf)
set_option maxRecDepth 20000 in
set_option maxHeartbeats 4000000 in
theorem e240_730 {x4 : Int32} {o5 : Option Value} {o6 : Option Value} {M : yM} {nc ns : Nat} (hn : nc + 4 ≤ 601024 ∧ ns + 24 ≤ 7293034) : yL (if yinB (x4 + 1) (ylen M) = true then if yinB (x4 + 2) (ylen M) = true then yCi false (yX 221 0 [some (.ref 7), some (.int (M 0 (yx (x4 + 1)))), some (.int (M 0 (yx (x4 + 2)))), some (.ref 202), none] [] M 0 0) fun v4 M3 => if yinB (x4 + 1) (ylen M3) = true then if yinB (x4 + 2) (ylen M3) = true then yCi false (yX 183 0 [some (.ref 190), some (.int (M3 0 (yx (x4 + 1)))), some (.int (M3 0 (yx (x4 + 2))))] [] M3 0 0) fun v8 M7 => yCi false (yX 106 0 [some (.ref 190)] [] M7 0 0) fun v10 M9 => if v10 = v4 then if v4 = 0 then if ((M9 202 0).toInt64) = v8.toInt64 then yX 240 23 [some (.ref 0), some (.ref 7), some (.ref 190), some (.ref 202), some (.int (x4 + 4)), some (.int v4), some (.int v8)] [] M9 (nc + 1) (ns + 6) else yI 0 M9 else yX 240 23 [some (.ref 0), some (.ref 7), some (.ref 190), some (.ref 202), some (.int (x4 + 4)), some (.int v4), some (.int v8)] [] M9 (nc + 1) (ns + 6) else yI 0 M9 else none else none else none else none) (yX 240 730 [some (.ref 0), some (.ref 7), some (.ref 190), some (.ref 202), some (.int x4), o5, o6] [] M nc ns) := by
  refine yL.eq (y_aload_n (pc := 730) (x := 7) d240_730 rfl) ?_
  refine yL.eq (y_aload_n (pc := 731) (x := 0) d240_731 rfl) ?_
  refine yL.eq (y_iload (pc := 732) (x := x4) d240_732 rfl) ?_
  refine yL.eq (y_iconst (pc := 734) (v := 1) d240_734 kc_1) ?_
  refine yL.eq (y_iadd (pc := 735) d240_735) ?_
  refine yL.eq (y_iald0 (pc := 736) d240_736) ?_
  refine yL.gd (fun h1 => ?_)
  refine yL.eq (y_aload_n (pc := 737) (x := 0) d240_737 rfl) ?_
  refine yL.eq (y_iload (pc := 738) (x := x4) d240_738 rfl) ?_
  refine yL.eq (y_iconst (pc := 740) (v := 2) d240_740 kc_2) ?_
  refine yL.eq (y_iadd (pc := 741) d240_741) ?_
  refine yL.eq (y_iald0 (pc := 742) d240_742) ?_
  refine yL.gd (fun h2 => ?_)
  refine yL.eq (y_aload_n (pc := 743) (x := 202) d240_743 rfl) ?_
  refine y_calls_i (pc := 744) (n := 4) (n' := 5) (nc' := nc + 1) (ns' := ns + 6) [.ref 7, .int (M 0 (yx (x4 + 1))), .int (M 0 (yx (x4 + 2))), .ref 202] [] false d240_744 q240_152 rfl rfl rfl (Nat.le_of_ble_eq_true rfl) (Nat.le_of_ble_eq_true rfl) rfl (by decide +kernel) (y_rmc (c := 1) (s := 6) mcs_221 hn (by decide)) (fun v4 M3 => ?_)
  refine yL.eq (y_istore (pc := 747) (ls' := [some (.ref 0), some (.ref 7), some (.ref 190), some (.ref 202), some (.int x4), some (.int v4), o6]) d240_747 rfl rfl) ?_
  refine yL.eq (y_aload_n (pc := 749) (x := 190) d240_749 rfl) ?_
  refine yL.eq (y_aload_n (pc := 750) (x := 0) d240_750 rfl) ?_
  refine yL.eq (y_iload (pc := 751) (x := x4) d240_751 rfl) ?_
  refine yL.eq (y_iconst (pc := 753) (v := 1) d240_753 kc_1) ?_
  refine yL.eq (y_iadd (pc := 754) d240_754) ?_
  refine yL.eq (y_iald0 (pc := 755) d240_755) ?_
  refine yL.gd (fun h5 => ?_)
  refine yL.eq (y_aload_n (pc := 756) (x := 0) d240_756 rfl) ?_
  refine yL.eq (y_iload (pc := 757) (x := x4) d240_757 rfl) ?_
  refine yL.eq (y_iconst (pc := 759) (v := 2) d240_759 kc_2) ?_
  refine yL.eq (y_iadd (pc := 760) d240_760) ?_
  refine yL.eq (y_iald0 (pc := 761) d240_761) ?_
  refine yL.gd (fun h6 => ?_)
  refine y_callv_i (pc := 762) (n := 3) (n' := 3) (nc' := nc + 1) (ns' := ns + 6) [.int (M3 0 (yx (x4 + 1))), .int (M3 0 (yx (x4 + 2)))] [] false d240_762 q240_154 mk_183 s_t_190 rfl rfl (Nat.le_of_ble_eq_true rfl) (Nat.le_of_ble_eq_true rfl) rfl (by decide +kernel) (y_rmd (c := 1) (s := 6) mcs_183 hn (by decide)) (fun v8 M7 => ?_)
  refine yL.eq (y_istore (pc := 765) (ls' := [some (.ref 0), some (.ref 7), some (.ref 190), some (.ref 202), some (.int x4), some (.int v4), some (.int v8)]) d240_765 rfl rfl) ?_
  refine yL.eq (y_aload_n (pc := 767) (x := 190) d240_767 rfl) ?_
  refine y_callv_i (pc := 768) (n := 1) (n' := 1) (nc' := nc + 1) (ns' := ns + 6) [] [] false d240_768 q240_115 mk_106 s_t_190 rfl rfl (Nat.le_of_ble_eq_true rfl) (Nat.le_of_ble_eq_true rfl) rfl (by decide +kernel) (y_rmd (c := 1) (s := 6) mcs_106 hn (by decide)) (fun v10 M9 => ?_)
  refine yL.eq (y_iload (pc := 771) (x := v4) d240_771 rfl) ?_
  refine yL.eq (y_icmp_eq (pc := 773) (t := 778) d240_773 (by decide)) ?_
  refine yL.ite (fun h11 => ?_) (fun h11 => ?_)
  ·
    refine yL.eq (y_iload (pc := 778) (x := v4) d240_778 rfl) ?_
    refine yL.eq (y_if_ne (pc := 780) (t := 795) d240_780 (by decide)) ?_
    refine yL.ite (fun h12 => ?_) (fun h12 => ?_)
    ·
      refine yL.eq (y_aload_n (pc := 783) (x := 202) d240_783 rfl) ?_
      refine yL.eq (y_iconst (pc := 784) (v := 0) d240_784 kc_0) ?_
      refine yL.eq (y_lald (pc := 785) d240_785 s_21) ?_
      refine yL.eq (y_iload (pc := 786) (x := v8) d240_786 rfl) ?_
      refine yL.eq (y_i2l (pc := 788) d240_788) ?_
      refine yL.eq (y_lcmp (pc := 789) d240_789) ?_
      refine yL.eq (y_lif_eq (pc := 790) (t := 795) d240_790 (by decide)) ?_
      refine yL.ite (fun h13 => ?_) (fun h13 => ?_)
      ·
        refine yL.eq (y_goto (pc := 795) (t := 2111) d240_795 (by decide)) ?_
        refine yL.eq (y_iinc (pc := 2111) (v := 4) (x := x4) (ls' := [some (.ref 0), some (.ref 7), some (.ref 190), some (.ref 202), some (.int (x4 + 4)), some (.int v4), some (.int v8)]) d240_2111 kc_4 rfl (Nat.le_of_ble_eq_true rfl) rfl) ?_
        refine yL.eq (y_goto (pc := 2114) (t := 23) d240_2114 (by decide)) ?_
        exact yL.rf
      ·
        refine yL.eq (y_iconst (pc := 793) (v := 0) d240_793 kc_0) ?_
        exact yL.eq (y_iretz (pc := 794) d240_794 mr_240) (yL.eq yZ_0 yL.rf)
    ·
      refine yL.eq (y_goto (pc := 795) (t := 2111) d240_795 (by decide)) ?_
      refine yL.eq (y_iinc (pc := 2111) (v := 4) (x := x4) (ls' := [some (.ref 0), some (.ref 7), some (.ref 190), some (.ref 202), some (.int (x4 + 4)), some (.int v4), some (.int v8)]) d240_2111 kc_4 rfl (Nat.le_of_ble_eq_true rfl) rfl) ?_
      refine yL.eq (y_goto (pc := 2114) (t := 23) d240_2114 (by decide)) ?_
      exact yL.rf
  ·
    refine yL.eq (y_iconst (pc := 776) (v := 0) d240_776 kc_0) ?_
    exact yL.eq (y_iretz (pc := 777) d240_777 mr_240) (yL.eq yZ_0 yL.rf)
set_option maxRecDepth 20000 in
set_option maxHeartbeats 4000000 in
theorem e240_798 {x4 : Int32} {o5 : Option Value} {o6 : Option Value} {M : yM} {nc ns : Nat} (hn : nc + 4 ≤ 601024 ∧ ns + 24 ≤ 7293034) : yL (if yinB (x4 + 1) (ylen M) = true then yCi false (yX 222 0 [some (.ref 7), some (.int (M 0 (yx (x4 + 1)))), some (.ref 202), none] [] M 0 0) fun v3 M2 => if yinB (x4 + 1) (ylen M2) = true then yCi false (yX 184 0 [some (.ref 190), some (.int (M2 0 (yx (x4 + 1))))] [] M2 0 0) fun v6 M5 => yCi false (yX 106 0 [some (.ref 190)] [] M5 0 0) fun v8 M7 => if v8 = v3 then if v3 = 0 then if ((M7 202 0).toInt64) = v6.toInt64 then yX 240 23 [some (.ref 0), some (.ref 7), some (.ref 190), some (.ref 202), some (.int (x4 + 4)), some (.int v3), some (.int v6)] [] M7 (nc + 3) (ns + 18) else yI 0 M7 else yX 240 23 [some (.ref 0), some (.ref 7), some (.ref 190), some (.ref 202), some (.int (x4 + 4)), some (.int v3), some (.int v6)] [] M7 (nc + 3) (ns + 18) else yI 0 M7 else none else none) (yX 240 798 [some (.ref 0), some (.ref 7), some (.ref 190), some (.ref 202), some (.int x4), o5, o6] [] M nc ns) := by
  refine yL.eq (y_aload_n (pc := 798) (x := 7) d240_798 rfl) ?_
  refine yL.eq (y_aload_n (pc := 799) (x := 0) d240_799 rfl) ?_
  refine yL.eq (y_iload (pc := 800) (x := x4) d240_800 rfl) ?_
  refine yL.eq (y_iconst (pc := 802) (v := 1) d240_802 kc_1) ?_
  refine yL.eq (y_iadd (pc := 803) d240_803) ?_
  refine yL.eq (y_iald0 (pc := 804) d240_804) ?_
  refine yL.gd (fun h1 => ?_)
  refine yL.eq (y_aload_n (pc := 805) (x := 202) d240_805 rfl) ?_
  refine y_calls_i (pc := 806) (n := 3) (n' := 4) (nc' := nc + 3) (ns' := ns + 18) [.ref 7, .int (M 0 (yx (x4 + 1))), .ref 202] [] false d240_806 q240_155 rfl rfl rfl (Nat.le_of_ble_eq_true rfl) (Nat.le_of_ble_eq_true rfl) rfl (by decide +kernel) (y_rmc (c := 3) (s := 18) mcs_222 hn (by decide)) (fun v3 M2 => ?_)
  refine yL.eq (y_istore (pc := 809) (ls' := [some (.ref 0), some (.ref 7), some (.ref 190), some (.ref 202), some (.int x4), some (.int v3), o6]) d240_809 rfl rfl) ?_
  refine yL.eq (y_aload_n (pc := 811) (x := 190) d240_811 rfl) ?_
  refine yL.eq (y_aload_n (pc := 812) (x := 0) d240_812 rfl) ?_
  refine yL.eq (y_iload (pc := 813) (x := x4) d240_813 rfl) ?_
  refine yL.eq (y_iconst (pc := 815) (v := 1) d240_815 kc_1) ?_
  refine yL.eq (y_iadd (pc := 816) d240_816) ?_
  refine yL.eq (y_iald0 (pc := 817) d240_817) ?_
  refine yL.gd (fun h4 => ?_)
  refine y_callv_i (pc := 818) (n := 2) (n' := 2) (nc' := nc + 3) (ns' := ns + 18) [.int (M2 0 (yx (x4 + 1)))] [] false d240_818 q240_157 mk_184 s_t_190 rfl rfl (Nat.le_of_ble_eq_true rfl) (Nat.le_of_ble_eq_true rfl) rfl (by decide +kernel) (y_rmd (c := 3) (s := 18) mcs_184 hn (by decide)) (fun v6 M5 => ?_)
  refine yL.eq (y_istore (pc := 821) (ls' := [some (.ref 0), some (.ref 7), some (.ref 190), some (.ref 202), some (.int x4), some (.int v3), some (.int v6)]) d240_821 rfl rfl) ?_
  refine yL.eq (y_aload_n (pc := 823) (x := 190) d240_823 rfl) ?_
  refine y_callv_i (pc := 824) (n := 1) (n' := 1) (nc' := nc + 3) (ns' := ns + 18) [] [] false d240_824 q240_115 mk_106 s_t_190 rfl rfl (Nat.le_of_ble_eq_true rfl) (Nat.le_of_ble_eq_true rfl) rfl (by decide +kernel) (y_rmd (c := 3) (s := 18) mcs_106 hn (by decide)) (fun v8 M7 => ?_)
  refine yL.eq (y_iload (pc := 827) (x := v3) d240_827 rfl) ?_
  refine yL.eq (y_icmp_eq (pc := 829) (t := 834) d240_829 (by decide)) ?_
  refine yL.ite (fun h9 => ?_) (fun h9 => ?_)
  ·
    refine yL.eq (y_iload (pc := 834) (x := v3) d240_834 rfl) ?_
    refine yL.eq (y_if_ne (pc := 836) (t := 851) d240_836 (by decide)) ?_
    refine yL.ite (fun h10 => ?_) (fun h10 => ?_)
    ·
      refine yL.eq (y_aload_n (pc := 839) (x := 202) d240_839 rfl) ?_
      refine yL.eq (y_iconst (pc := 840) (v := 0) d240_840 kc_0) ?_
      refine yL.eq (y_lald (pc := 841) d240_841 s_21) ?_
      refine yL.eq (y_iload (pc := 842) (x := v6) d240_842 rfl) ?_
      refine yL.eq (y_i2l (pc := 844) d240_844) ?_
      refine yL.eq (y_lcmp (pc := 845) d240_845) ?_
      refine yL.eq (y_lif_eq (pc := 846) (t := 851) d240_846 (by decide)) ?_
      refine yL.ite (fun h11 => ?_) (fun h11 => ?_)
      ·
        refine yL.eq (y_goto (pc := 851) (t := 2111) d240_851 (by decide)) ?_
        refine yL.eq (y_iinc (pc := 2111) (v := 4) (x := x4) (ls' := [some (.ref 0), some (.ref 7), some (.ref 190), some (.ref 202), some (.int (x4 + 4)), some (.int v3), some (.int v6)]) d240_2111 kc_4 rfl (Nat.le_of_ble_eq_true rfl) rfl) ?_
        refine yL.eq (y_goto (pc := 2114) (t := 23) d240_2114 (by decide)) ?_
        exact yL.rf
      ·
        refine yL.eq (y_iconst (pc := 849) (v := 0) d240_849 kc_0) ?_
        exact yL.eq (y_iretz (pc := 850) d240_850 mr_240) (yL.eq yZ_0 yL.rf)
    ·
      refine yL.eq (y_goto (pc := 851) (t := 2111) d240_851 (by decide)) ?_
      refine yL.eq (y_iinc (pc := 2111) (v := 4) (x := x4) (ls' := [some (.ref 0), some (.ref 7), some (.ref 190), some (.ref 202), some (.int (x4 + 4)), some (.int v3), some (.int v6)]) d240_2111 kc_4 rfl (Nat.le_of_ble_eq_true rfl) rfl) ?_
      refine yL.eq (y_goto (pc := 2114) (t := 23) d240_2114 (by decide)) ?_
      exact yL.rf
  ·
    refine yL.eq (y_iconst (pc := 832) (v := 0) d240_832 kc_0) ?_
    exact yL.eq (y_iretz (pc := 833) d240_833 mr_240) (yL.eq yZ_0 yL.rf)
set_option maxRecDepth 20000 in
set_option maxHeartbeats 4000000 in
theorem e240_854 {x4 : Int32} {o5 : Option Value} {o6 : Option Value} {M : yM} {nc ns : Nat} (hn : nc + 4 ≤ 601024 ∧ ns + 24 ≤ 7293034) : yL (if yinB (x4 + 1) (ylen M) = true then if yinB (x4 + 2) (ylen M) = true then yCi false (yX 223 0 [some (.ref 7), some (.int (M 0 (yx (x4 + 1)))), some (.int (M 0 (yx (x4 + 2)))), some (.ref 202), none] [] M 0 0) fun v4 M3 => if yinB (x4 + 1) (ylen M3) = true then if yinB (x4 + 2) (ylen M3) = true then yCi false (yX 185 0 [some (.ref 190), some (.int (M3 0 (yx (x4 + 1)))), some (.int (M3 0 (yx (x4 + 2))))] [] M3 0 0) fun v8 M7 => yCi false (yX 106 0 [some (.ref 190)] [] M7 0 0) fun v10 M9 => if v10 = v4 then if v4 = 0 then if ((M9 202 0).toInt64) = v8.toInt64 then yX 240 23 [some (.ref 0), some (.ref 7), some (.ref 190), some (.ref 202), some (.int (x4 + 4)), some (.int v4), some (.int v8)] [] M9 (nc + 3) (ns + 18) else yI 0 M9 else yX 240 23 [some (.ref 0), some (.ref 7), some (.ref 190), some (.ref 202), some (.int (x4 + 4)), some (.int v4), some (.int v8)] [] M9 (nc + 3) (ns + 18) else yI 0 M9 else none else none else none else none) (yX 240 854 [some (.ref 0), some (.ref 7), some (.ref 190), some (.ref 202), some (.int x4), o5, o6] [] M nc ns) := by
  refine yL.eq (y_aload_n (pc := 854) (x := 7) d240_854 rfl) ?_
  refine yL.eq (y_aload_n (pc := 855) (x := 0) d240_855 rfl) ?_
  refine yL.eq (y_iload (pc := 856) (x := x4) d240_856 rfl) ?_
  refine yL.eq (y_iconst (pc := 858) (v := 1) d240_858 kc_1) ?_
  refine yL.eq (y_iadd (pc := 859) d240_859) ?_
  refine yL.eq (y_iald0 (pc := 860) d240_860) ?_
  refine yL.gd (fun h1 => ?_)
  refine yL.eq (y_aload_n (pc := 861) (x := 0) d240_861 rfl) ?_
  refine yL.eq (y_iload (pc := 862) (x := x4) d240_862 rfl) ?_
  refine yL.eq (y_iconst (pc := 864) (v := 2) d240_864 kc_2) ?_
  refine yL.eq (y_iadd (pc := 865) d240_865) ?_
  refine yL.eq (y_iald0 (pc := 866) d240_866) ?_
  refine yL.gd (fun h2 => ?_)
  refine yL.eq (y_aload_n (pc := 867) (x := 202) d240_867 rfl) ?_
  refine y_calls_i (pc := 868) (n := 4) (n' := 5) (nc' := nc + 3) (ns' := ns + 18) [.ref 7, .int (M 0 (yx (x4 + 1))), .int (M 0 (yx (x4 + 2))), .ref 202] [] false d240_868 q240_158 rfl rfl rfl (Nat.le_of_ble_eq_true rfl) (Nat.le_of_ble_eq_true rfl) rfl (by decide +kernel) (y_rmc (c := 3) (s := 18) mcs_223 hn (by decide)) (fun v4 M3 => ?_)
  refine yL.eq (y_istore (pc := 871) (ls' := [some (.ref 0), some (.ref 7), some (.ref 190), some (.ref 202), some (.int x4), some (.int v4), o6]) d240_871 rfl rfl) ?_
  refine yL.eq (y_aload_n (pc := 873) (x := 190) d240_873 rfl) ?_
  refine yL.eq (y_aload_n (pc := 874) (x := 0) d240_874 rfl) ?_
  refine yL.eq (y_iload (pc := 875) (x := x4) d240_875 rfl) ?_
  refine yL.eq (y_iconst (pc := 877) (v := 1) d240_877 kc_1) ?_
  refine yL.eq (y_iadd (pc := 878) d240_878) ?_
  refine yL.eq (y_iald0 (pc := 879) d240_879) ?_
  refine yL.gd (fun h5 => ?_)
  refine yL.eq (y_aload_n (pc := 880) (x := 0) d240_880 rfl) ?_
  refine yL.eq (y_iload (pc := 881) (x := x4) d240_881 rfl) ?_
  refine yL.eq (y_iconst (pc := 883) (v := 2) d240_883 kc_2) ?_
  refine yL.eq (y_iadd (pc := 884) d240_884) ?_
  refine yL.eq (y_iald0 (pc := 885) d240_885) ?_
  refine yL.gd (fun h6 => ?_)
  refine y_callv_i (pc := 886) (n := 3) (n' := 3) (nc' := nc + 3) (ns' := ns + 18) [.int (M3 0 (yx (x4 + 1))), .int (M3 0 (yx (x4 + 2)))] [] false d240_886 q240_160 mk_185 s_t_190 rfl rfl (Nat.le_of_ble_eq_true rfl) (Nat.le_of_ble_eq_true rfl) rfl (by decide +kernel) (y_rmd (c := 3) (s := 18) mcs_185 hn (by decide)) (fun v8 M7 => ?_)
  refine yL.eq (y_istore (pc := 889) (ls' := [some (.ref 0), some (.ref 7), some (.ref 190), some (.ref 202), some (.int x4), some (.int v4), some (.int v8)]) d240_889 rfl rfl) ?_
  refine yL.eq (y_aload_n (pc := 891) (x := 190) d240_891 rfl) ?_
  refine y_callv_i (pc := 892) (n := 1) (n' := 1) (nc' := nc + 3) (ns' := ns + 18) [] [] false d240_892 q240_115 mk_106 s_t_190 rfl rfl (Nat.le_of_ble_eq_true rfl) (Nat.le_of_ble_eq_true rfl) rfl (by decide +kernel) (y_rmd (c := 3) (s := 18) mcs_106 hn (by decide)) (fun v10 M9 => ?_)
  refine yL.eq (y_iload (pc := 895) (x := v4) d240_895 rfl) ?_
  refine yL.eq (y_icmp_eq (pc := 897) (t := 902) d240_897 (by decide)) ?_
  refine yL.ite (fun h11 => ?_) (fun h11 => ?_)
  ·
    refine yL.eq (y_iload (pc := 902) (x := v4) d240_902 rfl) ?_
    refine yL.eq (y_if_ne (pc := 904) (t := 919) d240_904 (by decide)) ?_
    refine yL.ite (fun h12 => ?_) (fun h12 => ?_)
    ·
      refine yL.eq (y_aload_n (pc := 907) (x := 202) d240_907 rfl) ?_
      refine yL.eq (y_iconst (pc := 908) (v := 0) d240_908 kc_0) ?_
      refine yL.eq (y_lald (pc := 909) d240_909 s_21) ?_
      refine yL.eq (y_iload (pc := 910) (x := v8) d240_910 rfl) ?_
      refine yL.eq (y_i2l (pc := 912) d240_912) ?_
      refine yL.eq (y_lcmp (pc := 913) d240_913) ?_
      refine yL.eq (y_lif_eq (pc := 914) (t := 919) d240_914 (by decide)) ?_
      refine yL.ite (fun h13 => ?_) (fun h13 => ?_)
      ·
        refine yL.eq (y_goto (pc := 919) (t := 2111) d240_919 (by decide)) ?_
        refine yL.eq (y_iinc (pc := 2111) (v := 4) (x := x4) (ls' := [some (.ref 0), some (.ref 7), some (.ref 190), some (.ref 202), some (.int (x4 + 4)), some (.int v4), some (.int v8)]) d240_2111 kc_4 rfl (Nat.le_of_ble_eq_true rfl) rfl) ?_
        refine yL.eq (y_goto (pc := 2114) (t := 23) d240_2114 (by decide)) ?_
        exact yL.rf
      ·
        refine yL.eq (y_iconst (pc := 917) (v := 0) d240_917 kc_0) ?_
        exact yL.eq (y_iretz (pc := 918) d240_918 mr_240) (yL.eq yZ_0 yL.rf)
    ·
      refine yL.eq (y_goto (pc := 919) (t := 2111) d240_919 (by decide)) ?_
      refine yL.eq (y_iinc (pc := 2111) (v := 4) (x := x4) (ls' := [some (.ref 0), some (.ref 7), some (.ref 190), some (.ref 202), some (.int (x4 + 4)), some (.int v4), some (.int v8)]) d240_2111 kc_4 rfl (Nat.le_of_ble_eq_true rfl) rfl) ?_
      refine yL.eq (y_goto (pc := 2114) (t := 23) d240_2114 (by decide)) ?_
      exact yL.rf
  ·
    refine yL.eq (y_iconst (pc := 900) (v := 0) d240_900 kc_0) ?_
    exact yL.eq (y_iretz (pc := 901) d240_901 mr_240) (yL.eq yZ_0 yL.rf)
set_option maxRecDepth 20000 in
set_option maxHeartbeats 4000000 in
theorem e240_922 {x4 : Int32} {o5 : Option Value} {o6 : Option Value} {M : yM} {nc ns : Nat} (hn : nc + 4 ≤ 601024 ∧ ns + 24 ≤ 7293034) : yL (if yinB (x4 + 1) (ylen M) = true then if yinB (x4 + 2) (ylen M) = true then yCi false (yX 224 0 [some (.ref 7), some (.int (M 0 (yx (x4 + 1)))), some (.int (M 0 (yx (x4 + 2)))), some (.ref 202), none] [] M 0 0) fun v4 M3 => if yinB (x4 + 1) (ylen M3) = true then if yinB (x4 + 2) (ylen M3) = true then yCi false (yX 186 0 [some (.ref 190), some (.int (M3 0 (yx (x4 + 1)))), some (.int (M3 0 (yx (x4 + 2))))] [] M3 0 0) fun v8 M7 => yCi false (yX 106 0 [some (.ref 190)] [] M7 0 0) fun v10 M9 => if v10 = v4 then if v4 = 0 then if ((M9 202 0).toInt64) = v8.toInt64 then yX 240 23 [some (.ref 0), some (.ref 7), some (.ref 190), some (.ref 202), some (.int (x4 + 4)), some (.int v4), some (.int v8)] [] M9 (nc + 3) (ns + 18) else yI 0 M9 else yX 240 23 [some (.ref 0), some (.ref 7), some (.ref 190), some (.ref 202), some (.int (x4 + 4)), some (.int v4), some (.int v8)] [] M9 (nc + 3) (ns + 18) else yI 0 M9 else none else none else none else none) (yX 240 922 [some (.ref 0), some (.ref 7), some (.ref 190), some (.ref 202), some (.int x4), o5, o6] [] M nc ns) := by
  refine yL.eq (y_aload_n (pc := 922) (x := 7) d240_922 rfl) ?_
  refine yL.eq (y_aload_n (pc := 923) (x := 0) d240_923 rfl) ?_
  refine yL.eq (y_iload (pc := 924) (x := x4) d240_924 rfl) ?_
  refine yL.eq (y_iconst (pc := 926) (v := 1) d240_926 kc_1) ?_
  refine yL.eq (y_iadd (pc := 927) d240_927) ?_
  refine yL.eq (y_iald0 (pc := 928) d240_928) ?_
  refine yL.gd (fun h1 => ?_)
  refine yL.eq (y_aload_n (pc := 929) (x := 0) d240_929 rfl) ?_
  refine yL.eq (y_iload (pc := 930) (x := x4) d240_930 rfl) ?_
  refine yL.eq (y_iconst (pc := 932) (v := 2) d240_932 kc_2) ?_
  refine yL.eq (y_iadd (pc := 933) d240_933) ?_
  refine yL.eq (y_iald0 (pc := 934) d240_934) ?_
  refine yL.gd (fun h2 => ?_)
  refine yL.eq (y_aload_n (pc := 935) (x := 202) d240_935 rfl) ?_
  refine y_calls_i (pc := 936) (n := 4) (n' := 5) (nc' := nc + 3) (ns' := ns + 18) [.ref 7, .int (M 0 (yx (x4 + 1))), .int (M 0 (yx (x4 + 2))), .ref 202] [] false d240_936 q240_161 rfl rfl rfl (Nat.le_of_ble_eq_true rfl) (Nat.le_of_ble_eq_true rfl) rfl (by decide +kernel) (y_rmc (c := 3) (s := 18) mcs_224 hn (by decide)) (fun v4 M3 => ?_)
  refine yL.eq (y_istore (pc := 939) (ls' := [some (.ref 0), some (.ref 7), some (.ref 190), some (.ref 202), some (.int x4), some (.int v4), o6]) d240_939 rfl rfl) ?_
  refine yL.eq (y_aload_n (pc := 941) (x := 190) d240_941 rfl) ?_
  refine yL.eq (y_aload_n (pc := 942) (x := 0) d240_942 rfl) ?_
  refine yL.eq (y_iload (pc := 943) (x := x4) d240_943 rfl) ?_
  refine yL.eq (y_iconst (pc := 945) (v := 1) d240_945 kc_1) ?_
  refine yL.eq (y_iadd (pc := 946) d240_946) ?_
  refine yL.eq (y_iald0 (pc := 947) d240_947) ?_
  refine yL.gd (fun h5 => ?_)
  refine yL.eq (y_aload_n (pc := 948) (x := 0) d240_948 rfl) ?_
  refine yL.eq (y_iload (pc := 949) (x := x4) d240_949 rfl) ?_
  refine yL.eq (y_iconst (pc := 951) (v := 2) d240_951 kc_2) ?_
  refine yL.eq (y_iadd (pc := 952) d240_952) ?_
  refine yL.eq (y_iald0 (pc := 953) d240_953) ?_
  refine yL.gd (fun h6 => ?_)
  refine y_callv_i (pc := 954) (n := 3) (n' := 3) (nc' := nc + 3) (ns' := ns + 18) [.int (M3 0 (yx (x4 + 1))), .int (M3 0 (yx (x4 + 2)))] [] false d240_954 q240_163 mk_186 s_t_190 rfl rfl (Nat.le_of_ble_eq_true rfl) (Nat.le_of_ble_eq_true rfl) rfl (by decide +kernel) (y_rmd (c := 3) (s := 18) mcs_186 hn (by decide)) (fun v8 M7 => ?_)
  refine yL.eq (y_istore (pc := 957) (ls' := [some (.ref 0), some (.ref 7), some (.ref 190), some (.ref 202), some (.int x4), some (.int v4), some (.int v8)]) d240_957 rfl rfl) ?_
  refine yL.eq (y_aload_n (pc := 959) (x := 190) d240_959 rfl) ?_
  refine y_callv_i (pc := 960) (n := 1) (n' := 1) (nc' := nc + 3) (ns' := ns + 18) [] [] false d240_960 q240_115 mk_106 s_t_190 rfl rfl (Nat.le_of_ble_eq_true rfl) (Nat.le_of_ble_eq_true rfl) rfl (by decide +kernel) (y_rmd (c := 3) (s := 18) mcs_106 hn (by decide)) (fun v10 M9 => ?_)
  refine yL.eq (y_iload (pc := 963) (x := v4) d240_963 rfl) ?_
  refine yL.eq (y_icmp_eq (pc := 965) (t := 970) d240_965 (by decide)) ?_
  refine yL.ite (fun h11 => ?_) (fun h11 => ?_)
  ·
    refine yL.eq (y_iload (pc := 970) (x := v4) d240_970 rfl) ?_
    refine yL.eq (y_if_ne (pc := 972) (t := 987) d240_972 (by decide)) ?_
    refine yL.ite (fun h12 => ?_) (fun h12 => ?_)
    ·
      refine yL.eq (y_aload_n (pc := 975) (x := 202) d240_975 rfl) ?_
      refine yL.eq (y_iconst (pc := 976) (v := 0) d240_976 kc_0) ?_
      refine yL.eq (y_lald (pc := 977) d240_977 s_21) ?_
      refine yL.eq (y_iload (pc := 978) (x := v8) d240_978 rfl) ?_
      refine yL.eq (y_i2l (pc := 980) d240_980) ?_
      refine yL.eq (y_lcmp (pc := 981) d240_981) ?_
      refine yL.eq (y_lif_eq (pc := 982) (t := 987) d240_982 (by decide)) ?_
      refine yL.ite (fun h13 => ?_) (fun h13 => ?_)
      ·
        refine yL.eq (y_goto (pc := 987) (t := 2111) d240_987 (by decide)) ?_
        refine yL.eq (y_iinc (pc := 2111) (v := 4) (x := x4) (ls' := [some (.ref 0), some (.ref 7), some (.ref 190), some (.ref 202), some (.int (x4 + 4)), some (.int v4), some (.int v8)]) d240_2111 kc_4 rfl (Nat.le_of_ble_eq_true rfl) rfl) ?_
        refine yL.eq (y_goto (pc := 2114) (t := 23) d240_2114 (by decide)) ?_
        exact yL.rf
      ·
        refine yL.eq (y_iconst (pc := 985) (v := 0) d240_985 kc_0) ?_
        exact yL.eq (y_iretz (pc := 986) d240_986 mr_240) (yL.eq yZ_0 yL.rf)
    ·
      refine yL.eq (y_goto (pc := 987) (t := 2111) d240_987 (by decide)) ?_
      refine yL.eq (y_iinc (pc := 2111) (v := 4) (x := x4) (ls' := [some (.ref 0), some (.ref 7), some (.ref 190), some (.ref 202), some (.int (x4 + 4)), some (.int v4), some (.int v8)]) d240_2111 kc_4 rfl (Nat.le_of_ble_eq_true rfl) rfl) ?_
      refine yL.eq (y_goto (pc := 2114) (t := 23) d240_2114 (by decide)) ?_
      exact yL.rf
  ·
    refine yL.eq (y_iconst (pc := 968) (v := 0) d240_968 kc_0) ?_
    exact yL.eq (y_iretz (pc := 969) d240_969 mr_240) (yL.eq yZ_0 yL.rf)
set_option maxRecDepth 20000 in
set_option maxHeartbeats 4000000 in
theorem e240_990 {x4 : Int32} {o5 : Option Value} {o6 : Option Value} {M : yM} {nc ns : Nat} (hn : nc + 4 ≤ 601024 ∧ ns + 24 ≤ 7293034) : yL (if yinB (x4 + 1) (ylen M) = true then if yinB (x4 + 2) (ylen M) = true then if yinB (x4 + 3) (ylen M) = true then if (M 0 (yx (x4 + 3))) = 0 then yCi false (yX 225 0 [some (.ref 7), some (.int (M 0 (yx (x4 + 1)))), some (.int (M 0 (yx (x4 + 2)))), some (.int 0), some (.ref 202), none] [] M 0 0) fun v6 M5 => if yinB (x4 + 1) (ylen M5) = true then if yinB (x4 + 2) (ylen M5) = true then if yinB (x4 + 3) (ylen M5) = true then if (M5 0 (yx (x4 + 3))) = 0 then yCi false (yX 187 0 [some (.ref 190), some (.int (M5 0 (yx (x4 + 1)))), some (.int (M5 0 (yx (x4 + 2)))), some (.int 0)] [] M5 0 0) fun v12 M11 => yCi false (yX 106 0 [some (.ref 190)] [] M11 0 0) fun v14 M13 => if v14 = v6 then if v6 = 0 then if ((M13 202 0).toInt64) = v12.toInt64 then yX 240 23 [some (.ref 0), some (.ref 7), some (.ref 190), some (.ref 202), some (.int (x4 + 4)), some (.int v6), some (.int v12)] [] M13 (nc + 3) (ns + 18) else yI 0 M13 else yX 240 23 [some (.ref 0), some (.ref 7), some (.ref 190), some (.ref 202), some (.int (x4 + 4)), some (.int v6), some (.int v12)] [] M13 (nc + 3) (ns + 18) else yI 0 M13 else yCi false (yX 187 0 [some (.ref 190), some (.int (M5 0 (yx (x4 + 1)))), some (.int (M5 0 (yx (x4 + 2)))), some (.int 1)] [] M5 0 0) fun v19 M18 => yCi false (yX 106 0 [some (.ref 190)] [] M18 0 0) fun v21 M20 => if v21 = v6 then if v6 = 0 then if ((M20 202 0).toInt64) = v19.toInt64 then yX 240 23 [some (.ref 0), some (.ref 7), some (.ref 190), some (.ref 202), some (.int (x4 + 4)), some (.int v6), some (.int v19)] [] M20 (nc + 3) (ns + 18) else yI 0 M20 else yX 240 23 [some (.ref 0), some (.ref 7), some (.ref 190), some (.ref 202), some (.int (x4 + 4)), some (.int v6), some (.int v19)] [] M20 (nc + 3) (ns + 18) else yI 0 M20 else none else none else none else yCi false (yX 225 0 [some (.ref 7), some (.int (M 0 (yx (x4 + 1)))), some (.int (M 0 (yx (x4 + 2)))), some (.int 1), some (.ref 202), none] [] M 0 0) fun v26 M25 => if yinB (x4 + 1) (ylen M25) = true then if yinB (x4 + 2) (ylen M25) = true then if yinB (x4 + 3) (ylen M25) = true then if (M25 0 (yx (x4 + 3))) = 0 then yCi false (yX 187 0 [some (.ref 190), some (.int (M25 0 (yx (x4 + 1)))), some (.int (M25 0 (yx (x4 + 2)))), some (.int 0)] [] M25 0 0) fun v32 M31 => yCi false (yX 106 0 [some (.ref 190)] [] M31 0 0) fun v34 M33 => if v34 = v26 then if v26 = 0 then if ((M33 202 0).toInt64) = v32.toInt64 then yX 240 23 [some (.ref 0), some (.ref 7), some (.ref 190), some (.ref 202), some (.int (x4 + 4)), some (.int v26), some (.int v32)] [] M33 (nc + 3) (ns + 18) else yI 0 M33 else yX 240 23 [some (.ref 0), some (.ref 7), some (.ref 190), some (.ref 202), some (.int (x4 + 4)), some (.int v26), some (.int v32)] [] M33 (nc + 3) (ns + 18) else yI 0 M33 else yCi false (yX 187 0 [some (.ref 190), some (.int (M25 0 (yx (x4 + 1)))), some (.int (M25 0 (yx (x4 + 2)))), some (.int 1)] [] M25 0 0) fun v39 M38 => yCi false (yX 106 0 [some (.ref 190)] [] M38 0 0) fun v41 M40 => if v41 = v26 then if v26 = 0 then if ((M40 202 0).toInt64) = v39.toInt64 then yX 240 23 [some (.ref 0), some (.ref 7), some (.ref 190), some (.ref 202), some (.int (x4 + 4)), some (.int v26), some (.int v39)] [] M40 (nc + 3) (ns + 18) else yI 0 M40 else yX 240 23 [some (.ref 0), some (.ref 7), some (.ref 190), some (.ref 202), some (.int (x4 + 4)), some (.int v26), some (.int v39)] [] M40 (nc + 3) (ns + 18) else yI 0 M40 else none else none else none else none else none else none) (yX 240 990 [some (.ref 0), some (.ref 7), some (.ref 190), some (.ref 202), some (.int x4), o5, o6] [] M nc ns) := by
  refine yL.eq (y_aload_n (pc := 990) (x := 7) d240_990 rfl) ?_
  refine yL.eq (y_aload_n (pc := 991) (x := 0) d240_991 rfl) ?_
  refine yL.eq (y_iload (pc := 992) (x := x4) d240_992 rfl) ?_
  refine yL.eq (y_iconst (pc := 994) (v := 1) d240_994 kc_1) ?_
  refine yL.eq (y_iadd (pc := 995) d240_995) ?_
  refine yL.eq (y_iald0 (pc := 996) d240_996) ?_
  refine yL.gd (fun h1 => ?_)
  refine yL.eq (y_aload_n (pc := 997) (x := 0) d240_997 rfl) ?_
  refine yL.eq (y_iload (pc := 998) (x := x4) d240_998 rfl) ?_
  refine yL.eq (y_iconst (pc := 1000) (v := 2) d240_1000 kc_2) ?_
  refine yL.eq (y_iadd (pc := 1001) d240_1001) ?_
  refine yL.eq (y_iald0 (pc := 1002) d240_1002) ?_
  refine yL.gd (fun h2 => ?_)
  refine yL.eq (y_aload_n (pc := 1003) (x := 0) d240_1003 rfl) ?_
  refine yL.eq (y_iload (pc := 1004) (x := x4) d240_1004 rfl) ?_
  refine yL.eq (y_iconst (pc := 1006) (v := 3) d240_1006 kc_3) ?_
  refine yL.eq (y_iadd (pc := 1007) d240_1007) ?_
  refine yL.eq (y_iald0 (pc := 1008) d240_1008) ?_
  refine yL.gd (fun h3 => ?_)
  refine yL.eq (y_if_eq (pc := 1009) (t := 1016) d240_1009 (by decide)) ?_
  refine yL.ite (fun h4 => ?_) (fun h4 => ?_)
  ·
    refine yL.eq (y_iconst (pc := 1016) (v := 0) d240_1016 kc_0) ?_
    refine yL.eq (y_aload_n (pc := 1017) (x := 202) d240_1017 rfl) ?_
    refine y_calls_i (pc := 1018) (n := 5) (n' := 6) (nc' := nc + 3) (ns' := ns + 18) [.ref 7, .int (M 0 (yx (x4 + 1))), .int (M 0 (yx (x4 + 2))), .int 0, .ref 202] [] false d240_1018 q240_164 rfl rfl rfl (Nat.le_of_ble_eq_true rfl) (Nat.le_of_ble_eq_true rfl) rfl (by decide +kernel) (y_rmc (c := 3) (s := 18) mcs_225 hn (by decide)) (fun v6 M5 => ?_)
    refine yL.eq (y_istore (pc := 1021) (ls' := [some (.ref 0), some (.ref 7), some (.ref 190), some (.ref 202), some (.int x4), some (.int v6), o6]) d240_1021 rfl rfl) ?_
    refine yL.eq (y_aload_n (pc := 1023) (x := 190) d240_1023 rfl) ?_
    refine yL.eq (y_aload_n (pc := 1024) (x := 0) d240_1024 rfl) ?_
    refine yL.eq (y_iload (pc := 1025) (x := x4) d240_1025 rfl) ?_
    refine yL.eq (y_iconst (pc := 1027) (v := 1) d240_1027 kc_1) ?_
    refine yL.eq (y_iadd (pc := 1028) d240_1028) ?_
    refine yL.eq (y_iald0 (pc := 1029) d240_1029) ?_
    refine yL.gd (fun h7 => ?_)
    refine yL.eq (y_aload_n (pc := 1030) (x := 0) d240_1030 rfl) ?_
    refine yL.eq (y_iload (pc := 1031) (x := x4) d240_1031 rfl) ?_
    refine yL.eq (y_iconst (pc := 1033) (v := 2) d240_1033 kc_2) ?_
    refine yL.eq (y_iadd (pc := 1034) d240_1034) ?_
    refine yL.eq (y_iald0 (pc := 1035) d240_1035) ?_
    refine yL.gd (fun h8 => ?_)
    refine yL.eq (y_aload_n (pc := 1036) (x := 0) d240_1036 rfl) ?_
    refine yL.eq (y_iload (pc := 1037) (x := x4) d240_1037 rfl) ?_
    refine yL.eq (y_iconst (pc := 1039) (v := 3) d240_1039 kc_3) ?_
    refine yL.eq (y_iadd (pc := 1040) d240_1040) ?_
    refine yL.eq (y_iald0 (pc := 1041) d240_1041) ?_
    refine yL.gd (fun h9 => ?_)
    refine yL.eq (y_if_eq (pc := 1042) (t := 1049) d240_1042 (by decide)) ?_
    refine yL.ite (fun h10 => ?_) (fun h10 => ?_)
    ·
      refine yL.eq (y_iconst (pc := 1049) (v := 0) d240_1049 kc_0) ?_
      refine y_callv_i (pc := 1050) (n := 4) (n' := 4) (nc' := nc + 3) (ns' := ns + 18) [.int (M5 0 (yx (x4 + 1))), .int (M5 0 (yx (x4 + 2))), .int 0] [] false d240_1050 q240_167 mk_187 s_t_190 rfl rfl (Nat.le_of_ble_eq_true rfl) (Nat.le_of_ble_eq_true rfl) rfl (by decide +kernel) (y_rmd (c := 3) (s := 18) mcs_187 hn (by decide)) (fun v12 M11 => ?_)
      refine yL.eq (y_istore (pc := 1053) (ls' := [some (.ref 0), some (.ref 7), some (.ref 190), some (.ref 202), some (.int x4), some (.int v6), some (.int v12)]) d240_1053 rfl rfl) ?_
      refine yL.eq (y_aload_n (pc := 1055) (x := 190) d240_1055 rfl) ?_
      refine y_callv_i (pc := 1056) (n := 1) (n' := 1) (nc' := nc + 3) (ns' := ns + 18) [] [] false d240_1056 q240_115 mk_106 s_t_190 rfl rfl (Nat.le_of_ble_eq_true rfl) (Nat.le_of_ble_eq_true rfl) rfl (by decide +kernel) (y_rmd (c := 3) (s := 18) mcs_106 hn (by decide)) (fun v14 M13 => ?_)
      refine yL.eq (y_iload (pc := 1059) (x := v6) d240_1059 rfl) ?_
      refine yL.eq (y_icmp_eq (pc := 1061) (t := 1066) d240_1061 (by decide)) ?_
      refine yL.ite (fun h15 => ?_) (fun h15 => ?_)
      ·
        refine yL.eq (y_iload (pc := 1066) (x := v6) d240_1066 rfl) ?_
        refine yL.eq (y_if_ne (pc := 1068) (t := 1083) d240_1068 (by decide)) ?_
        refine yL.ite (fun h16 => ?_) (fun h16 => ?_)
        ·
          refine yL.eq (y_aload_n (pc := 1071) (x := 202) d240_1071 rfl) ?_
          refine yL.eq (y_iconst (pc := 1072) (v := 0) d240_1072 kc_0) ?_
          refine yL.eq (y_lald (pc := 1073) d240_1073 s_21) ?_
          refine yL.eq (y_iload (pc := 1074) (x := v12) d240_1074 rfl) ?_
          refine yL.eq (y_i2l (pc := 1076) d240_1076) ?_
          refine yL.eq (y_lcmp (pc := 1077) d240_1077) ?_
          refine yL.eq (y_lif_eq (pc := 1078) (t := 1083) d240_1078 (by decide)) ?_
          refine yL.ite (fun h17 => ?_) (fun h17 => ?_)
          ·
            refine yL.eq (y_goto (pc := 1083) (t := 2111) d240_1083 (by decide)) ?_
            refine yL.eq (y_iinc (pc := 2111) (v := 4) (x := x4) (ls' := [some (.ref 0), some (.ref 7), some (.ref 190), some (.ref 202), some (.int (x4 + 4)), some (.int v6), some (.int v12)]) d240_2111 kc_4 rfl (Nat.le_of_ble_eq_true rfl) rfl) ?_
            refine yL.eq (y_goto (pc := 2114) (t := 23) d240_2114 (by decide)) ?_
            exact yL.rf
          ·
            refine yL.eq (y_iconst (pc := 1081) (v := 0) d240_1081 kc_0) ?_
            exact yL.eq (y_iretz (pc := 1082) d240_1082 mr_240) (yL.eq yZ_0 yL.rf)
        ·
          refine yL.eq (y_goto (pc := 1083) (t := 2111) d240_1083 (by decide)) ?_
          refine yL.eq (y_iinc (pc := 2111) (v := 4) (x := x4) (ls' := [some (.ref 0), some (.ref 7), some (.ref 190), some (.ref 202), some (.int (x4 + 4)), some (.int v6), some (.int v12)]) d240_2111 kc_4 rfl (Nat.le_of_ble_eq_true rfl) rfl) ?_
          refine yL.eq (y_goto (pc := 2114) (t := 23) d240_2114 (by decide)) ?_
          exact yL.rf
      ·
        refine yL.eq (y_iconst (pc := 1064) (v := 0) d240_1064 kc_0) ?_
        exact yL.eq (y_iretz (pc := 1065) d240_1065 mr_240) (yL.eq yZ_0 yL.rf)
    ·
      refine yL.eq (y_iconst (pc := 1045) (v := 1) d240_1045 kc_1) ?_
      refine yL.eq (y_goto (pc := 1046) (t := 1050) d240_1046 (by decide)) ?_
      refine y_callv_i (pc := 1050) (n := 4) (n' := 4) (nc' := nc + 3) (ns' := ns + 18) [.int (M5 0 (yx (x4 + 1))), .int (M5 0 (yx (x4 + 2))), .int 1] [] false d240_1050 q240_167 mk_187 s_t_190 rfl rfl (Nat.le_of_ble_eq_true rfl) (Nat.le_of_ble_eq_true rfl) rfl (by decide +kernel) (y_rmd (c := 3) (s := 18) mcs_187 hn (by decide)) (fun v19 M18 => ?_)
      refine yL.eq (y_istore (pc := 1053) (ls' := [some (.ref 0), some (.ref 7), some (.ref 190), some (.ref 202), some (.int x4), some (.int v6), some (.int v19)]) d240_1053 rfl rfl) ?_
      refine yL.eq (y_aload_n (pc := 1055) (x := 190) d240_1055 rfl) ?_
      refine y_callv_i (pc := 1056) (n := 1) (n' := 1) (nc' := nc + 3) (ns' := ns + 18) [] [] false d240_1056 q240_115 mk_106 s_t_190 rfl rfl (Nat.le_of_ble_eq_true rfl) (Nat.le_of_ble_eq_true rfl) rfl (by decide +kernel) (y_rmd (c := 3) (s := 18) mcs_106 hn (by decide)) (fun v21 M20 => ?_)
      refine yL.eq (y_iload (pc := 1059) (x := v6) d240_1059 rfl) ?_
      refine yL.eq (y_icmp_eq (pc := 1061) (t := 1066) d240_1061 (by decide)) ?_
      refine yL.ite (fun h22 => ?_) (fun h22 => ?_)
      ·
        refine yL.eq (y_iload (pc := 1066) (x := v6) d240_1066 rfl) ?_
        refine yL.eq (y_if_ne (pc := 1068) (t := 1083) d240_1068 (by decide)) ?_
        refine yL.ite (fun h23 => ?_) (fun h23 => ?_)
        ·
          refine yL.eq (y_aload_n (pc := 1071) (x := 202) d240_1071 rfl) ?_
          refine yL.eq (y_iconst (pc := 1072) (v := 0) d240_1072 kc_0) ?_
          refine yL.eq (y_lald (pc := 1073) d240_1073 s_21) ?_
          refine yL.eq (y_iload (pc := 1074) (x := v19) d240_1074 rfl) ?_
          refine yL.eq (y_i2l (pc := 1076) d240_1076) ?_
          refine yL.eq (y_lcmp (pc := 1077) d240_1077) ?_
          refine yL.eq (y_lif_eq (pc := 1078) (t := 1083) d240_1078 (by decide)) ?_
          refine yL.ite (fun h24 => ?_) (fun h24 => ?_)
          ·
            refine yL.eq (y_goto (pc := 1083) (t := 2111) d240_1083 (by decide)) ?_
            refine yL.eq (y_iinc (pc := 2111) (v := 4) (x := x4) (ls' := [some (.ref 0), some (.ref 7), some (.ref 190), some (.ref 202), some (.int (x4 + 4)), some (.int v6), some (.int v19)]) d240_2111 kc_4 rfl (Nat.le_of_ble_eq_true rfl) rfl) ?_
            refine yL.eq (y_goto (pc := 2114) (t := 23) d240_2114 (by decide)) ?_
            exact yL.rf
          ·
            refine yL.eq (y_iconst (pc := 1081) (v := 0) d240_1081 kc_0) ?_
            exact yL.eq (y_iretz (pc := 1082) d240_1082 mr_240) (yL.eq yZ_0 yL.rf)
        ·
          refine yL.eq (y_goto (pc := 1083) (t := 2111) d240_1083 (by decide)) ?_
          refine yL.eq (y_iinc (pc := 2111) (v := 4) (x := x4) (ls' := [some (.ref 0), some (.ref 7), some (.ref 190), some (.ref 202), some (.int (x4 + 4)), some (.int v6), some (.int v19)]) d240_2111 kc_4 rfl (Nat.le_of_ble_eq_true rfl) rfl) ?_
          refine yL.eq (y_goto (pc := 2114) (t := 23) d240_2114 (by decide)) ?_
          exact yL.rf
      ·
        refine yL.eq (y_iconst (pc := 1064) (v := 0) d240_1064 kc_0) ?_
        exact yL.eq (y_iretz (pc := 1065) d240_1065 mr_240) (yL.eq yZ_0 yL.rf)
  ·
    refine yL.eq (y_iconst (pc := 1012) (v := 1) d240_1012 kc_1) ?_
    refine yL.eq (y_goto (pc := 1013) (t := 1017) d240_1013 (by decide)) ?_
    refine yL.eq (y_aload_n (pc := 1017) (x := 202) d240_1017 rfl) ?_
    refine y_calls_i (pc := 1018) (n := 5) (n' := 6) (nc' := nc + 3) (ns' := ns + 18) [.ref 7, .int (M 0 (yx (x4 + 1))), .int (M 0 (yx (x4 + 2))), .int 1, .ref 202] [] false d240_1018 q240_164 rfl rfl rfl (Nat.le_of_ble_eq_true rfl) (Nat.le_of_ble_eq_true rfl) rfl (by decide +kernel) (y_rmc (c := 3) (s := 18) mcs_225 hn (by decide)) (fun v26 M25 => ?_)
    refine yL.eq (y_istore (pc := 1021) (ls' := [some (.ref 0), some (.ref 7), some (.ref 190), some (.ref 202), some (.int x4), some (.int v26), o6]) d240_1021 rfl rfl) ?_
    refine yL.eq (y_aload_n (pc := 1023) (x := 190) d240_1023 rfl) ?_
    refine yL.eq (y_aload_n (pc := 1024) (x := 0) d240_1024 rfl) ?_
    refine yL.eq (y_iload (pc := 1025) (x := x4) d240_1025 rfl) ?_
    refine yL.eq (y_iconst (pc := 1027) (v := 1) d240_1027 kc_1) ?_
    refine yL.eq (y_iadd (pc := 1028) d240_1028) ?_
    refine yL.eq (y_iald0 (pc := 1029) d240_1029) ?_
    refine yL.gd (fun h27 => ?_)
    refine yL.eq (y_aload_n (pc := 1030) (x := 0) d240_1030 rfl) ?_
    refine yL.eq (y_iload (pc := 1031) (x := x4) d240_1031 rfl) ?_
    refine yL.eq (y_iconst (pc := 1033) (v := 2) d240_1033 kc_2) ?_
    refine yL.eq (y_iadd (pc := 1034) d240_1034) ?_
    refine yL.eq (y_iald0 (pc := 1035) d240_1035) ?_
    refine yL.gd (fun h28 => ?_)
    refine yL.eq (y_aload_n (pc := 1036) (x := 0) d240_1036 rfl) ?_
    refine yL.eq (y_iload (pc := 1037) (x := x4) d240_1037 rfl) ?_
    refine yL.eq (y_iconst (pc := 1039) (v := 3) d240_1039 kc_3) ?_
    refine yL.eq (y_iadd (pc := 1040) d240_1040) ?_
    refine yL.eq (y_iald0 (pc := 1041) d240_1041) ?_
    refine yL.gd (fun h29 => ?_)
    refine yL.eq (y_if_eq (pc := 1042) (t := 1049) d240_1042 (by decide)) ?_
    refine yL.ite (fun h30 => ?_) (fun h30 => ?_)
    ·
      refine yL.eq (y_iconst (pc := 1049) (v := 0) d240_1049 kc_0) ?_
      refine y_callv_i (pc := 1050) (n := 4) (n' := 4) (nc' := nc + 3) (ns' := ns + 18) [.int (M25 0 (yx (x4 + 1))), .int (M25 0 (yx (x4 + 2))), .int 0] [] false d240_1050 q240_167 mk_187 s_t_190 rfl rfl (Nat.le_of_ble_eq_true rfl) (Nat.le_of_ble_eq_true rfl) rfl (by decide +kernel) (y_rmd (c := 3) (s := 18) mcs_187 hn (by decide)) (fun v32 M31 => ?_)
      refine yL.eq (y_istore (pc := 1053) (ls' := [some (.ref 0), some (.ref 7), some (.ref 190), some (.ref 202), some (.int x4), some (.int v26), some (.int v32)]) d240_1053 rfl rfl) ?_
      refine yL.eq (y_aload_n (pc := 1055) (x := 190) d240_1055 rfl) ?_
      refine y_callv_i (pc := 1056) (n := 1) (n' := 1) (nc' := nc + 3) (ns' := ns + 18) [] [] false d240_1056 q240_115 mk_106 s_t_190 rfl rfl (Nat.le_of_ble_eq_true rfl) (Nat.le_of_ble_eq_true rfl) rfl (by decide +kernel) (y_rmd (c := 3) (s := 18) mcs_106 hn (by decide)) (fun v34 M33 => ?_)
      refine yL.eq (y_iload (pc := 1059) (x := v26) d240_1059 rfl) ?_
      refine yL.eq (y_icmp_eq (pc := 1061) (t := 1066) d240_1061 (by decide)) ?_
      refine yL.ite (fun h35 => ?_) (fun h35 => ?_)
      ·
        refine yL.eq (y_iload (pc := 1066) (x := v26) d240_1066 rfl) ?_
        refine yL.eq (y_if_ne (pc := 1068) (t := 1083) d240_1068 (by decide)) ?_
        refine yL.ite (fun h36 => ?_) (fun h36 => ?_)
        ·
          refine yL.eq (y_aload_n (pc := 1071) (x := 202) d240_1071 rfl) ?_
          refine yL.eq (y_iconst (pc := 1072) (v := 0) d240_1072 kc_0) ?_
          refine yL.eq (y_lald (pc := 1073) d240_1073 s_21) ?_
          refine yL.eq (y_iload (pc := 1074) (x := v32) d240_1074 rfl) ?_
          refine yL.eq (y_i2l (pc := 1076) d240_1076) ?_
          refine yL.eq (y_lcmp (pc := 1077) d240_1077) ?_
          refine yL.eq (y_lif_eq (pc := 1078) (t := 1083) d240_1078 (by decide)) ?_
          refine yL.ite (fun h37 => ?_) (fun h37 => ?_)
          ·
            refine yL.eq (y_goto (pc := 1083) (t := 2111) d240_1083 (by decide)) ?_
            refine yL.eq (y_iinc (pc := 2111) (v := 4) (x := x4) (ls' := [some (.ref 0), some (.ref 7), some (.ref 190), some (.ref 202), some (.int (x4 + 4)), some (.int v26), some (.int v32)]) d240_2111 kc_4 rfl (Nat.le_of_ble_eq_true rfl) rfl) ?_
            refine yL.eq (y_goto (pc := 2114) (t := 23) d240_2114 (by decide)) ?_
            exact yL.rf
          ·
            refine yL.eq (y_iconst (pc := 1081) (v := 0) d240_1081 kc_0) ?_
            exact yL.eq (y_iretz (pc := 1082) d240_1082 mr_240) (yL.eq yZ_0 yL.rf)
        ·
          refine yL.eq (y_goto (pc := 1083) (t := 2111) d240_1083 (by decide)) ?_
          refine yL.eq (y_iinc (pc := 2111) (v := 4) (x := x4) (ls' := [some (.ref 0), some (.ref 7), some (.ref 190), some (.ref 202), some (.int (x4 + 4)), some (.int v26), some (.int v32)]) d240_2111 kc_4 rfl (Nat.le_of_ble_eq_true rfl) rfl) ?_
          refine yL.eq (y_goto (pc := 2114) (t := 23) d240_2114 (by decide)) ?_
          exact yL.rf
      ·
        refine yL.eq (y_iconst (pc := 1064) (v := 0) d240_1064 kc_0) ?_
        exact yL.eq (y_iretz (pc := 1065) d240_1065 mr_240) (yL.eq yZ_0 yL.rf)
    ·
      refine yL.eq (y_iconst (pc := 1045) (v := 1) d240_1045 kc_1) ?_
      refine yL.eq (y_goto (pc := 1046) (t := 1050) d240_1046 (by decide)) ?_
      refine y_callv_i (pc := 1050) (n := 4) (n' := 4) (nc' := nc + 3) (ns' := ns + 18) [.int (M25 0 (yx (x4 + 1))), .int (M25 0 (yx (x4 + 2))), .int 1] [] false d240_1050 q240_167 mk_187 s_t_190 rfl rfl (Nat.le_of_ble_eq_true rfl) (Nat.le_of_ble_eq_true rfl) rfl (by decide +kernel) (y_rmd (c := 3) (s := 18) mcs_187 hn (by decide)) (fun v39 M38 => ?_)
      refine yL.eq (y_istore (pc := 1053) (ls' := [some (.ref 0), some (.ref 7), some (.ref 190), some (.ref 202), some (.int x4), some (.int v26), some (.int v39)]) d240_1053 rfl rfl) ?_
      refine yL.eq (y_aload_n (pc := 1055) (x := 190) d240_1055 rfl) ?_
      refine y_callv_i (pc := 1056) (n := 1) (n' := 1) (nc' := nc + 3) (ns' := ns + 18) [] [] false d240_1056 q240_115 mk_106 s_t_190 rfl rfl (Nat.le_of_ble_eq_true rfl) (Nat.le_of_ble_eq_true rfl) rfl (by decide +kernel) (y_rmd (c := 3) (s := 18) mcs_106 hn (by decide)) (fun v41 M40 => ?_)
      refine yL.eq (y_iload (pc := 1059) (x := v26) d240_1059 rfl) ?_
      refine yL.eq (y_icmp_eq (pc := 1061) (t := 1066) d240_1061 (by decide)) ?_
      refine yL.ite (fun h42 => ?_) (fun h42 => ?_)
      ·
        refine yL.eq (y_iload (pc := 1066) (x := v26) d240_1066 rfl) ?_
        refine yL.eq (y_if_ne (pc := 1068) (t := 1083) d240_1068 (by decide)) ?_
        refine yL.ite (fun h43 => ?_) (fun h43 => ?_)
        ·
          refine yL.eq (y_aload_n (pc := 1071) (x := 202) d240_1071 rfl) ?_
          refine yL.eq (y_iconst (pc := 1072) (v := 0) d240_1072 kc_0) ?_
          refine yL.eq (y_lald (pc := 1073) d240_1073 s_21) ?_
          refine yL.eq (y_iload (pc := 1074) (x := v39) d240_1074 rfl) ?_
          refine yL.eq (y_i2l (pc := 1076) d240_1076) ?_
          refine yL.eq (y_lcmp (pc := 1077) d240_1077) ?_
          refine yL.eq (y_lif_eq (pc := 1078) (t := 1083) d240_1078 (by decide)) ?_
          refine yL.ite (fun h44 => ?_) (fun h44 => ?_)
          ·
            refine yL.eq (y_goto (pc := 1083) (t := 2111) d240_1083 (by decide)) ?_
            refine yL.eq (y_iinc (pc := 2111) (v := 4) (x := x4) (ls' := [some (.ref 0), some (.ref 7), some (.ref 190), some (.ref 202), some (.int (x4 + 4)), some (.int v26), some (.int v39)]) d240_2111 kc_4 rfl (Nat.le_of_ble_eq_true rfl) rfl) ?_
            refine yL.eq (y_goto (pc := 2114) (t := 23) d240_2114 (by decide)) ?_
            exact yL.rf
          ·
            refine yL.eq (y_iconst (pc := 1081) (v := 0) d240_1081 kc_0) ?_
            exact yL.eq (y_iretz (pc := 1082) d240_1082 mr_240) (yL.eq yZ_0 yL.rf)
        ·
          refine yL.eq (y_goto (pc := 1083) (t := 2111) d240_1083 (by decide)) ?_
          refine yL.eq (y_iinc (pc := 2111) (v := 4) (x := x4) (ls' := [some (.ref 0), some (.ref 7), some (.ref 190), some (.ref 202), some (.int (x4 + 4)), some (.int v26), some (.int v39)]) d240_2111 kc_4 rfl (Nat.le_of_ble_eq_true rfl) rfl) ?_
          refine yL.eq (y_goto (pc := 2114) (t := 23) d240_2114 (by decide)) ?_
          exact yL.rf
      ·
        refine yL.eq (y_iconst (pc := 1064) (v := 0) d240_1064 kc_0) ?_
        exact yL.eq (y_iretz (pc := 1065) d240_1065 mr_240) (yL.eq yZ_0 yL.rf)
set_option maxRecDepth 20000 in
set_option maxHeartbeats 4000000 in
theorem e240_1086 {x4 : Int32} {o5 : Option Value} {o6 : Option Value} {M : yM} {nc ns : Nat} (hn : nc + 4 ≤ 601024 ∧ ns + 24 ≤ 7293034) : yL (if yinB (x4 + 1) (ylen M) = true then if yinB (x4 + 2) (ylen M) = true then yCi false (yX 226 0 [some (.ref 7), some (.int (M 0 (yx (x4 + 1)))), some (.int (M 0 (yx (x4 + 2)))), some (.ref 202), none] [] M 0 0) fun v4 M3 => if yinB (x4 + 1) (ylen M3) = true then if yinB (x4 + 2) (ylen M3) = true then yCi false (yX 188 0 [some (.ref 190), some (.int (M3 0 (yx (x4 + 1)))), some (.int (M3 0 (yx (x4 + 2))))] [] M3 0 0) fun v8 M7 => yCi false (yX 106 0 [some (.ref 190)] [] M7 0 0) fun v10 M9 => if v10 = v4 then if v4 = 0 then if ((M9 202 0).toInt64) = v8.toInt64 then yX 240 23 [some (.ref 0), some (.ref 7), some (.ref 190), some (.ref 202), some (.int (x4 + 4)), some (.int v4), some (.int v8)] [] M9 (nc + 3) (ns + 18) else yI 0 M9 else yX 240 23 [some (.ref 0), some (.ref 7), some (.ref 190), some (.ref 202), some (.int (x4 + 4)), some (.int v4), some (.int v8)] [] M9 (nc + 3) (ns + 18) else yI 0 M9 else none else none else none else none) (yX 240 1086 [some (.ref 0), some (.ref 7), some (.ref 190), some (.ref 202), some (.int x4), o5, o6] [] M nc ns) := by
  refine yL.eq (y_aload_n (pc := 1086) (x := 7) d240_1086 rfl) ?_
  refine yL.eq (y_aload_n (pc := 1087) (x := 0) d240_1087 rfl) ?_
  refine yL.eq (y_iload (pc := 1088) (x := x4) d240_1088 rfl) ?_
  refine yL.eq (y_iconst (pc := 1090) (v := 1) d240_1090 kc_1) ?_
  refine yL.eq (y_iadd (pc := 1091) d240_1091) ?_
  refine yL.eq (y_iald0 (pc := 1092) d240_1092) ?_
  refine yL.gd (fun h1 => ?_)
  refine yL.eq (y_aload_n (pc := 1093) (x := 0) d240_1093 rfl) ?_
  refine yL.eq (y_iload (pc := 1094) (x := x4) d240_1094 rfl) ?_
  refine yL.eq (y_iconst (pc := 1096) (v := 2) d240_1096 kc_2) ?_
  refine yL.eq (y_iadd (pc := 1097) d240_1097) ?_
  refine yL.eq (y_iald0 (pc := 1098) d240_1098) ?_
  refine yL.gd (fun h2 => ?_)
  refine yL.eq (y_aload_n (pc := 1099) (x := 202) d240_1099 rfl) ?_
  refine y_calls_i (pc := 1100) (n := 4) (n' := 5) (nc' := nc + 3) (ns' := ns + 18) [.ref 7, .int (M 0 (yx (x4 + 1))), .int (M 0 (yx (x4 + 2))), .ref 202] [] false d240_1100 q240_168 rfl rfl rfl (Nat.le_of_ble_eq_true rfl) (Nat.le_of_ble_eq_true rfl) rfl (by decide +kernel) (y_rmc (c := 3) (s := 18) mcs_226 hn (by decide)) (fun v4 M3 => ?_)
  refine yL.eq (y_istore (pc := 1103) (ls' := [some (.ref 0), some (.ref 7), some (.ref 190), some (.ref 202), some (.int x4), some (.int v4), o6]) d240_1103 rfl rfl) ?_
  refine yL.eq (y_aload_n (pc := 1105) (x := 190) d240_1105 rfl) ?_
  refine yL.eq (y_aload_n (pc := 1106) (x := 0) d240_1106 rfl) ?_
  refine yL.eq (y_iload (pc := 1107) (x := x4) d240_1107 rfl) ?_
  refine yL.eq (y_iconst (pc := 1109) (v := 1) d240_1109 kc_1) ?_
  refine yL.eq (y_iadd (pc := 1110) d240_1110) ?_
  refine yL.eq (y_iald0 (pc := 1111) d240_1111) ?_
  refine yL.gd (fun h5 => ?_)
  refine yL.eq (y_aload_n (pc := 1112) (x := 0) d240_1112 rfl) ?_
  refine yL.eq (y_iload (pc := 1113) (x := x4) d240_1113 rfl) ?_
  refine yL.eq (y_iconst (pc := 1115) (v := 2) d240_1115 kc_2) ?_
  refine yL.eq (y_iadd (pc := 1116) d240_1116) ?_
  refine yL.eq (y_iald0 (pc := 1117) d240_1117) ?_
  refine yL.gd (fun h6 => ?_)
  refine y_callv_i (pc := 1118) (n := 3) (n' := 3) (nc' := nc + 3) (ns' := ns + 18) [.int (M3 0 (yx (x4 + 1))), .int (M3 0 (yx (x4 + 2)))] [] false d240_1118 q240_170 mk_188 s_t_190 rfl rfl (Nat.le_of_ble_eq_true rfl) (Nat.le_of_ble_eq_true rfl) rfl (by decide +kernel) (y_rmd (c := 3) (s := 18) mcs_188 hn (by decide)) (fun v8 M7 => ?_)
  refine yL.eq (y_istore (pc := 1121) (ls' := [some (.ref 0), some (.ref 7), some (.ref 190), some (.ref 202), some (.int x4), some (.int v4), some (.int v8)]) d240_1121 rfl rfl) ?_
  refine yL.eq (y_aload_n (pc := 1123) (x := 190) d240_1123 rfl) ?_
  refine y_callv_i (pc := 1124) (n := 1) (n' := 1) (nc' := nc + 3) (ns' := ns + 18) [] [] false d240_1124 q240_115 mk_106 s_t_190 rfl rfl (Nat.le_of_ble_eq_true rfl) (Nat.le_of_ble_eq_true rfl) rfl (by decide +kernel) (y_rmd (c := 3) (s := 18) mcs_106 hn (by decide)) (fun v10 M9 => ?_)
  refine yL.eq (y_iload (pc := 1127) (x := v4) d240_1127 rfl) ?_
  refine yL.eq (y_icmp_eq (pc := 1129) (t := 1134) d240_1129 (by decide)) ?_
  refine yL.ite (fun h11 => ?_) (fun h11 => ?_)
  ·
    refine yL.eq (y_iload (pc := 1134) (x := v4) d240_1134 rfl) ?_
    refine yL.eq (y_if_ne (pc := 1136) (t := 1151) d240_1136 (by decide)) ?_
    refine yL.ite (fun h12 => ?_) (fun h12 => ?_)
    ·
      refine yL.eq (y_aload_n (pc := 1139) (x := 202) d240_1139 rfl) ?_
      refine yL.eq (y_iconst (pc := 1140) (v := 0) d240_1140 kc_0) ?_
      refine yL.eq (y_lald (pc := 1141) d240_1141 s_21) ?_
      refine yL.eq (y_iload (pc := 1142) (x := v8) d240_1142 rfl) ?_
      refine yL.eq (y_i2l (pc := 1144) d240_1144) ?_
      refine yL.eq (y_lcmp (pc := 1145) d240_1145) ?_
      refine yL.eq (y_lif_eq (pc := 1146) (t := 1151) d240_1146 (by decide)) ?_
      refine yL.ite (fun h13 => ?_) (fun h13 => ?_)
      ·
        refine yL.eq (y_goto (pc := 1151) (t := 2111) d240_1151 (by decide)) ?_
        refine yL.eq (y_iinc (pc := 2111) (v := 4) (x := x4) (ls' := [some (.ref 0), some (.ref 7), some (.ref 190), some (.ref 202), some (.int (x4 + 4)), some (.int v4), some (.int v8)]) d240_2111 kc_4 rfl (Nat.le_of_ble_eq_true rfl) rfl) ?_
        refine yL.eq (y_goto (pc := 2114) (t := 23) d240_2114 (by decide)) ?_
        exact yL.rf
      ·
        refine yL.eq (y_iconst (pc := 1149) (v := 0) d240_1149 kc_0) ?_
        exact yL.eq (y_iretz (pc := 1150) d240_1150 mr_240) (yL.eq yZ_0 yL.rf)
    ·
      refine yL.eq (y_goto (pc := 1151) (t := 2111) d240_1151 (by decide)) ?_
      refine yL.eq (y_iinc (pc := 2111) (v := 4) (x := x4) (ls' := [some (.ref 0), some (.ref 7), some (.ref 190), some (.ref 202), some (.int (x4 + 4)), some (.int v4), some (.int v8)]) d240_2111 kc_4 rfl (Nat.le_of_ble_eq_true rfl) rfl) ?_
      refine yL.eq (y_goto (pc := 2114) (t := 23) d240_2114 (by decide)) ?_
      exact yL.rf
  ·
    refine yL.eq (y_iconst (pc := 1132) (v := 0) d240_1132 kc_0) ?_
    exact yL.eq (y_iretz (pc := 1133) d240_1133 mr_240) (yL.eq yZ_0 yL.rf)
set_option maxRecDepth 20000 in
set_option maxHeartbeats 4000000 in
theorem e240_1154 {x4 : Int32} {o5 : Option Value} {o6 : Option Value} {M : yM} {nc ns : Nat} (hn : nc + 4 ≤ 601024 ∧ ns + 24 ≤ 7293034) : yL (if yinB (x4 + 1) (ylen M) = true then if yinB (x4 + 2) (ylen M) = true then if yinB (x4 + 3) (ylen M) = true then if (M 0 (yx (x4 + 3))) = 0 then yCi false (yX 227 0 [some (.ref 7), some (.int (M 0 (yx (x4 + 1)))), some (.int (M 0 (yx (x4 + 2)))), some (.int 0), some (.ref 202), none] [] M 0 0) fun v6 M5 => if yinB (x4 + 1) (ylen M5) = true then if yinB (x4 + 2) (ylen M5) = true then if yinB (x4 + 3) (ylen M5) = true then if (M5 0 (yx (x4 + 3))) = 0 then yCi false (yX 189 0 [some (.ref 190), some (.int (M5 0 (yx (x4 + 1)))), some (.int (M5 0 (yx (x4 + 2)))), some (.int 0)] [] M5 0 0) fun v12 M11 => yCi false (yX 106 0 [some (.ref 190)] [] M11 0 0) fun v14 M13 => if v14 = v6 then if v6 = 0 then if ((M13 202 0).toInt64) = v12.toInt64 then yX 240 23 [some (.ref 0), some (.ref 7), some (.ref 190), some (.ref 202), some (.int (x4 + 4)), some (.int v6), some (.int v12)] [] M13 (nc + 3) (ns + 18) else yI 0 M13 else yX 240 23 [some (.ref 0), some (.ref 7), some (.ref 190), some (.ref 202), some (.int (x4 + 4)), some (.int v6), some (.int v12)] [] M13 (nc + 3) (ns + 18) else yI 0 M13 else yCi false (yX 189 0 [some (.ref 190), some (.int (M5 0 (yx (x4 + 1)))), some (.int (M5 0 (yx (x4 + 2)))), some (.int 1)] [] M5 0 0) fun v19 M18 => yCi false (yX 106 0 [some (.ref 190)] [] M18 0 0) fun v21 M20 => if v21 = v6 then if v6 = 0 then if ((M20 202 0).toInt64) = v19.toInt64 then yX 240 23 [some (.ref 0), some (.ref 7), some (.ref 190), some (.ref 202), some (.int (x4 + 4)), some (.int v6), some (.int v19)] [] M20 (nc + 3) (ns + 18) else yI 0 M20 else yX 240 23 [some (.ref 0), some (.ref 7), some (.ref 190), some (.ref 202), some (.int (x4 + 4)), some (.int v6), some (.int v19)] [] M20 (nc + 3) (ns + 18) else yI 0 M20 else none else none else none else yCi false (yX 227 0 [some (.ref 7), some (.int (M 0 (yx (x4 + 1)))), some (.int (M 0 (yx (x4 + 2)))), some (.int 1), some (.ref 202), none] [] M 0 0) fun v26 M25 => if yinB (x4 + 1) (ylen M25) = true then if yinB (x4 + 2) (ylen M25) = true then if yinB (x4 + 3) (ylen M25) = true then if (M25 0 (yx (x4 + 3))) = 0 then yCi false (yX 189 0 [some (.ref 190), some (.int (M25 0 (yx (x4 + 1)))), some (.int (M25 0 (yx (x4 + 2)))), some (.int 0)] [] M25 0 0) fun v32 M31 => yCi false (yX 106 0 [some (.ref 190)] [] M31 0 0) fun v34 M33 => if v34 = v26 then if v26 = 0 then if ((M33 202 0).toInt64) = v32.toInt64 then yX 240 23 [some (.ref 0), some (.ref 7), some (.ref 190), some (.ref 202), some (.int (x4 + 4)), some (.int v26), some (.int v32)] [] M33 (nc + 3) (ns + 18) else yI 0 M33 else yX 240 23 [some (.ref 0), some (.ref 7), some (.ref 190), some (.ref 202), some (.int (x4 + 4)), some (.int v26), some (.int v32)] [] M33 (nc + 3) (ns + 18) else yI 0 M33 else yCi false (yX 189 0 [some (.ref 190), some (.int (M25 0 (yx (x4 + 1)))), some (.int (M25 0 (yx (x4 + 2)))), some (.int 1)] [] M25 0 0) fun v39 M38 => yCi false (yX 106 0 [some (.ref 190)] [] M38 0 0) fun v41 M40 => if v41 = v26 then if v26 = 0 then if ((M40 202 0).toInt64) = v39.toInt64 then yX 240 23 [some (.ref 0), some (.ref 7), some (.ref 190), some (.ref 202), some (.int (x4 + 4)), some (.int v26), some (.int v39)] [] M40 (nc + 3) (ns + 18) else yI 0 M40 else yX 240 23 [some (.ref 0), some (.ref 7), some (.ref 190), some (.ref 202), some (.int (x4 + 4)), some (.int v26), some (.int v39)] [] M40 (nc + 3) (ns + 18) else yI 0 M40 else none else none else none else none else none else none) (yX 240 1154 [some (.ref 0), some (.ref 7), some (.ref 190), some (.ref 202), some (.int x4), o5, o6] [] M nc ns) := by
  refine yL.eq (y_aload_n (pc := 1154) (x := 7) d240_1154 rfl) ?_
  refine yL.eq (y_aload_n (pc := 1155) (x := 0) d240_1155 rfl) ?_
  refine yL.eq (y_iload (pc := 1156) (x := x4) d240_1156 rfl) ?_
  refine yL.eq (y_iconst (pc := 1158) (v := 1) d240_1158 kc_1) ?_
  refine yL.eq (y_iadd (pc := 1159) d240_1159) ?_
  refine yL.eq (y_iald0 (pc := 1160) d240_1160) ?_
  refine yL.gd (fun h1 => ?_)
  refine yL.eq (y_aload_n (pc := 1161) (x := 0) d240_1161 rfl) ?_
  refine yL.eq (y_iload (pc := 1162) (x := x4) d240_1162 rfl) ?_
  refine yL.eq (y_iconst (pc := 1164) (v := 2) d240_1164 kc_2) ?_
  refine yL.eq (y_iadd (pc := 1165) d240_1165) ?_
  refine yL.eq (y_iald0 (pc := 1166) d240_1166) ?_
  refine yL.gd (fun h2 => ?_)
  refine yL.eq (y_aload_n (pc := 1167) (x := 0) d240_1167 rfl) ?_
  refine yL.eq (y_iload (pc := 1168) (x := x4) d240_1168 rfl) ?_
  refine yL.eq (y_iconst (pc := 1170) (v := 3) d240_1170 kc_3) ?_
  refine yL.eq (y_iadd (pc := 1171) d240_1171) ?_
  refine yL.eq (y_iald0 (pc := 1172) d240_1172) ?_
  refine yL.gd (fun h3 => ?_)
  refine yL.eq (y_if_eq (pc := 1173) (t := 1180) d240_1173 (by decide)) ?_
  refine yL.ite (fun h4 => ?_) (fun h4 => ?_)
  ·
    refine yL.eq (y_iconst (pc := 1180) (v := 0) d240_1180 kc_0) ?_
    refine yL.eq (y_aload_n (pc := 1181) (x := 202) d240_1181 rfl) ?_
    refine y_calls_i (pc := 1182) (n := 5) (n' := 6) (nc' := nc + 3) (ns' := ns + 18) [.ref 7, .int (M 0 (yx (x4 + 1))), .int (M 0 (yx (x4 + 2))), .int 0, .ref 202] [] false d240_1182 q240_171 rfl rfl rfl (Nat.le_of_ble_eq_true rfl) (Nat.le_of_ble_eq_true rfl) rfl (by decide +kernel) (y_rmc (c := 3) (s := 18) mcs_227 hn (by decide)) (fun v6 M5 => ?_)
    refine yL.eq (y_istore (pc := 1185) (ls' := [some (.ref 0), some (.ref 7), some (.ref 190), some (.ref 202), some (.int x4), some (.int v6), o6]) d240_1185 rfl rfl) ?_
    refine yL.eq (y_aload_n (pc := 1187) (x := 190) d240_1187 rfl) ?_
    refine yL.eq (y_aload_n (pc := 1188) (x := 0) d240_1188 rfl) ?_
    refine yL.eq (y_iload (pc := 1189) (x := x4) d240_1189 rfl) ?_
    refine yL.eq (y_iconst (pc := 1191) (v := 1) d240_1191 kc_1) ?_
    refine yL.eq (y_iadd (pc := 1192) d240_1192) ?_
    refine yL.eq (y_iald0 (pc := 1193) d240_1193) ?_
    refine yL.gd (fun h7 => ?_)
    refine yL.eq (y_aload_n (pc := 1194) (x := 0) d240_1194 rfl) ?_
    refine yL.eq (y_iload (pc := 1195) (x := x4) d240_1195 rfl) ?_
    refine yL.eq (y_iconst (pc := 1197) (v := 2) d240_1197 kc_2) ?_
    refine yL.eq (y_iadd (pc := 1198) d240_1198) ?_
    refine yL.eq (y_iald0 (pc := 1199) d240_1199) ?_
    refine yL.gd (fun h8 => ?_)
    refine yL.eq (y_aload_n (pc := 1200) (x := 0) d240_1200 rfl) ?_
    refine yL.eq (y_iload (pc := 1201) (x := x4) d240_1201 rfl) ?_
    refine yL.eq (y_iconst (pc := 1203) (v := 3) d240_1203 kc_3) ?_
    refine yL.eq (y_iadd (pc := 1204) d240_1204) ?_
    refine yL.eq (y_iald0 (pc := 1205) d240_1205) ?_
    refine yL.gd (fun h9 => ?_)
    refine yL.eq (y_if_eq (pc := 1206) (t := 1213) d240_1206 (by decide)) ?_
    refine yL.ite (fun h10 => ?_) (fun h10 => ?_)
    ·
      refine yL.eq (y_iconst (pc := 1213) (v := 0) d240_1213 kc_0) ?_
      refine y_callv_i (pc := 1214) (n := 4) (n' := 4) (nc' := nc + 3) (ns' := ns + 18) [.int (M5 0 (yx (x4 + 1))), .int (M5 0 (yx (x4 + 2))), .int 0] [] false d240_1214 q240_173 mk_189 s_t_190 rfl rfl (Nat.le_of_ble_eq_true rfl) (Nat.le_of_ble_eq_true rfl) rfl (by decide +kernel) (y_rmd (c := 3) (s := 18) mcs_189 hn (by decide)) (fun v12 M11 => ?_)
      refine yL.eq (y_istore (pc := 1217) (ls' := [some (.ref 0), some (.ref 7), some (.ref 190), some (.ref 202), some (.int x4), some (.int v6), some (.int v12)]) d240_1217 rfl rfl) ?_
      refine yL.eq (y_aload_n (pc := 1219) (x := 190) d240_1219 rfl) ?_
      refine y_callv_i (pc := 1220) (n := 1) (n' := 1) (nc' := nc + 3) (ns' := ns + 18) [] [] false d240_1220 q240_115 mk_106 s_t_190 rfl rfl (Nat.le_of_ble_eq_true rfl) (Nat.le_of_ble_eq_true rfl) rfl (by decide +kernel) (y_rmd (c := 3) (s := 18) mcs_106 hn (by decide)) (fun v14 M13 => ?_)
      refine yL.eq (y_iload (pc := 1223) (x := v6) d240_1223 rfl) ?_
      refine yL.eq (y_icmp_eq (pc := 1225) (t := 1230) d240_1225 (by decide)) ?_
      refine yL.ite (fun h15 => ?_) (fun h15 => ?_)
      ·
        refine yL.eq (y_iload (pc := 1230) (x := v6) d240_1230 rfl) ?_
        refine yL.eq (y_if_ne (pc := 1232) (t := 1247) d240_1232 (by decide)) ?_
        refine yL.ite (fun h16 => ?_) (fun h16 => ?_)
        ·
          refine yL.eq (y_aload_n (pc := 1235) (x := 202) d240_1235 rfl) ?_
          refine yL.eq (y_iconst (pc := 1236) (v := 0) d240_1236 kc_0) ?_
          refine yL.eq (y_lald (pc := 1237) d240_1237 s_21) ?_
          refine yL.eq (y_iload (pc := 1238) (x := v12) d240_1238 rfl) ?_
          refine yL.eq (y_i2l (pc := 1240) d240_1240) ?_
          refine yL.eq (y_lcmp (pc := 1241) d240_1241) ?_
          refine yL.eq (y_lif_eq (pc := 1242) (t := 1247) d240_1242 (by decide)) ?_
          refine yL.ite (fun h17 => ?_) (fun h17 => ?_)
          ·
            refine yL.eq (y_goto (pc := 1247) (t := 2111) d240_1247 (by decide)) ?_
            refine yL.eq (y_iinc (pc := 2111) (v := 4) (x := x4) (ls' := [some (.ref 0), some (.ref 7), some (.ref 190), some (.ref 202), some (.int (x4 + 4)), some (.int v6), some (.int v12)]) d240_2111 kc_4 rfl (Nat.le_of_ble_eq_true rfl) rfl) ?_
            refine yL.eq (y_goto (pc := 2114) (t := 23) d240_2114 (by decide)) ?_
            exact yL.rf
          ·
            refine yL.eq (y_iconst (pc := 1245) (v := 0) d240_1245 kc_0) ?_
            exact yL.eq (y_iretz (pc := 1246) d240_1246 mr_240) (yL.eq yZ_0 yL.rf)
        ·
          refine yL.eq (y_goto (pc := 1247) (t := 2111) d240_1247 (by decide)) ?_
          refine yL.eq (y_iinc (pc := 2111) (v := 4) (x := x4) (ls' := [some (.ref 0), some (.ref 7), some (.ref 190), some (.ref 202), some (.int (x4 + 4)), some (.int v6), some (.int v12)]) d240_2111 kc_4 rfl (Nat.le_of_ble_eq_true rfl) rfl) ?_
          refine yL.eq (y_goto (pc := 2114) (t := 23) d240_2114 (by decide)) ?_
          exact yL.rf
      ·
        refine yL.eq (y_iconst (pc := 1228) (v := 0) d240_1228 kc_0) ?_
        exact yL.eq (y_iretz (pc := 1229) d240_1229 mr_240) (yL.eq yZ_0 yL.rf)
    ·
      refine yL.eq (y_iconst (pc := 1209) (v := 1) d240_1209 kc_1) ?_
      refine yL.eq (y_goto (pc := 1210) (t := 1214) d240_1210 (by decide)) ?_
      refine y_callv_i (pc := 1214) (n := 4) (n' := 4) (nc' := nc + 3) (ns' := ns + 18) [.int (M5 0 (yx (x4 + 1))), .int (M5 0 (yx (x4 + 2))), .int 1] [] false d240_1214 q240_173 mk_189 s_t_190 rfl rfl (Nat.le_of_ble_eq_true rfl) (Nat.le_of_ble_eq_true rfl) rfl (by decide +kernel) (y_rmd (c := 3) (s := 18) mcs_189 hn (by decide)) (fun v19 M18 => ?_)
      refine yL.eq (y_istore (pc := 1217) (ls' := [some (.ref 0), some (.ref 7), some (.ref 190), some (.ref 202), some (.int x4), some (.int v6), some (.int v19)]) d240_1217 rfl rfl) ?_
      refine yL.eq (y_aload_n (pc := 1219) (x := 190) d240_1219 rfl) ?_
      refine y_callv_i (pc := 1220) (n := 1) (n' := 1) (nc' := nc + 3) (ns' := ns + 18) [] [] false d240_1220 q240_115 mk_106 s_t_190 rfl rfl (Nat.le_of_ble_eq_true rfl) (Nat.le_of_ble_eq_true rfl) rfl (by decide +kernel) (y_rmd (c := 3) (s := 18) mcs_106 hn (by decide)) (fun v21 M20 => ?_)
      refine yL.eq (y_iload (pc := 1223) (x := v6) d240_1223 rfl) ?_
      refine yL.eq (y_icmp_eq (pc := 1225) (t := 1230) d240_1225 (by decide)) ?_
      refine yL.ite (fun h22 => ?_) (fun h22 => ?_)
      ·
        refine yL.eq (y_iload (pc := 1230) (x := v6) d240_1230 rfl) ?_
        refine yL.eq (y_if_ne (pc := 1232) (t := 1247) d240_1232 (by decide)) ?_
        refine yL.ite (fun h23 => ?_) (fun h23 => ?_)
        ·
          refine yL.eq (y_aload_n (pc := 1235) (x := 202) d240_1235 rfl) ?_
          refine yL.eq (y_iconst (pc := 1236) (v := 0) d240_1236 kc_0) ?_
          refine yL.eq (y_lald (pc := 1237) d240_1237 s_21) ?_
          refine yL.eq (y_iload (pc := 1238) (x := v19) d240_1238 rfl) ?_
          refine yL.eq (y_i2l (pc := 1240) d240_1240) ?_
          refine yL.eq (y_lcmp (pc := 1241) d240_1241) ?_
          refine yL.eq (y_lif_eq (pc := 1242) (t := 1247) d240_1242 (by decide)) ?_
          refine yL.ite (fun h24 => ?_) (fun h24 => ?_)
          ·
            refine yL.eq (y_goto (pc := 1247) (t := 2111) d240_1247 (by decide)) ?_
            refine yL.eq (y_iinc (pc := 2111) (v := 4) (x := x4) (ls' := [some (.ref 0), some (.ref 7), some (.ref 190), some (.ref 202), some (.int (x4 + 4)), some (.int v6), some (.int v19)]) d240_2111 kc_4 rfl (Nat.le_of_ble_eq_true rfl) rfl) ?_
            refine yL.eq (y_goto (pc := 2114) (t := 23) d240_2114 (by decide)) ?_
            exact yL.rf
          ·
            refine yL.eq (y_iconst (pc := 1245) (v := 0) d240_1245 kc_0) ?_
            exact yL.eq (y_iretz (pc := 1246) d240_1246 mr_240) (yL.eq yZ_0 yL.rf)
        ·
          refine yL.eq (y_goto (pc := 1247) (t := 2111) d240_1247 (by decide)) ?_
          refine yL.eq (y_iinc (pc := 2111) (v := 4) (x := x4) (ls' := [some (.ref 0), some (.ref 7), some (.ref 190), some (.ref 202), some (.int (x4 + 4)), some (.int v6), some (.int v19)]) d240_2111 kc_4 rfl (Nat.le_of_ble_eq_true rfl) rfl) ?_
          refine yL.eq (y_goto (pc := 2114) (t := 23) d240_2114 (by decide)) ?_
          exact yL.rf
      ·
        refine yL.eq (y_iconst (pc := 1228) (v := 0) d240_1228 kc_0) ?_
        exact yL.eq (y_iretz (pc := 1229) d240_1229 mr_240) (yL.eq yZ_0 yL.rf)
  ·
    refine yL.eq (y_iconst (pc := 1176) (v := 1) d240_1176 kc_1) ?_
    refine yL.eq (y_goto (pc := 1177) (t := 1181) d240_1177 (by decide)) ?_
    refine yL.eq (y_aload_n (pc := 1181) (x := 202) d240_1181 rfl) ?_
    refine y_calls_i (pc := 1182) (n := 5) (n' := 6) (nc' := nc + 3) (ns' := ns + 18) [.ref 7, .int (M 0 (yx (x4 + 1))), .int (M 0 (yx (x4 + 2))), .int 1, .ref 202] [] false d240_1182 q240_171 rfl rfl rfl (Nat.le_of_ble_eq_true rfl) (Nat.le_of_ble_eq_true rfl) rfl (by decide +kernel) (y_rmc (c := 3) (s := 18) mcs_227 hn (by decide)) (fun v26 M25 => ?_)
    refine yL.eq (y_istore (pc := 1185) (ls' := [some (.ref 0), some (.ref 7), some (.ref 190), some (.ref 202), some (.int x4), some (.int v26), o6]) d240_1185 rfl rfl) ?_
    refine yL.eq (y_aload_n (pc := 1187) (x := 190) d240_1187 rfl) ?_
    refine yL.eq (y_aload_n (pc := 1188) (x := 0) d240_1188 rfl) ?_
    refine yL.eq (y_iload (pc := 1189) (x := x4) d240_1189 rfl) ?_
    refine yL.eq (y_iconst (pc := 1191) (v := 1) d240_1191 kc_1) ?_
    refine yL.eq (y_iadd (pc := 1192) d240_1192) ?_
    refine yL.eq (y_iald0 (pc := 1193) d240_1193) ?_
    refine yL.gd (fun h27 => ?_)
    refine yL.eq (y_aload_n (pc := 1194) (x := 0) d240_1194 rfl) ?_
    refine yL.eq (y_iload (pc := 1195) (x := x4) d240_1195 rfl) ?_
    refine yL.eq (y_iconst (pc := 1197) (v := 2) d240_1197 kc_2) ?_
    refine yL.eq (y_iadd (pc := 1198) d240_1198) ?_
    refine yL.eq (y_iald0 (pc := 1199) d240_1199) ?_
    refine yL.gd (fun h28 => ?_)
    refine yL.eq (y_aload_n (pc := 1200) (x := 0) d240_1200 rfl) ?_
    refine yL.eq (y_iload (pc := 1201) (x := x4) d240_1201 rfl) ?_
    refine yL.eq (y_iconst (pc := 1203) (v := 3) d240_1203 kc_3) ?_
    refine yL.eq (y_iadd (pc := 1204) d240_1204) ?_
    refine yL.eq (y_iald0 (pc := 1205) d240_1205) ?_
    refine yL.gd (fun h29 => ?_)
    refine yL.eq (y_if_eq (pc := 1206) (t := 1213) d240_1206 (by decide)) ?_
    refine yL.ite (fun h30 => ?_) (fun h30 => ?_)
    ·
      refine yL.eq (y_iconst (pc := 1213) (v := 0) d240_1213 kc_0) ?_
      refine y_callv_i (pc := 1214) (n := 4) (n' := 4) (nc' := nc + 3) (ns' := ns + 18) [.int (M25 0 (yx (x4 + 1))), .int (M25 0 (yx (x4 + 2))), .int 0] [] false d240_1214 q240_173 mk_189 s_t_190 rfl rfl (Nat.le_of_ble_eq_true rfl) (Nat.le_of_ble_eq_true rfl) rfl (by decide +kernel) (y_rmd (c := 3) (s := 18) mcs_189 hn (by decide)) (fun v32 M31 => ?_)
      refine yL.eq (y_istore (pc := 1217) (ls' := [some (.ref 0), some (.ref 7), some (.ref 190), some (.ref 202), some (.int x4), some (.int v26), some (.int v32)]) d240_1217 rfl rfl) ?_
      refine yL.eq (y_aload_n (pc := 1219) (x := 190) d240_1219 rfl) ?_
      refine y_callv_i (pc := 1220) (n := 1) (n' := 1) (nc' := nc + 3) (ns' := ns + 18) [] [] false d240_1220 q240_115 mk_106 s_t_190 rfl rfl (Nat.le_of_ble_eq_true rfl) (Nat.le_of_ble_eq_true rfl) rfl (by decide +kernel) (y_rmd (c := 3) (s := 18) mcs_106 hn (by decide)) (fun v34 M33 => ?_)
      refine yL.eq (y_iload (pc := 1223) (x := v26) d240_1223 rfl) ?_
      refine yL.eq (y_icmp_eq (pc := 1225) (t := 1230) d240_1225 (by decide)) ?_
      refine yL.ite (fun h35 => ?_) (fun h35 => ?_)
      ·
        refine yL.eq (y_iload (pc := 1230) (x := v26) d240_1230 rfl) ?_
        refine yL.eq (y_if_ne (pc := 1232) (t := 1247) d240_1232 (by decide)) ?_
        refine yL.ite (fun h36 => ?_) (fun h36 => ?_)
        ·
          refine yL.eq (y_aload_n (pc := 1235) (x := 202) d240_1235 rfl) ?_
          refine yL.eq (y_iconst (pc := 1236) (v := 0) d240_1236 kc_0) ?_
          refine yL.eq (y_lald (pc := 1237) d240_1237 s_21) ?_
          refine yL.eq (y_iload (pc := 1238) (x := v32) d240_1238 rfl) ?_
          refine yL.eq (y_i2l (pc := 1240) d240_1240) ?_
          refine yL.eq (y_lcmp (pc := 1241) d240_1241) ?_
          refine yL.eq (y_lif_eq (pc := 1242) (t := 1247) d240_1242 (by decide)) ?_
          refine yL.ite (fun h37 => ?_) (fun h37 => ?_)
          ·
            refine yL.eq (y_goto (pc := 1247) (t := 2111) d240_1247 (by decide)) ?_
            refine yL.eq (y_iinc (pc := 2111) (v := 4) (x := x4) (ls' := [some (.ref 0), some (.ref 7), some (.ref 190), some (.ref 202), some (.int (x4 + 4)), some (.int v26), some (.int v32)]) d240_2111 kc_4 rfl (Nat.le_of_ble_eq_true rfl) rfl) ?_
            refine yL.eq (y_goto (pc := 2114) (t := 23) d240_2114 (by decide)) ?_
            exact yL.rf
          ·
            refine yL.eq (y_iconst (pc := 1245) (v := 0) d240_1245 kc_0) ?_
            exact yL.eq (y_iretz (pc := 1246) d240_1246 mr_240) (yL.eq yZ_0 yL.rf)
        ·
          refine yL.eq (y_goto (pc := 1247) (t := 2111) d240_1247 (by decide)) ?_
          refine yL.eq (y_iinc (pc := 2111) (v := 4) (x := x4) (ls' := [some (.ref 0), some (.ref 7), some (.ref 190), some (.ref 202), some (.int (x4 + 4)), some (.int v26), some (.int v32)]) d240_2111 kc_4 rfl (Nat.le_of_ble_eq_true rfl) rfl) ?_
          refine yL.eq (y_goto (pc := 2114) (t := 23) d240_2114 (by decide)) ?_
          exact yL.rf
      ·
        refine yL.eq (y_iconst (pc := 1228) (v := 0) d240_1228 kc_0) ?_
        exact yL.eq (y_iretz (pc := 1229) d240_1229 mr_240) (yL.eq yZ_0 yL.rf)
    ·
      refine yL.eq (y_iconst (pc := 1209) (v := 1) d240_1209 kc_1) ?_
      refine yL.eq (y_goto (pc := 1210) (t := 1214) d240_1210 (by decide)) ?_
      refine y_callv_i (pc := 1214) (n := 4) (n' := 4) (nc' := nc + 3) (ns' := ns + 18) [.int (M25 0 (yx (x4 + 1))), .int (M25 0 (yx (x4 + 2))), .int 1] [] false d240_1214 q240_173 mk_189 s_t_190 rfl rfl (Nat.le_of_ble_eq_true rfl) (Nat.le_of_ble_eq_true rfl) rfl (by decide +kernel) (y_rmd (c := 3) (s := 18) mcs_189 hn (by decide)) (fun v39 M38 => ?_)
      refine yL.eq (y_istore (pc := 1217) (ls' := [some (.ref 0), some (.ref 7), some (.ref 190), some (.ref 202), some (.int x4), some (.int v26), some (.int v39)]) d240_1217 rfl rfl) ?_
      refine yL.eq (y_aload_n (pc := 1219) (x := 190) d240_1219 rfl) ?_
      refine y_callv_i (pc := 1220) (n := 1) (n' := 1) (nc' := nc + 3) (ns' := ns + 18) [] [] false d240_1220 q240_115 mk_106 s_t_190 rfl rfl (Nat.le_of_ble_eq_true rfl) (Nat.le_of_ble_eq_true rfl) rfl (by decide +kernel) (y_rmd (c := 3) (s := 18) mcs_106 hn (by decide)) (fun v41 M40 => ?_)
      refine yL.eq (y_iload (pc := 1223) (x := v26) d240_1223 rfl) ?_
      refine yL.eq (y_icmp_eq (pc := 1225) (t := 1230) d240_1225 (by decide)) ?_
      refine yL.ite (fun h42 => ?_) (fun h42 => ?_)
      ·
        refine yL.eq (y_iload (pc := 1230) (x := v26) d240_1230 rfl) ?_
        refine yL.eq (y_if_ne (pc := 1232) (t := 1247) d240_1232 (by decide)) ?_
        refine yL.ite (fun h43 => ?_) (fun h43 => ?_)
        ·
          refine yL.eq (y_aload_n (pc := 1235) (x := 202) d240_1235 rfl) ?_
          refine yL.eq (y_iconst (pc := 1236) (v := 0) d240_1236 kc_0) ?_
          refine yL.eq (y_lald (pc := 1237) d240_1237 s_21) ?_
          refine yL.eq (y_iload (pc := 1238) (x := v39) d240_1238 rfl) ?_
          refine yL.eq (y_i2l (pc := 1240) d240_1240) ?_
          refine yL.eq (y_lcmp (pc := 1241) d240_1241) ?_
          refine yL.eq (y_lif_eq (pc := 1242) (t := 1247) d240_1242 (by decide)) ?_
          refine yL.ite (fun h44 => ?_) (fun h44 => ?_)
          ·
            refine yL.eq (y_goto (pc := 1247) (t := 2111) d240_1247 (by decide)) ?_
            refine yL.eq (y_iinc (pc := 2111) (v := 4) (x := x4) (ls' := [some (.ref 0), some (.ref 7), some (.ref 190), some (.ref 202), some (.int (x4 + 4)), some (.int v26), some (.int v39)]) d240_2111 kc_4 rfl (Nat.le_of_ble_eq_true rfl) rfl) ?_
            refine yL.eq (y_goto (pc := 2114) (t := 23) d240_2114 (by decide)) ?_
            exact yL.rf
          ·
            refine yL.eq (y_iconst (pc := 1245) (v := 0) d240_1245 kc_0) ?_
            exact yL.eq (y_iretz (pc := 1246) d240_1246 mr_240) (yL.eq yZ_0 yL.rf)
        ·
          refine yL.eq (y_goto (pc := 1247) (t := 2111) d240_1247 (by decide)) ?_
          refine yL.eq (y_iinc (pc := 2111) (v := 4) (x := x4) (ls' := [some (.ref 0), some (.ref 7), some (.ref 190), some (.ref 202), some (.int (x4 + 4)), some (.int v26), some (.int v39)]) d240_2111 kc_4 rfl (Nat.le_of_ble_eq_true rfl) rfl) ?_
          refine yL.eq (y_goto (pc := 2114) (t := 23) d240_2114 (by decide)) ?_
          exact yL.rf
      ·
        refine yL.eq (y_iconst (pc := 1228) (v := 0) d240_1228 kc_0) ?_
        exact yL.eq (y_iretz (pc := 1229) d240_1229 mr_240) (yL.eq yZ_0 yL.rf)
set_option maxRecDepth 20000 in
set_option maxHeartbeats 4000000 in
theorem e240_1250 {x4 : Int32} {o5 : Option Value} {o6 : Option Value} {M : yM} {nc ns : Nat} (hn : nc + 4 ≤ 601024 ∧ ns + 24 ≤ 7293034) : yL (if yinB (x4 + 1) (ylen M) = true then if yinB (x4 + 2) (ylen M) = true then if yinB (x4 + 3) (ylen M) = true then if (M 0 (yx (x4 + 3))) = 0 then yCi false (yX 228 0 [some (.ref 7), some (.int (M 0 (yx (x4 + 1)))), some (.int (M 0 (yx (x4 + 2)))), some (.int 0), some (.ref 202), none] [] M 0 0) fun v6 M5 => if yinB (x4 + 1) (ylen M5) = true then if yinB (x4 + 2) (ylen M5) = true then if yinB (x4 + 3) (ylen M5) = true then if (M5 0 (yx (x4 + 3))) = 0 then yCi false (yX 190 0 [some (.ref 190), some (.int (M5 0 (yx (x4 + 1)))), some (.int (M5 0 (yx (x4 + 2)))), some (.int 0), none] [] M5 0 0) fun v12 M11 => yCi false (yX 106 0 [some (.ref 190)] [] M11 0 0) fun v14 M13 => if v14 = v6 then if v6 = 0 then if ((M13 202 0).toInt64) = v12.toInt64 then yX 240 23 [some (.ref 0), some (.ref 7), some (.ref 190), some (.ref 202), some (.int (x4 + 4)), some (.int v6), some (.int v12)] [] M13 (nc + 3) (ns + 18) else yI 0 M13 else yX 240 23 [some (.ref 0), some (.ref 7), some (.ref 190), some (.ref 202), some (.int (x4 + 4)), some (.int v6), some (.int v12)] [] M13 (nc + 3) (ns + 18) else yI 0 M13 else yCi false (yX 190 0 [some (.ref 190), some (.int (M5 0 (yx (x4 + 1)))), some (.int (M5 0 (yx (x4 + 2)))), some (.int 1), none] [] M5 0 0) fun v19 M18 => yCi false (yX 106 0 [some (.ref 190)] [] M18 0 0) fun v21 M20 => if v21 = v6 then if v6 = 0 then if ((M20 202 0).toInt64) = v19.toInt64 then yX 240 23 [some (.ref 0), some (.ref 7), some (.ref 190), some (.ref 202), some (.int (x4 + 4)), some (.int v6), some (.int v19)] [] M20 (nc + 3) (ns + 18) else yI 0 M20 else yX 240 23 [some (.ref 0), some (.ref 7), some (.ref 190), some (.ref 202), some (.int (x4 + 4)), some (.int v6), some (.int v19)] [] M20 (nc + 3) (ns + 18) else yI 0 M20 else none else none else none else yCi false (yX 228 0 [some (.ref 7), some (.int (M 0 (yx (x4 + 1)))), some (.int (M 0 (yx (x4 + 2)))), some (.int 1), some (.ref 202), none] [] M 0 0) fun v26 M25 => if yinB (x4 + 1) (ylen M25) = true then if yinB (x4 + 2) (ylen M25) = true then if yinB (x4 + 3) (ylen M25) = true then if (M25 0 (yx (x4 + 3))) = 0 then yCi false (yX 190 0 [some (.ref 190), some (.int (M25 0 (yx (x4 + 1)))), some (.int (M25 0 (yx (x4 + 2)))), some (.int 0), none] [] M25 0 0) fun v32 M31 => yCi false (yX 106 0 [some (.ref 190)] [] M31 0 0) fun v34 M33 => if v34 = v26 then if v26 = 0 then if ((M33 202 0).toInt64) = v32.toInt64 then yX 240 23 [some (.ref 0), some (.ref 7), some (.ref 190), some (.ref 202), some (.int (x4 + 4)), some (.int v26), some (.int v32)] [] M33 (nc + 3) (ns + 18) else yI 0 M33 else yX 240 23 [some (.ref 0), some (.ref 7), some (.ref 190), some (.ref 202), some (.int (x4 + 4)), some (.int v26), some (.int v32)] [] M33 (nc + 3) (ns + 18) else yI 0 M33 else yCi false (yX 190 0 [some (.ref 190), some (.int (M25 0 (yx (x4 + 1)))), some (.int (M25 0 (yx (x4 + 2)))), some (.int 1), none] [] M25 0 0) fun v39 M38 => yCi false (yX 106 0 [some (.ref 190)] [] M38 0 0) fun v41 M40 => if v41 = v26 then if v26 = 0 then if ((M40 202 0).toInt64) = v39.toInt64 then yX 240 23 [some (.ref 0), some (.ref 7), some (.ref 190), some (.ref 202), some (.int (x4 + 4)), some (.int v26), some (.int v39)] [] M40 (nc + 3) (ns + 18) else yI 0 M40 else yX 240 23 [some (.ref 0), some (.ref 7), some (.ref 190), some (.ref 202), some (.int (x4 + 4)), some (.int v26), some (.int v39)] [] M40 (nc + 3) (ns + 18) else yI 0 M40 else none else none else none else none else none else none) (yX 240 1250 [some (.ref 0), some (.ref 7), some (.ref 190), some (.ref 202), some (.int x4), o5, o6] [] M nc ns) := by
  refine yL.eq (y_aload_n (pc := 1250) (x := 7) d240_1250 rfl) ?_
  refine yL.eq (y_aload_n (pc := 1251) (x := 0) d240_1251 rfl) ?_
  refine yL.eq (y_iload (pc := 1252) (x := x4) d240_1252 rfl) ?_
  refine yL.eq (y_iconst (pc := 1254) (v := 1) d240_1254 kc_1) ?_
  refine yL.eq (y_iadd (pc := 1255) d240_1255) ?_
  refine yL.eq (y_iald0 (pc := 1256) d240_1256) ?_
  refine yL.gd (fun h1 => ?_)
  refine yL.eq (y_aload_n (pc := 1257) (x := 0) d240_1257 rfl) ?_
  refine yL.eq (y_iload (pc := 1258) (x := x4) d240_1258 rfl) ?_
  refine yL.eq (y_iconst (pc := 1260) (v := 2) d240_1260 kc_2) ?_
  refine yL.eq (y_iadd (pc := 1261) d240_1261) ?_
  refine yL.eq (y_iald0 (pc := 1262) d240_1262) ?_
  refine yL.gd (fun h2 => ?_)
  refine yL.eq (y_aload_n (pc := 1263) (x := 0) d240_1263 rfl) ?_
  refine yL.eq (y_iload (pc := 1264) (x := x4) d240_1264 rfl) ?_
  refine yL.eq (y_iconst (pc := 1266) (v := 3) d240_1266 kc_3) ?_
  refine yL.eq (y_iadd (pc := 1267) d240_1267) ?_
  refine yL.eq (y_iald0 (pc := 1268) d240_1268) ?_
  refine yL.gd (fun h3 => ?_)
  refine yL.eq (y_if_eq (pc := 1269) (t := 1276) d240_1269 (by decide)) ?_
  refine yL.ite (fun h4 => ?_) (fun h4 => ?_)
  ·
    refine yL.eq (y_iconst (pc := 1276) (v := 0) d240_1276 kc_0) ?_
    refine yL.eq (y_aload_n (pc := 1277) (x := 202) d240_1277 rfl) ?_
    refine y_calls_i (pc := 1278) (n := 5) (n' := 6) (nc' := nc + 3) (ns' := ns + 18) [.ref 7, .int (M 0 (yx (x4 + 1))), .int (M 0 (yx (x4 + 2))), .int 0, .ref 202] [] false d240_1278 q240_174 rfl rfl rfl (Nat.le_of_ble_eq_true rfl) (Nat.le_of_ble_eq_true rfl) rfl (by decide +kernel) (y_rmc (c := 3) (s := 18) mcs_228 hn (by decide)) (fun v6 M5 => ?_)
    refine yL.eq (y_istore (pc := 1281) (ls' := [some (.ref 0), some (.ref 7), some (.ref 190), some (.ref 202), some (.int x4), some (.int v6), o6]) d240_1281 rfl rfl) ?_
    refine yL.eq (y_aload_n (pc := 1283) (x := 190) d240_1283 rfl) ?_
    refine yL.eq (y_aload_n (pc := 1284) (x := 0) d240_1284 rfl) ?_
    refine yL.eq (y_iload (pc := 1285) (x := x4) d240_1285 rfl) ?_
    refine yL.eq (y_iconst (pc := 1287) (v := 1) d240_1287 kc_1) ?_
    refine yL.eq (y_iadd (pc := 1288) d240_1288) ?_
    refine yL.eq (y_iald0 (pc := 1289) d240_1289) ?_
    refine yL.gd (fun h7 => ?_)
    refine yL.eq (y_aload_n (pc := 1290) (x := 0) d240_1290 rfl) ?_
    refine yL.eq (y_iload (pc := 1291) (x := x4) d240_1291 rfl) ?_
    refine yL.eq (y_iconst (pc := 1293) (v := 2) d240_1293 kc_2) ?_
    refine yL.eq (y_iadd (pc := 1294) d240_1294) ?_
    refine yL.eq (y_iald0 (pc := 1295) d240_1295) ?_
    refine yL.gd (fun h8 => ?_)
    refine yL.eq (y_aload_n (pc := 1296) (x := 0) d240_1296 rfl) ?_
    refine yL.eq (y_iload (pc := 1297) (x := x4) d240_1297 rfl) ?_
    refine yL.eq (y_iconst (pc := 1299) (v := 3) d240_1299 kc_3) ?_
    refine yL.eq (y_iadd (pc := 1300) d240_1300) ?_
    refine yL.eq (y_iald0 (pc := 1301) d240_1301) ?_
    refine yL.gd (fun h9 => ?_)
    refine yL.eq (y_if_eq (pc := 1302) (t := 1309) d240_1302 (by decide)) ?_
    refine yL.ite (fun h10 => ?_) (fun h10 => ?_)
    ·
      refine yL.eq (y_iconst (pc := 1309) (v := 0) d240_1309 kc_0) ?_
      refine y_callv_i (pc := 1310) (n := 4) (n' := 5) (nc' := nc + 3) (ns' := ns + 18) [.int (M5 0 (yx (x4 + 1))), .int (M5 0 (yx (x4 + 2))), .int 0] [] false d240_1310 q240_176 mk_190 s_t_190 rfl rfl (Nat.le_of_ble_eq_true rfl) (Nat.le_of_ble_eq_true rfl) rfl (by decide +kernel) (y_rmd (c := 3) (s := 18) mcs_190 hn (by decide)) (fun v12 M11 => ?_)
      refine yL.eq (y_istore (pc := 1313) (ls' := [some (.ref 0), some (.ref 7), some (.ref 190), some (.ref 202), some (.int x4), some (.int v6), some (.int v12)]) d240_1313 rfl rfl) ?_
      refine yL.eq (y_aload_n (pc := 1315) (x := 190) d240_1315 rfl) ?_
      refine y_callv_i (pc := 1316) (n := 1) (n' := 1) (nc' := nc + 3) (ns' := ns + 18) [] [] false d240_1316 q240_115 mk_106 s_t_190 rfl rfl (Nat.le_of_ble_eq_true rfl) (Nat.le_of_ble_eq_true rfl) rfl (by decide +kernel) (y_rmd (c := 3) (s := 18) mcs_106 hn (by decide)) (fun v14 M13 => ?_)
      refine yL.eq (y_iload (pc := 1319) (x := v6) d240_1319 rfl) ?_
      refine yL.eq (y_icmp_eq (pc := 1321) (t := 1326) d240_1321 (by decide)) ?_
      refine yL.ite (fun h15 => ?_) (fun h15 => ?_)
      ·
        refine yL.eq (y_iload (pc := 1326) (x := v6) d240_1326 rfl) ?_
        refine yL.eq (y_if_ne (pc := 1328) (t := 1343) d240_1328 (by decide)) ?_
        refine yL.ite (fun h16 => ?_) (fun h16 => ?_)
        ·
          refine yL.eq (y_aload_n (pc := 1331) (x := 202) d240_1331 rfl) ?_
          refine yL.eq (y_iconst (pc := 1332) (v := 0) d240_1332 kc_0) ?_
          refine yL.eq (y_lald (pc := 1333) d240_1333 s_21) ?_
          refine yL.eq (y_iload (pc := 1334) (x := v12) d240_1334 rfl) ?_
          refine yL.eq (y_i2l (pc := 1336) d240_1336) ?_
          refine yL.eq (y_lcmp (pc := 1337) d240_1337) ?_
          refine yL.eq (y_lif_eq (pc := 1338) (t := 1343) d240_1338 (by decide)) ?_
          refine yL.ite (fun h17 => ?_) (fun h17 => ?_)
          ·
            refine yL.eq (y_goto (pc := 1343) (t := 2111) d240_1343 (by decide)) ?_
            refine yL.eq (y_iinc (pc := 2111) (v := 4) (x := x4) (ls' := [some (.ref 0), some (.ref 7), some (.ref 190), some (.ref 202), some (.int (x4 + 4)), some (.int v6), some (.int v12)]) d240_2111 kc_4 rfl (Nat.le_of_ble_eq_true rfl) rfl) ?_
            refine yL.eq (y_goto (pc := 2114) (t := 23) d240_2114 (by decide)) ?_
            exact yL.rf
          ·
            refine yL.eq (y_iconst (pc := 1341) (v := 0) d240_1341 kc_0) ?_
            exact yL.eq (y_iretz (pc := 1342) d240_1342 mr_240) (yL.eq yZ_0 yL.rf)
        ·
          refine yL.eq (y_goto (pc := 1343) (t := 2111) d240_1343 (by decide)) ?_
          refine yL.eq (y_iinc (pc := 2111) (v := 4) (x := x4) (ls' := [some (.ref 0), some (.ref 7), some (.ref 190), some (.ref 202), some (.int (x4 + 4)), some (.int v6), some (.int v12)]) d240_2111 kc_4 rfl (Nat.le_of_ble_eq_true rfl) rfl) ?_
          refine yL.eq (y_goto (pc := 2114) (t := 23) d240_2114 (by decide)) ?_
          exact yL.rf
      ·
        refine yL.eq (y_iconst (pc := 1324) (v := 0) d240_1324 kc_0) ?_
        exact yL.eq (y_iretz (pc := 1325) d240_1325 mr_240) (yL.eq yZ_0 yL.rf)
    ·
      refine yL.eq (y_iconst (pc := 1305) (v := 1) d240_1305 kc_1) ?_
      refine yL.eq (y_goto (pc := 1306) (t := 1310) d240_1306 (by decide)) ?_
      refine y_callv_i (pc := 1310) (n := 4) (n' := 5) (nc' := nc + 3) (ns' := ns + 18) [.int (M5 0 (yx (x4 + 1))), .int (M5 0 (yx (x4 + 2))), .int 1] [] false d240_1310 q240_176 mk_190 s_t_190 rfl rfl (Nat.le_of_ble_eq_true rfl) (Nat.le_of_ble_eq_true rfl) rfl (by decide +kernel) (y_rmd (c := 3) (s := 18) mcs_190 hn (by decide)) (fun v19 M18 => ?_)
      refine yL.eq (y_istore (pc := 1313) (ls' := [some (.ref 0), some (.ref 7), some (.ref 190), some (.ref 202), some (.int x4), some (.int v6), some (.int v19)]) d240_1313 rfl rfl) ?_
      refine yL.eq (y_aload_n (pc := 1315) (x := 190) d240_1315 rfl) ?_
      refine y_callv_i (pc := 1316) (n := 1) (n' := 1) (nc' := nc + 3) (ns' := ns + 18) [] [] false d240_1316 q240_115 mk_106 s_t_190 rfl rfl (Nat.le_of_ble_eq_true rfl) (Nat.le_of_ble_eq_true rfl) rfl (by decide +kernel) (y_rmd (c := 3) (s := 18) mcs_106 hn (by decide)) (fun v21 M20 => ?_)
      refine yL.eq (y_iload (pc := 1319) (x := v6) d240_1319 rfl) ?_
      refine yL.eq (y_icmp_eq (pc := 1321) (t := 1326) d240_1321 (by decide)) ?_
      refine yL.ite (fun h22 => ?_) (fun h22 => ?_)
      ·
        refine yL.eq (y_iload (pc := 1326) (x := v6) d240_1326 rfl) ?_
        refine yL.eq (y_if_ne (pc := 1328) (t := 1343) d240_1328 (by decide)) ?_
        refine yL.ite (fun h23 => ?_) (fun h23 => ?_)
        ·
          refine yL.eq (y_aload_n (pc := 1331) (x := 202) d240_1331 rfl) ?_
          refine yL.eq (y_iconst (pc := 1332) (v := 0) d240_1332 kc_0) ?_
          refine yL.eq (y_lald (pc := 1333) d240_1333 s_21) ?_
          refine yL.eq (y_iload (pc := 1334) (x := v19) d240_1334 rfl) ?_
          refine yL.eq (y_i2l (pc := 1336) d240_1336) ?_
          refine yL.eq (y_lcmp (pc := 1337) d240_1337) ?_
          refine yL.eq (y_lif_eq (pc := 1338) (t := 1343) d240_1338 (by decide)) ?_
          refine yL.ite (fun h24 => ?_) (fun h24 => ?_)
          ·
            refine yL.eq (y_goto (pc := 1343) (t := 2111) d240_1343 (by decide)) ?_
            refine yL.eq (y_iinc (pc := 2111) (v := 4) (x := x4) (ls' := [some (.ref 0), some (.ref 7), some (.ref 190), some (.ref 202), some (.int (x4 + 4)), some (.int v6), some (.int v19)]) d240_2111 kc_4 rfl (Nat.le_of_ble_eq_true rfl) rfl) ?_
            refine yL.eq (y_goto (pc := 2114) (t := 23) d240_2114 (by decide)) ?_
            exact yL.rf
          ·
            refine yL.eq (y_iconst (pc := 1341) (v := 0) d240_1341 kc_0) ?_
            exact yL.eq (y_iretz (pc := 1342) d240_1342 mr_240) (yL.eq yZ_0 yL.rf)
        ·
          refine yL.eq (y_goto (pc := 1343) (t := 2111) d240_1343 (by decide)) ?_
          refine yL.eq (y_iinc (pc := 2111) (v := 4) (x := x4) (ls' := [some (.ref 0), some (.ref 7), some (.ref 190), some (.ref 202), some (.int (x4 + 4)), some (.int v6), some (.int v19)]) d240_2111 kc_4 rfl (Nat.le_of_ble_eq_true rfl) rfl) ?_
          refine yL.eq (y_goto (pc := 2114) (t := 23) d240_2114 (by decide)) ?_
          exact yL.rf
      ·
        refine yL.eq (y_iconst (pc := 1324) (v := 0) d240_1324 kc_0) ?_
        exact yL.eq (y_iretz (pc := 1325) d240_1325 mr_240) (yL.eq yZ_0 yL.rf)
  ·
    refine yL.eq (y_iconst (pc := 1272) (v := 1) d240_1272 kc_1) ?_
    refine yL.eq (y_goto (pc := 1273) (t := 1277) d240_1273 (by decide)) ?_
    refine yL.eq (y_aload_n (pc := 1277) (x := 202) d240_1277 rfl) ?_
    refine y_calls_i (pc := 1278) (n := 5) (n' := 6) (nc' := nc + 3) (ns' := ns + 18) [.ref 7, .int (M 0 (yx (x4 + 1))), .int (M 0 (yx (x4 + 2))), .int 1, .ref 202] [] false d240_1278 q240_174 rfl rfl rfl (Nat.le_of_ble_eq_true rfl) (Nat.le_of_ble_eq_true rfl) rfl (by decide +kernel) (y_rmc (c := 3) (s := 18) mcs_228 hn (by decide)) (fun v26 M25 => ?_)
    refine yL.eq (y_istore (pc := 1281) (ls' := [some (.ref 0), some (.ref 7), some (.ref 190), some (.ref 202), some (.int x4), some (.int v26), o6]) d240_1281 rfl rfl) ?_
    refine yL.eq (y_aload_n (pc := 1283) (x := 190) d240_1283 rfl) ?_
    refine yL.eq (y_aload_n (pc := 1284) (x := 0) d240_1284 rfl) ?_
    refine yL.eq (y_iload (pc := 1285) (x := x4) d240_1285 rfl) ?_
    refine yL.eq (y_iconst (pc := 1287) (v := 1) d240_1287 kc_1) ?_
    refine yL.eq (y_iadd (pc := 1288) d240_1288) ?_
    refine yL.eq (y_iald0 (pc := 1289) d240_1289) ?_
    refine yL.gd (fun h27 => ?_)
    refine yL.eq (y_aload_n (pc := 1290) (x := 0) d240_1290 rfl) ?_
    refine yL.eq (y_iload (pc := 1291) (x := x4) d240_1291 rfl) ?_
    refine yL.eq (y_iconst (pc := 1293) (v := 2) d240_1293 kc_2) ?_
    refine yL.eq (y_iadd (pc := 1294) d240_1294) ?_
    refine yL.eq (y_iald0 (pc := 1295) d240_1295) ?_
    refine yL.gd (fun h28 => ?_)
    refine yL.eq (y_aload_n (pc := 1296) (x := 0) d240_1296 rfl) ?_
    refine yL.eq (y_iload (pc := 1297) (x := x4) d240_1297 rfl) ?_
    refine yL.eq (y_iconst (pc := 1299) (v := 3) d240_1299 kc_3) ?_
    refine yL.eq (y_iadd (pc := 1300) d240_1300) ?_
    refine yL.eq (y_iald0 (pc := 1301) d240_1301) ?_
    refine yL.gd (fun h29 => ?_)
    refine yL.eq (y_if_eq (pc := 1302) (t := 1309) d240_1302 (by decide)) ?_
    refine yL.ite (fun h30 => ?_) (fun h30 => ?_)
    ·
      refine yL.eq (y_iconst (pc := 1309) (v := 0) d240_1309 kc_0) ?_
      refine y_callv_i (pc := 1310) (n := 4) (n' := 5) (nc' := nc + 3) (ns' := ns + 18) [.int (M25 0 (yx (x4 + 1))), .int (M25 0 (yx (x4 + 2))), .int 0] [] false d240_1310 q240_176 mk_190 s_t_190 rfl rfl (Nat.le_of_ble_eq_true rfl) (Nat.le_of_ble_eq_true rfl) rfl (by decide +kernel) (y_rmd (c := 3) (s := 18) mcs_190 hn (by decide)) (fun v32 M31 => ?_)
      refine yL.eq (y_istore (pc := 1313) (ls' := [some (.ref 0), some (.ref 7), some (.ref 190), some (.ref 202), some (.int x4), some (.int v26), some (.int v32)]) d240_1313 rfl rfl) ?_
      refine yL.eq (y_aload_n (pc := 1315) (x := 190) d240_1315 rfl) ?_
      refine y_callv_i (pc := 1316) (n := 1) (n' := 1) (nc' := nc + 3) (ns' := ns + 18) [] [] false d240_1316 q240_115 mk_106 s_t_190 rfl rfl (Nat.le_of_ble_eq_true rfl) (Nat.le_of_ble_eq_true rfl) rfl (by decide +kernel) (y_rmd (c := 3) (s := 18) mcs_106 hn (by decide)) (fun v34 M33 => ?_)
      refine yL.eq (y_iload (pc := 1319) (x := v26) d240_1319 rfl) ?_
      refine yL.eq (y_icmp_eq (pc := 1321) (t := 1326) d240_1321 (by decide)) ?_
      refine yL.ite (fun h35 => ?_) (fun h35 => ?_)
      ·
        refine yL.eq (y_iload (pc := 1326) (x := v26) d240_1326 rfl) ?_
        refine yL.eq (y_if_ne (pc := 1328) (t := 1343) d240_1328 (by decide)) ?_
        refine yL.ite (fun h36 => ?_) (fun h36 => ?_)
        ·
          refine yL.eq (y_aload_n (pc := 1331) (x := 202) d240_1331 rfl) ?_
          refine yL.eq (y_iconst (pc := 1332) (v := 0) d240_1332 kc_0) ?_
          refine yL.eq (y_lald (pc := 1333) d240_1333 s_21) ?_
          refine yL.eq (y_iload (pc := 1334) (x := v32) d240_1334 rfl) ?_
          refine yL.eq (y_i2l (pc := 1336) d240_1336) ?_
          refine yL.eq (y_lcmp (pc := 1337) d240_1337) ?_
          refine yL.eq (y_lif_eq (pc := 1338) (t := 1343) d240_1338 (by decide)) ?_
          refine yL.ite (fun h37 => ?_) (fun h37 => ?_)
          ·
            refine yL.eq (y_goto (pc := 1343) (t := 2111) d240_1343 (by decide)) ?_
            refine yL.eq (y_iinc (pc := 2111) (v := 4) (x := x4) (ls' := [some (.ref 0), some (.ref 7), some (.ref 190), some (.ref 202), some (.int (x4 + 4)), some (.int v26), some (.int v32)]) d240_2111 kc_4 rfl (Nat.le_of_ble_eq_true rfl) rfl) ?_
            refine yL.eq (y_goto (pc := 2114) (t := 23) d240_2114 (by decide)) ?_
            exact yL.rf
          ·
            refine yL.eq (y_iconst (pc := 1341) (v := 0) d240_1341 kc_0) ?_
            exact yL.eq (y_iretz (pc := 1342) d240_1342 mr_240) (yL.eq yZ_0 yL.rf)
        ·
          refine yL.eq (y_goto (pc := 1343) (t := 2111) d240_1343 (by decide)) ?_
          refine yL.eq (y_iinc (pc := 2111) (v := 4) (x := x4) (ls' := [some (.ref 0), some (.ref 7), some (.ref 190), some (.ref 202), some (.int (x4 + 4)), some (.int v26), some (.int v32)]) d240_2111 kc_4 rfl (Nat.le_of_ble_eq_true rfl) rfl) ?_
          refine yL.eq (y_goto (pc := 2114) (t := 23) d240_2114 (by decide)) ?_
          exact yL.rf
      ·
        refine yL.eq (y_iconst (pc := 1324) (v := 0) d240_1324 kc_0) ?_
        exact yL.eq (y_iretz (pc := 1325) d240_1325 mr_240) (yL.eq yZ_0 yL.rf)
    ·
      refine yL.eq (y_iconst (pc := 1305) (v := 1) d240_1305 kc_1) ?_
      refine yL.eq (y_goto (pc := 1306) (t := 1310) d240_1306 (by decide)) ?_
      refine y_callv_i (pc := 1310) (n := 4) (n' := 5) (nc' := nc + 3) (ns' := ns + 18) [.int (M25 0 (yx (x4 + 1))), .int (M25 0 (yx (x4 + 2))), .int 1] [] false d240_1310 q240_176 mk_190 s_t_190 rfl rfl (Nat.le_of_ble_eq_true rfl) (Nat.le_of_ble_eq_true rfl) rfl (by decide +kernel) (y_rmd (c := 3) (s := 18) mcs_190 hn (by decide)) (fun v39 M38 => ?_)
      refine yL.eq (y_istore (pc := 1313) (ls' := [some (.ref 0), some (.ref 7), some (.ref 190), some (.ref 202), some (.int x4), some (.int v26), some (.int v39)]) d240_1313 rfl rfl) ?_
      refine yL.eq (y_aload_n (pc := 1315) (x := 190) d240_1315 rfl) ?_
      refine y_callv_i (pc := 1316) (n := 1) (n' := 1) (nc' := nc + 3) (ns' := ns + 18) [] [] false d240_1316 q240_115 mk_106 s_t_190 rfl rfl (Nat.le_of_ble_eq_true rfl) (Nat.le_of_ble_eq_true rfl) rfl (by decide +kernel) (y_rmd (c := 3) (s := 18) mcs_106 hn (by decide)) (fun v41 M40 => ?_)
      refine yL.eq (y_iload (pc := 1319) (x := v26) d240_1319 rfl) ?_
      refine yL.eq (y_icmp_eq (pc := 1321) (t := 1326) d240_1321 (by decide)) ?_
      refine yL.ite (fun h42 => ?_) (fun h42 => ?_)
      ·
        refine yL.eq (y_iload (pc := 1326) (x := v26) d240_1326 rfl) ?_
        refine yL.eq (y_if_ne (pc := 1328) (t := 1343) d240_1328 (by decide)) ?_
        refine yL.ite (fun h43 => ?_) (fun h43 => ?_)
        ·
          refine yL.eq (y_aload_n (pc := 1331) (x := 202) d240_1331 rfl) ?_
          refine yL.eq (y_iconst (pc := 1332) (v := 0) d240_1332 kc_0) ?_
          refine yL.eq (y_lald (pc := 1333) d240_1333 s_21) ?_
          refine yL.eq (y_iload (pc := 1334) (x := v39) d240_1334 rfl) ?_
          refine yL.eq (y_i2l (pc := 1336) d240_1336) ?_
          refine yL.eq (y_lcmp (pc := 1337) d240_1337) ?_
          refine yL.eq (y_lif_eq (pc := 1338) (t := 1343) d240_1338 (by decide)) ?_
          refine yL.ite (fun h44 => ?_) (fun h44 => ?_)
          ·
            refine yL.eq (y_goto (pc := 1343) (t := 2111) d240_1343 (by decide)) ?_
            refine yL.eq (y_iinc (pc := 2111) (v := 4) (x := x4) (ls' := [some (.ref 0), some (.ref 7), some (.ref 190), some (.ref 202), some (.int (x4 + 4)), some (.int v26), some (.int v39)]) d240_2111 kc_4 rfl (Nat.le_of_ble_eq_true rfl) rfl) ?_
            refine yL.eq (y_goto (pc := 2114) (t := 23) d240_2114 (by decide)) ?_
            exact yL.rf
          ·
            refine yL.eq (y_iconst (pc := 1341) (v := 0) d240_1341 kc_0) ?_
            exact yL.eq (y_iretz (pc := 1342) d240_1342 mr_240) (yL.eq yZ_0 yL.rf)
        ·
          refine yL.eq (y_goto (pc := 1343) (t := 2111) d240_1343 (by decide)) ?_
          refine yL.eq (y_iinc (pc := 2111) (v := 4) (x := x4) (ls' := [some (.ref 0), some (.ref 7), some (.ref 190), some (.ref 202), some (.int (x4 + 4)), some (.int v26), some (.int v39)]) d240_2111 kc_4 rfl (Nat.le_of_ble_eq_true rfl) rfl) ?_
          refine yL.eq (y_goto (pc := 2114) (t := 23) d240_2114 (by decide)) ?_
          exact yL.rf
      ·
        refine yL.eq (y_iconst (pc := 1324) (v := 0) d240_1324 kc_0) ?_
        exact yL.eq (y_iretz (pc := 1325) d240_1325 mr_240) (yL.eq yZ_0 yL.rf)
set_option maxRecDepth 20000 in
set_option maxHeartbeats 4000000 in
theorem e240_1346 {x4 : Int32} {o5 : Option Value} {o6 : Option Value} {M : yM} {nc ns : Nat} (hn : nc + 4 ≤ 601024 ∧ ns + 24 ≤ 7293034) : yL (if yinB (x4 + 1) (ylen M) = true then if yinB (x4 + 2) (ylen M) = true then yCi false (yX 229 0 [some (.ref 7), some (.int (M 0 (yx (x4 + 1)))), some (.int (M 0 (yx (x4 + 2)))), some (.ref 202), none] [] M 0 0) fun v4 M3 => if yinB (x4 + 1) (ylen M3) = true then if yinB (x4 + 2) (ylen M3) = true then yCi false (yX 191 0 [some (.ref 190), some (.int (M3 0 (yx (x4 + 1)))), some (.int (M3 0 (yx (x4 + 2))))] [] M3 0 0) fun v8 M7 => yCi false (yX 106 0 [some (.ref 190)] [] M7 0 0) fun v10 M9 => if v10 = v4 then if v4 = 0 then if ((M9 202 0).toInt64) = v8.toInt64 then yX 240 23 [some (.ref 0), some (.ref 7), some (.ref 190), some (.ref 202), some (.int (x4 + 4)), some (.int v4), some (.int v8)] [] M9 (nc + 3) (ns + 18) else yI 0 M9 else yX 240 23 [some (.ref 0), some (.ref 7), some (.ref 190), some (.ref 202), some (.int (x4 + 4)), some (.int v4), some (.int v8)] [] M9 (nc + 3) (ns + 18) else yI 0 M9 else none else none else none else none) (yX 240 1346 [some (.ref 0), some (.ref 7), some (.ref 190), some (.ref 202), some (.int x4), o5, o6] [] M nc ns) := by
  refine yL.eq (y_aload_n (pc := 1346) (x := 7) d240_1346 rfl) ?_
  refine yL.eq (y_aload_n (pc := 1347) (x := 0) d240_1347 rfl) ?_
  refine yL.eq (y_iload (pc := 1348) (x := x4) d240_1348 rfl) ?_
  refine yL.eq (y_iconst (pc := 1350) (v := 1) d240_1350 kc_1) ?_
  refine yL.eq (y_iadd (pc := 1351) d240_1351) ?_
  refine yL.eq (y_iald0 (pc := 1352) d240_1352) ?_
  refine yL.gd (fun h1 => ?_)
  refine yL.eq (y_aload_n (pc := 1353) (x := 0) d240_1353 rfl) ?_
  refine yL.eq (y_iload (pc := 1354) (x := x4) d240_1354 rfl) ?_
  refine yL.eq (y_iconst (pc := 1356) (v := 2) d240_1356 kc_2) ?_
  refine yL.eq (y_iadd (pc := 1357) d240_1357) ?_
  refine yL.eq (y_iald0 (pc := 1358) d240_1358) ?_
  refine yL.gd (fun h2 => ?_)
  refine yL.eq (y_aload_n (pc := 1359) (x := 202) d240_1359 rfl) ?_
  refine y_calls_i (pc := 1360) (n := 4) (n' := 5) (nc' := nc + 3) (ns' := ns + 18) [.ref 7, .int (M 0 (yx (x4 + 1))), .int (M 0 (yx (x4 + 2))), .ref 202] [] false d240_1360 q240_177 rfl rfl rfl (Nat.le_of_ble_eq_true rfl) (Nat.le_of_ble_eq_true rfl) rfl (by decide +kernel) (y_rmc (c := 3) (s := 18) mcs_229 hn (by decide)) (fun v4 M3 => ?_)
  refine yL.eq (y_istore (pc := 1363) (ls' := [some (.ref 0), some (.ref 7), some (.ref 190), some (.ref 202), some (.int x4), some (.int v4), o6]) d240_1363 rfl rfl) ?_
  refine yL.eq (y_aload_n (pc := 1365) (x := 190) d240_1365 rfl) ?_
  refine yL.eq (y_aload_n (pc := 1366) (x := 0) d240_1366 rfl) ?_
  refine yL.eq (y_iload (pc := 1367) (x := x4) d240_1367 rfl) ?_
  refine yL.eq (y_iconst (pc := 1369) (v := 1) d240_1369 kc_1) ?_
  refine yL.eq (y_iadd (pc := 1370) d240_1370) ?_
  refine yL.eq (y_iald0 (pc := 1371) d240_1371) ?_
  refine yL.gd (fun h5 => ?_)
  refine yL.eq (y_aload_n (pc := 1372) (x := 0) d240_1372 rfl) ?_
  refine yL.eq (y_iload (pc := 1373) (x := x4) d240_1373 rfl) ?_
  refine yL.eq (y_iconst (pc := 1375) (v := 2) d240_1375 kc_2) ?_
  refine yL.eq (y_iadd (pc := 1376) d240_1376) ?_
  refine yL.eq (y_iald0 (pc := 1377) d240_1377) ?_
  refine yL.gd (fun h6 => ?_)
  refine y_callv_i (pc := 1378) (n := 3) (n' := 3) (nc' := nc + 3) (ns' := ns + 18) [.int (M3 0 (yx (x4 + 1))), .int (M3 0 (yx (x4 + 2)))] [] false d240_1378 q240_179 mk_191 s_t_190 rfl rfl (Nat.le_of_ble_eq_true rfl) (Nat.le_of_ble_eq_true rfl) rfl (by decide +kernel) (y_rmd (c := 3) (s := 18) mcs_191 hn (by decide)) (fun v8 M7 => ?_)
  refine yL.eq (y_istore (pc := 1381) (ls' := [some (.ref 0), some (.ref 7), some (.ref 190), some (.ref 202), some (.int x4), some (.int v4), some (.int v8)]) d240_1381 rfl rfl) ?_
  refine yL.eq (y_aload_n (pc := 1383) (x := 190) d240_1383 rfl) ?_
  refine y_callv_i (pc := 1384) (n := 1) (n' := 1) (nc' := nc + 3) (ns' := ns + 18) [] [] false d240_1384 q240_115 mk_106 s_t_190 rfl rfl (Nat.le_of_ble_eq_true rfl) (Nat.le_of_ble_eq_true rfl) rfl (by decide +kernel) (y_rmd (c := 3) (s := 18) mcs_106 hn (by decide)) (fun v10 M9 => ?_)
  refine yL.eq (y_iload (pc := 1387) (x := v4) d240_1387 rfl) ?_
  refine yL.eq (y_icmp_eq (pc := 1389) (t := 1394) d240_1389 (by decide)) ?_
  refine yL.ite (fun h11 => ?_) (fun h11 => ?_)
  ·
    refine yL.eq (y_iload (pc := 1394) (x := v4) d240_1394 rfl) ?_
    refine yL.eq (y_if_ne (pc := 1396) (t := 1411) d240_1396 (by decide)) ?_
    refine yL.ite (fun h12 => ?_) (fun h12 => ?_)
    ·
      refine yL.eq (y_aload_n (pc := 1399) (x := 202) d240_1399 rfl) ?_
      refine yL.eq (y_iconst (pc := 1400) (v := 0) d240_1400 kc_0) ?_
      refine yL.eq (y_lald (pc := 1401) d240_1401 s_21) ?_
      refine yL.eq (y_iload (pc := 1402) (x := v8) d240_1402 rfl) ?_
      refine yL.eq (y_i2l (pc := 1404) d240_1404) ?_
      refine yL.eq (y_lcmp (pc := 1405) d240_1405) ?_
      refine yL.eq (y_lif_eq (pc := 1406) (t := 1411) d240_1406 (by decide)) ?_
      refine yL.ite (fun h13 => ?_) (fun h13 => ?_)
      ·
        refine yL.eq (y_goto (pc := 1411) (t := 2111) d240_1411 (by decide)) ?_
        refine yL.eq (y_iinc (pc := 2111) (v := 4) (x := x4) (ls' := [some (.ref 0), some (.ref 7), some (.ref 190), some (.ref 202), some (.int (x4 + 4)), some (.int v4), some (.int v8)]) d240_2111 kc_4 rfl (Nat.le_of_ble_eq_true rfl) rfl) ?_
        refine yL.eq (y_goto (pc := 2114) (t := 23) d240_2114 (by decide)) ?_
        exact yL.rf
      ·
        refine yL.eq (y_iconst (pc := 1409) (v := 0) d240_1409 kc_0) ?_
        exact yL.eq (y_iretz (pc := 1410) d240_1410 mr_240) (yL.eq yZ_0 yL.rf)
    ·
      refine yL.eq (y_goto (pc := 1411) (t := 2111) d240_1411 (by decide)) ?_
      refine yL.eq (y_iinc (pc := 2111) (v := 4) (x := x4) (ls' := [some (.ref 0), some (.ref 7), some (.ref 190), some (.ref 202), some (.int (x4 + 4)), some (.int v4), some (.int v8)]) d240_2111 kc_4 rfl (Nat.le_of_ble_eq_true rfl) rfl) ?_
      refine yL.eq (y_goto (pc := 2114) (t := 23) d240_2114 (by decide)) ?_
      exact yL.rf
  ·
    refine yL.eq (y_iconst (pc := 1392) (v := 0) d240_1392 kc_0) ?_
    exact yL.eq (y_iretz (pc := 1393) d240_1393 mr_240) (yL.eq yZ_0 yL.rf)
set_option maxRecDepth 20000 in
set_option maxHeartbeats 4000000 in
theorem e240_1414 {x4 : Int32} {o5 : Option Value} {o6 : Option Value} {M : yM} {nc ns : Nat} (hn : nc + 4 ≤ 601024 ∧ ns + 24 ≤ 7293034) : yL (if yinB (x4 + 1) (ylen M) = true then if yinB (x4 + 2) (ylen M) = true then yCi false (yX 230 0 [some (.ref 7), some (.int (M 0 (yx (x4 + 1)))), some (.int (M 0 (yx (x4 + 2)))), some (.ref 202), none] [] M 0 0) fun v4 M3 => if yinB (x4 + 1) (ylen M3) = true then if yinB (x4 + 2) (ylen M3) = true then yCi false (yX 192 0 [some (.ref 190), some (.int (M3 0 (yx (x4 + 1)))), some (.int (M3 0 (yx (x4 + 2))))] [] M3 0 0) fun v8 M7 => yCi false (yX 106 0 [some (.ref 190)] [] M7 0 0) fun v10 M9 => if v10 = v4 then if v4 = 0 then if ((M9 202 0).toInt64) = v8.toInt64 then yX 240 23 [some (.ref 0), some (.ref 7), some (.ref 190), some (.ref 202), some (.int (x4 + 4)), some (.int v4), some (.int v8)] [] M9 (nc + 3) (ns + 18) else yI 0 M9 else yX 240 23 [some (.ref 0), some (.ref 7), some (.ref 190), some (.ref 202), some (.int (x4 + 4)), some (.int v4), some (.int v8)] [] M9 (nc + 3) (ns + 18) else yI 0 M9 else none else none else none else none) (yX 240 1414 [some (.ref 0), some (.ref 7), some (.ref 190), some (.ref 202), some (.int x4), o5, o6] [] M nc ns) := by
  refine yL.eq (y_aload_n (pc := 1414) (x := 7) d240_1414 rfl) ?_
  refine yL.eq (y_aload_n (pc := 1415) (x := 0) d240_1415 rfl) ?_
  refine yL.eq (y_iload (pc := 1416) (x := x4) d240_1416 rfl) ?_
  refine yL.eq (y_iconst (pc := 1418) (v := 1) d240_1418 kc_1) ?_
  refine yL.eq (y_iadd (pc := 1419) d240_1419) ?_
  refine yL.eq (y_iald0 (pc := 1420) d240_1420) ?_
  refine yL.gd (fun h1 => ?_)
  refine yL.eq (y_aload_n (pc := 1421) (x := 0) d240_1421 rfl) ?_
  refine yL.eq (y_iload (pc := 1422) (x := x4) d240_1422 rfl) ?_
  refine yL.eq (y_iconst (pc := 1424) (v := 2) d240_1424 kc_2) ?_
  refine yL.eq (y_iadd (pc := 1425) d240_1425) ?_
  refine yL.eq (y_iald0 (pc := 1426) d240_1426) ?_
  refine yL.gd (fun h2 => ?_)
  refine yL.eq (y_aload_n (pc := 1427) (x := 202) d240_1427 rfl) ?_
  refine y_calls_i (pc := 1428) (n := 4) (n' := 5) (nc' := nc + 3) (ns' := ns + 18) [.ref 7, .int (M 0 (yx (x4 + 1))), .int (M 0 (yx (x4 + 2))), .ref 202] [] false d240_1428 q240_180 rfl rfl rfl (Nat.le_of_ble_eq_true rfl) (Nat.le_of_ble_eq_true rfl) rfl (by decide +kernel) (y_rmc (c := 3) (s := 18) mcs_230 hn (by decide)) (fun v4 M3 => ?_)
  refine yL.eq (y_istore (pc := 1431) (ls' := [some (.ref 0), some (.ref 7), some (.ref 190), some (.ref 202), some (.int x4), some (.int v4), o6]) d240_1431 rfl rfl) ?_
  refine yL.eq (y_aload_n (pc := 1433) (x := 190) d240_1433 rfl) ?_
  refine yL.eq (y_aload_n (pc := 1434) (x := 0) d240_1434 rfl) ?_
  refine yL.eq (y_iload (pc := 1435) (x := x4) d240_1435 rfl) ?_
  refine yL.eq (y_iconst (pc := 1437) (v := 1) d240_1437 kc_1) ?_
  refine yL.eq (y_iadd (pc := 1438) d240_1438) ?_
  refine yL.eq (y_iald0 (pc := 1439) d240_1439) ?_
  refine yL.gd (fun h5 => ?_)
  refine yL.eq (y_aload_n (pc := 1440) (x := 0) d240_1440 rfl) ?_
  refine yL.eq (y_iload (pc := 1441) (x := x4) d240_1441 rfl) ?_
  refine yL.eq (y_iconst (pc := 1443) (v := 2) d240_1443 kc_2) ?_
  refine yL.eq (y_iadd (pc := 1444) d240_1444) ?_
  refine yL.eq (y_iald0 (pc := 1445) d240_1445) ?_
  refine yL.gd (fun h6 => ?_)
  refine y_callv_i (pc := 1446) (n := 3) (n' := 3) (nc' := nc + 3) (ns' := ns + 18) [.int (M3 0 (yx (x4 + 1))), .int (M3 0 (yx (x4 + 2)))] [] false d240_1446 q240_182 mk_192 s_t_190 rfl rfl (Nat.le_of_ble_eq_true rfl) (Nat.le_of_ble_eq_true rfl) rfl (by decide +kernel) (y_rmd (c := 3) (s := 18) mcs_192 hn (by decide)) (fun v8 M7 => ?_)
  refine yL.eq (y_istore (pc := 1449) (ls' := [some (.ref 0), some (.ref 7), some (.ref 190), some (.ref 202), some (.int x4), some (.int v4), some (.int v8)]) d240_1449 rfl rfl) ?_
  refine yL.eq (y_aload_n (pc := 1451) (x := 190) d240_1451 rfl) ?_
  refine y_callv_i (pc := 1452) (n := 1) (n' := 1) (nc' := nc + 3) (ns' := ns + 18) [] [] false d240_1452 q240_115 mk_106 s_t_190 rfl rfl (Nat.le_of_ble_eq_true rfl) (Nat.le_of_ble_eq_true rfl) rfl (by decide +kernel) (y_rmd (c := 3) (s := 18) mcs_106 hn (by decide)) (fun v10 M9 => ?_)
  refine yL.eq (y_iload (pc := 1455) (x := v4) d240_1455 rfl) ?_
  refine yL.eq (y_icmp_eq (pc := 1457) (t := 1462) d240_1457 (by decide)) ?_
  refine yL.ite (fun h11 => ?_) (fun h11 => ?_)
  ·
    refine yL.eq (y_iload (pc := 1462) (x := v4) d240_1462 rfl) ?_
    refine yL.eq (y_if_ne (pc := 1464) (t := 1479) d240_1464 (by decide)) ?_
    refine yL.ite (fun h12 => ?_) (fun h12 => ?_)
    ·
      refine yL.eq (y_aload_n (pc := 1467) (x := 202) d240_1467 rfl) ?_
      refine yL.eq (y_iconst (pc := 1468) (v := 0) d240_1468 kc_0) ?_
      refine yL.eq (y_lald (pc := 1469) d240_1469 s_21) ?_
      refine yL.eq (y_iload (pc := 1470) (x := v8) d240_1470 rfl) ?_
      refine yL.eq (y_i2l (pc := 1472) d240_1472) ?_
      refine yL.eq (y_lcmp (pc := 1473) d240_1473) ?_
      refine yL.eq (y_lif_eq (pc := 1474) (t := 1479) d240_1474 (by decide)) ?_
      refine yL.ite (fun h13 => ?_) (fun h13 => ?_)
      ·
        refine yL.eq (y_goto (pc := 1479) (t := 2111) d240_1479 (by decide)) ?_
        refine yL.eq (y_iinc (pc := 2111) (v := 4) (x := x4) (ls' := [some (.ref 0), some (.ref 7), some (.ref 190), some (.ref 202), some (.int (x4 + 4)), some (.int v4), some (.int v8)]) d240_2111 kc_4 rfl (Nat.le_of_ble_eq_true rfl) rfl) ?_
        refine yL.eq (y_goto (pc := 2114) (t := 23) d240_2114 (by decide)) ?_
        exact yL.rf
      ·
        refine yL.eq (y_iconst (pc := 1477) (v := 0) d240_1477 kc_0) ?_
        exact yL.eq (y_iretz (pc := 1478) d240_1478 mr_240) (yL.eq yZ_0 yL.rf)
    ·
      refine yL.eq (y_goto (pc := 1479) (t := 2111) d240_1479 (by decide)) ?_
      refine yL.eq (y_iinc (pc := 2111) (v := 4) (x := x4) (ls' := [some (.ref 0), some (.ref 7), some (.ref 190), some (.ref 202), some (.int (x4 + 4)), some (.int v4), some (.int v8)]) d240_2111 kc_4 rfl (Nat.le_of_ble_eq_true rfl) rfl) ?_
      refine yL.eq (y_goto (pc := 2114) (t := 23) d240_2114 (by decide)) ?_
      exact yL.rf
  ·
    refine yL.eq (y_iconst (pc := 1460) (v := 0) d240_1460 kc_0) ?_
    exact yL.eq (y_iretz (pc := 1461) d240_1461 mr_240) (yL.eq yZ_0 yL.rf)
set_option maxRecDepth 20000 in
set_option maxHeartbeats 4000000 in
theorem e240_1482 {x4 : Int32} {o5 : Option Value} {o6 : Option Value} {M : yM} {nc ns : Nat} (hn : nc + 4 ≤ 601024 ∧ ns + 24 ≤ 7293034) : yL (yCi false (yX 231 0 [some (.ref 7), some (.ref 202), none] [] M 0 0) fun v2 M1 => yCi false (yX 193 0 [some (.ref 190), none] [] M1 0 0) fun v4 M3 => yCi false (yX 106 0 [some (.ref 190)] [] M3 0 0) fun v6 M5 => if v6 = v2 then if v2 = 0 then if ((M5 202 0).toInt64) = v4.toInt64 then yX 240 23 [some (.ref 0), some (.ref 7), some (.ref 190), some (.ref 202), some (.int (x4 + 4)), some (.int v2), some (.int v4)] [] M5 (nc + 1) (ns + 6) else yI 0 M5 else yX 240 23 [some (.ref 0), some (.ref 7), some (.ref 190), some (.ref 202), some (.int (x4 + 4)), some (.int v2), some (.int v4)] [] M5 (nc + 1) (ns + 6) else yI 0 M5) (yX 240 1482 [some (.ref 0), some (.ref 7), some (.ref 190), some (.ref 202), some (.int x4), o5, o6] [] M nc ns) := by
  refine yL.eq (y_aload_n (pc := 1482) (x := 7) d240_1482 rfl) ?_
  refine yL.eq (y_aload_n (pc := 1483) (x := 202) d240_1483 rfl) ?_
  refine y_calls_i (pc := 1484) (n := 2) (n' := 3) (nc' := nc + 1) (ns' := ns + 6) [.ref 7, .ref 202] [] false d240_1484 q240_183 rfl rfl rfl (Nat.le_of_ble_eq_true rfl) (Nat.le_of_ble_eq_true rfl) rfl (by decide +kernel) (y_rmc (c := 1) (s := 6) mcs_231 hn (by decide)) (fun v2 M1 => ?_)
  refine yL.eq (y_istore (pc := 1487) (ls' := [some (.ref 0), some (.ref 7), some (.ref 190), some (.ref 202), some (.int x4), some (.int v2), o6]) d240_1487 rfl rfl) ?_
  refine yL.eq (y_aload_n (pc := 1489) (x := 190) d240_1489 rfl) ?_
  refine y_callv_i (pc := 1490) (n := 1) (n' := 2) (nc' := nc + 1) (ns' := ns + 6) [] [] false d240_1490 q240_185 mk_193 s_t_190 rfl rfl (Nat.le_of_ble_eq_true rfl) (Nat.le_of_ble_eq_true rfl) rfl (by decide +kernel) (y_rmd (c := 1) (s := 6) mcs_193 hn (by decide)) (fun v4 M3 => ?_)
  refine yL.eq (y_istore (pc := 1493) (ls' := [some (.ref 0), some (.ref 7), some (.ref 190), some (.ref 202), some (.int x4), some (.int v2), some (.int v4)]) d240_1493 rfl rfl) ?_
  refine yL.eq (y_aload_n (pc := 1495) (x := 190) d240_1495 rfl) ?_
  refine y_callv_i (pc := 1496) (n := 1) (n' := 1) (nc' := nc + 1) (ns' := ns + 6) [] [] false d240_1496 q240_115 mk_106 s_t_190 rfl rfl (Nat.le_of_ble_eq_true rfl) (Nat.le_of_ble_eq_true rfl) rfl (by decide +kernel) (y_rmd (c := 1) (s := 6) mcs_106 hn (by decide)) (fun v6 M5 => ?_)
  refine yL.eq (y_iload (pc := 1499) (x := v2) d240_1499 rfl) ?_
  refine yL.eq (y_icmp_eq (pc := 1501) (t := 1506) d240_1501 (by decide)) ?_
  refine yL.ite (fun h7 => ?_) (fun h7 => ?_)
  ·
    refine yL.eq (y_iload (pc := 1506) (x := v2) d240_1506 rfl) ?_
    refine yL.eq (y_if_ne (pc := 1508) (t := 1523) d240_1508 (by decide)) ?_
    refine yL.ite (fun h8 => ?_) (fun h8 => ?_)
    ·
      refine yL.eq (y_aload_n (pc := 1511) (x := 202) d240_1511 rfl) ?_
      refine yL.eq (y_iconst (pc := 1512) (v := 0) d240_1512 kc_0) ?_
      refine yL.eq (y_lald (pc := 1513) d240_1513 s_21) ?_
      refine yL.eq (y_iload (pc := 1514) (x := v4) d240_1514 rfl) ?_
      refine yL.eq (y_i2l (pc := 1516) d240_1516) ?_
      refine yL.eq (y_lcmp (pc := 1517) d240_1517) ?_
      refine yL.eq (y_lif_eq (pc := 1518) (t := 1523) d240_1518 (by decide)) ?_
      refine yL.ite (fun h9 => ?_) (fun h9 => ?_)
      ·
        refine yL.eq (y_goto (pc := 1523) (t := 2111) d240_1523 (by decide)) ?_
        refine yL.eq (y_iinc (pc := 2111) (v := 4) (x := x4) (ls' := [some (.ref 0), some (.ref 7), some (.ref 190), some (.ref 202), some (.int (x4 + 4)), some (.int v2), some (.int v4)]) d240_2111 kc_4 rfl (Nat.le_of_ble_eq_true rfl) rfl) ?_
        refine yL.eq (y_goto (pc := 2114) (t := 23) d240_2114 (by decide)) ?_
        exact yL.rf
      ·
        refine yL.eq (y_iconst (pc := 1521) (v := 0) d240_1521 kc_0) ?_
        exact yL.eq (y_iretz (pc := 1522) d240_1522 mr_240) (yL.eq yZ_0 yL.rf)
    ·
      refine yL.eq (y_goto (pc := 1523) (t := 2111) d240_1523 (by decide)) ?_
      refine yL.eq (y_iinc (pc := 2111) (v := 4) (x := x4) (ls' := [some (.ref 0), some (.ref 7), some (.ref 190), some (.ref 202), some (.int (x4 + 4)), some (.int v2), some (.int v4)]) d240_2111 kc_4 rfl (Nat.le_of_ble_eq_true rfl) rfl) ?_
      refine yL.eq (y_goto (pc := 2114) (t := 23) d240_2114 (by decide)) ?_
      exact yL.rf
  ·
    refine yL.eq (y_iconst (pc := 1504) (v := 0) d240_1504 kc_0) ?_
    exact yL.eq (y_iretz (pc := 1505) d240_1505 mr_240) (yL.eq yZ_0 yL.rf)
set_option maxRecDepth 20000 in
set_option maxHeartbeats 4000000 in
theorem e240_1526 {x4 : Int32} {o5 : Option Value} {o6 : Option Value} {M : yM} {nc ns : Nat} (hn : nc + 4 ≤ 601024 ∧ ns + 24 ≤ 7293034) : yL (if yinB (x4 + 1) (ylen M) = true then if yinB (x4 + 2) (ylen M) = true then yCi false (yX 232 0 [some (.ref 7), some (.int (M 0 (yx (x4 + 1)))), some (.int (M 0 (yx (x4 + 2)))), some (.ref 202), none] [] M 0 0) fun v4 M3 => if yinB (x4 + 1) (ylen M3) = true then if yinB (x4 + 2) (ylen M3) = true then yCi false (yX 194 0 [some (.ref 190), some (.int (M3 0 (yx (x4 + 1)))), some (.int (M3 0 (yx (x4 + 2))))] [] M3 0 0) fun v8 M7 => yCi false (yX 106 0 [some (.ref 190)] [] M7 0 0) fun v10 M9 => if v10 = v4 then if v4 = 0 then if ((M9 202 0).toInt64) = v8.toInt64 then yX 240 23 [some (.ref 0), some (.ref 7), some (.ref 190), some (.ref 202), some (.int (x4 + 4)), some (.int v4), some (.int v8)] [] M9 (nc + 2) (ns + 12) else yI 0 M9 else yX 240 23 [some (.ref 0), some (.ref 7), some (.ref 190), some (.ref 202), some (.int (x4 + 4)), some (.int v4), some (.int v8)] [] M9 (nc + 2) (ns + 12) else yI 0 M9 else none else none else none else none) (yX 240 1526 [some (.ref 0), some (.ref 7), some (.ref 190), some (.ref 202), some (.int x4), o5, o6] [] M nc ns) := by
  refine yL.eq (y_aload_n (pc := 1526) (x := 7) d240_1526 rfl) ?_
  refine yL.eq (y_aload_n (pc := 1527) (x := 0) d240_1527 rfl) ?_
  refine yL.eq (y_iload (pc := 1528) (x := x4) d240_1528 rfl) ?_
  refine yL.eq (y_iconst (pc := 1530) (v := 1) d240_1530 kc_1) ?_
  refine yL.eq (y_iadd (pc := 1531) d240_1531) ?_
  refine yL.eq (y_iald0 (pc := 1532) d240_1532) ?_
  refine yL.gd (fun h1 => ?_)
  refine yL.eq (y_aload_n (pc := 1533) (x := 0) d240_1533 rfl) ?_
  refine yL.eq (y_iload (pc := 1534) (x := x4) d240_1534 rfl) ?_
  refine yL.eq (y_iconst (pc := 1536) (v := 2) d240_1536 kc_2) ?_
  refine yL.eq (y_iadd (pc := 1537) d240_1537) ?_
  refine yL.eq (y_iald0 (pc := 1538) d240_1538) ?_
  refine yL.gd (fun h2 => ?_)
  refine yL.eq (y_aload_n (pc := 1539) (x := 202) d240_1539 rfl) ?_
  refine y_calls_i (pc := 1540) (n := 4) (n' := 5) (nc' := nc + 2) (ns' := ns + 12) [.ref 7, .int (M 0 (yx (x4 + 1))), .int (M 0 (yx (x4 + 2))), .ref 202] [] false d240_1540 q240_186 rfl rfl rfl (Nat.le_of_ble_eq_true rfl) (Nat.le_of_ble_eq_true rfl) rfl (by decide +kernel) (y_rmc (c := 2) (s := 12) mcs_232 hn (by decide)) (fun v4 M3 => ?_)
  refine yL.eq (y_istore (pc := 1543) (ls' := [some (.ref 0), some (.ref 7), some (.ref 190), some (.ref 202), some (.int x4), some (.int v4), o6]) d240_1543 rfl rfl) ?_
  refine yL.eq (y_aload_n (pc := 1545) (x := 190) d240_1545 rfl) ?_
  refine yL.eq (y_aload_n (pc := 1546) (x := 0) d240_1546 rfl) ?_
  refine yL.eq (y_iload (pc := 1547) (x := x4) d240_1547 rfl) ?_
  refine yL.eq (y_iconst (pc := 1549) (v := 1) d240_1549 kc_1) ?_
  refine yL.eq (y_iadd (pc := 1550) d240_1550) ?_
  refine yL.eq (y_iald0 (pc := 1551) d240_1551) ?_
  refine yL.gd (fun h5 => ?_)
  refine yL.eq (y_aload_n (pc := 1552) (x := 0) d240_1552 rfl) ?_
  refine yL.eq (y_iload (pc := 1553) (x := x4) d240_1553 rfl) ?_
  refine yL.eq (y_iconst (pc := 1555) (v := 2) d240_1555 kc_2) ?_
  refine yL.eq (y_iadd (pc := 1556) d240_1556) ?_
  refine yL.eq (y_iald0 (pc := 1557) d240_1557) ?_
  refine yL.gd (fun h6 => ?_)
  refine y_callv_i (pc := 1558) (n := 3) (n' := 3) (nc' := nc + 2) (ns' := ns + 12) [.int (M3 0 (yx (x4 + 1))), .int (M3 0 (yx (x4 + 2)))] [] false d240_1558 q240_188 mk_194 s_t_190 rfl rfl (Nat.le_of_ble_eq_true rfl) (Nat.le_of_ble_eq_true rfl) rfl (by decide +kernel) (y_rmd (c := 2) (s := 12) mcs_194 hn (by decide)) (fun v8 M7 => ?_)
  refine yL.eq (y_istore (pc := 1561) (ls' := [some (.ref 0), some (.ref 7), some (.ref 190), some (.ref 202), some (.int x4), some (.int v4), some (.int v8)]) d240_1561 rfl rfl) ?_
  refine yL.eq (y_aload_n (pc := 1563) (x := 190) d240_1563 rfl) ?_
  refine y_callv_i (pc := 1564) (n := 1) (n' := 1) (nc' := nc + 2) (ns' := ns + 12) [] [] false d240_1564 q240_115 mk_106 s_t_190 rfl rfl (Nat.le_of_ble_eq_true rfl) (Nat.le_of_ble_eq_true rfl) rfl (by decide +kernel) (y_rmd (c := 2) (s := 12) mcs_106 hn (by decide)) (fun v10 M9 => ?_)
  refine yL.eq (y_iload (pc := 1567) (x := v4) d240_1567 rfl) ?_
  refine yL.eq (y_icmp_eq (pc := 1569) (t := 1574) d240_1569 (by decide)) ?_
  refine yL.ite (fun h11 => ?_) (fun h11 => ?_)
  ·
    refine yL.eq (y_iload (pc := 1574) (x := v4) d240_1574 rfl) ?_
    refine yL.eq (y_if_ne (pc := 1576) (t := 1591) d240_1576 (by decide)) ?_
    refine yL.ite (fun h12 => ?_) (fun h12 => ?_)
    ·
      refine yL.eq (y_aload_n (pc := 1579) (x := 202) d240_1579 rfl) ?_
      refine yL.eq (y_iconst (pc := 1580) (v := 0) d240_1580 kc_0) ?_
      refine yL.eq (y_lald (pc := 1581) d240_1581 s_21) ?_
      refine yL.eq (y_iload (pc := 1582) (x := v8) d240_1582 rfl) ?_
      refine yL.eq (y_i2l (pc := 1584) d240_1584) ?_
      refine yL.eq (y_lcmp (pc := 1585) d240_1585) ?_
      refine yL.eq (y_lif_eq (pc := 1586) (t := 1591) d240_1586 (by decide)) ?_
      refine yL.ite (fun h13 => ?_) (fun h13 => ?_)
      ·
        refine yL.eq (y_goto (pc := 1591) (t := 2111) d240_1591 (by decide)) ?_
        refine yL.eq (y_iinc (pc := 2111) (v := 4) (x := x4) (ls' := [some (.ref 0), some (.ref 7), some (.ref 190), some (.ref 202), some (.int (x4 + 4)), some (.int v4), some (.int v8)]) d240_2111 kc_4 rfl (Nat.le_of_ble_eq_true rfl) rfl) ?_
        refine yL.eq (y_goto (pc := 2114) (t := 23) d240_2114 (by decide)) ?_
        exact yL.rf
      ·
        refine yL.eq (y_iconst (pc := 1589) (v := 0) d240_1589 kc_0) ?_
        exact yL.eq (y_iretz (pc := 1590) d240_1590 mr_240) (yL.eq yZ_0 yL.rf)
    ·
      refine yL.eq (y_goto (pc := 1591) (t := 2111) d240_1591 (by decide)) ?_
      refine yL.eq (y_iinc (pc := 2111) (v := 4) (x := x4) (ls' := [some (.ref 0), some (.ref 7), some (.ref 190), some (.ref 202), some (.int (x4 + 4)), some (.int v4), some (.int v8)]) d240_2111 kc_4 rfl (Nat.le_of_ble_eq_true rfl) rfl) ?_
      refine yL.eq (y_goto (pc := 2114) (t := 23) d240_2114 (by decide)) ?_
      exact yL.rf
  ·
    refine yL.eq (y_iconst (pc := 1572) (v := 0) d240_1572 kc_0) ?_
    exact yL.eq (y_iretz (pc := 1573) d240_1573 mr_240) (yL.eq yZ_0 yL.rf)
set_option maxRecDepth 20000 in
set_option maxHeartbeats 4000000 in
theorem e240_1594 {x4 : Int32} {o5 : Option Value} {o6 : Option Value} {M : yM} {nc ns : Nat} (hn : nc + 4 ≤ 601024 ∧ ns + 24 ≤ 7293034) : yL (if yinB (x4 + 1) (ylen M) = true then if yinB (x4 + 2) (ylen M) = true then yCi false (yX 233 0 [some (.ref 7), some (.int (M 0 (yx (x4 + 1)))), some (.int (M 0 (yx (x4 + 2)))), some (.ref 202), none] [] M 0 0) fun v4 M3 => if yinB (x4 + 1) (ylen M3) = true then if yinB (x4 + 2) (ylen M3) = true then yCi false (yX 196 0 [some (.ref 190), some (.int (M3 0 (yx (x4 + 1)))), some (.int (M3 0 (yx (x4 + 2))))] [] M3 0 0) fun v8 M7 => yCi false (yX 106 0 [some (.ref 190)] [] M7 0 0) fun v10 M9 => if v10 = v4 then if v4 = 0 then if ((M9 202 0).toInt64) = v8.toInt64 then yX 240 23 [some (.ref 0), some (.ref 7), some (.ref 190), some (.ref 202), some (.int (x4 + 4)), some (.int v4), some (.int v8)] [] M9 (nc + 1) (ns + 6) else yI 0 M9 else yX 240 23 [some (.ref 0), some (.ref 7), some (.ref 190), some (.ref 202), some (.int (x4 + 4)), some (.int v4), some (.int v8)] [] M9 (nc + 1) (ns + 6) else yI 0 M9 else none else none else none else none) (yX 240 1594 [some (.ref 0), some (.ref 7), some (.ref 190), some (.ref 202), some (.int x4), o5, o6] [] M nc ns) := by
  refine yL.eq (y_aload_n (pc := 1594) (x := 7) d240_1594 rfl) ?_
  refine yL.eq (y_aload_n (pc := 1595) (x := 0) d240_1595 rfl) ?_
  refine yL.eq (y_iload (pc := 1596) (x := x4) d240_1596 rfl) ?_
  refine yL.eq (y_iconst (pc := 1598) (v := 1) d240_1598 kc_1) ?_
  refine yL.eq (y_iadd (pc := 1599) d240_1599) ?_
  refine yL.eq (y_iald0 (pc := 1600) d240_1600) ?_
  refine yL.gd (fun h1 => ?_)
  refine yL.eq (y_aload_n (pc := 1601) (x := 0) d240_1601 rfl) ?_
  refine yL.eq (y_iload (pc := 1602) (x := x4) d240_1602 rfl) ?_
  refine yL.eq (y_iconst (pc := 1604) (v := 2) d240_1604 kc_2) ?_
  refine yL.eq (y_iadd (pc := 1605) d240_1605) ?_
  refine yL.eq (y_iald0 (pc := 1606) d240_1606) ?_
  refine yL.gd (fun h2 => ?_)
  refine yL.eq (y_aload_n (pc := 1607) (x := 202) d240_1607 rfl) ?_
  refine y_calls_i (pc := 1608) (n := 4) (n' := 5) (nc' := nc + 1) (ns' := ns + 6) [.ref 7, .int (M 0 (yx (x4 + 1))), .int (M 0 (yx (x4 + 2))), .ref 202] [] false d240_1608 q240_189 rfl rfl rfl (Nat.le_of_ble_eq_true rfl) (Nat.le_of_ble_eq_true rfl) rfl (by decide +kernel) (y_rmc (c := 1) (s := 6) mcs_233 hn (by decide)) (fun v4 M3 => ?_)
  refine yL.eq (y_istore (pc := 1611) (ls' := [some (.ref 0), some (.ref 7), some (.ref 190), some (.ref 202), some (.int x4), some (.int v4), o6]) d240_1611 rfl rfl) ?_
  refine yL.eq (y_aload_n (pc := 1613) (x := 190) d240_1613 rfl) ?_
  refine yL.eq (y_aload_n (pc := 1614) (x := 0) d240_1614 rfl) ?_
  refine yL.eq (y_iload (pc := 1615) (x := x4) d240_1615 rfl) ?_
  refine yL.eq (y_iconst (pc := 1617) (v := 1) d240_1617 kc_1) ?_
  refine yL.eq (y_iadd (pc := 1618) d240_1618) ?_
  refine yL.eq (y_iald0 (pc := 1619) d240_1619) ?_
  refine yL.gd (fun h5 => ?_)
  refine yL.eq (y_aload_n (pc := 1620) (x := 0) d240_1620 rfl) ?_
  refine yL.eq (y_iload (pc := 1621) (x := x4) d240_1621 rfl) ?_
  refine yL.eq (y_iconst (pc := 1623) (v := 2) d240_1623 kc_2) ?_
  refine yL.eq (y_iadd (pc := 1624) d240_1624) ?_
  refine yL.eq (y_iald0 (pc := 1625) d240_1625) ?_
  refine yL.gd (fun h6 => ?_)
  refine y_callv_i (pc := 1626) (n := 3) (n' := 3) (nc' := nc + 1) (ns' := ns + 6) [.int (M3 0 (yx (x4 + 1))), .int (M3 0 (yx (x4 + 2)))] [] false d240_1626 q240_191 mk_196 s_t_190 rfl rfl (Nat.le_of_ble_eq_true rfl) (Nat.le_of_ble_eq_true rfl) rfl (by decide +kernel) (y_rmd (c := 1) (s := 6) mcs_196 hn (by decide)) (fun v8 M7 => ?_)
  refine yL.eq (y_istore (pc := 1629) (ls' := [some (.ref 0), some (.ref 7), some (.ref 190), some (.ref 202), some (.int x4), some (.int v4), some (.int v8)]) d240_1629 rfl rfl) ?_
  refine yL.eq (y_aload_n (pc := 1631) (x := 190) d240_1631 rfl) ?_
  refine y_callv_i (pc := 1632) (n := 1) (n' := 1) (nc' := nc + 1) (ns' := ns + 6) [] [] false d240_1632 q240_115 mk_106 s_t_190 rfl rfl (Nat.le_of_ble_eq_true rfl) (Nat.le_of_ble_eq_true rfl) rfl (by decide +kernel) (y_rmd (c := 1) (s := 6) mcs_106 hn (by decide)) (fun v10 M9 => ?_)
  refine yL.eq (y_iload (pc := 1635) (x := v4) d240_1635 rfl) ?_
  refine yL.eq (y_icmp_eq (pc := 1637) (t := 1642) d240_1637 (by decide)) ?_
  refine yL.ite (fun h11 => ?_) (fun h11 => ?_)
  ·
    refine yL.eq (y_iload (pc := 1642) (x := v4) d240_1642 rfl) ?_
    refine yL.eq (y_if_ne (pc := 1644) (t := 1659) d240_1644 (by decide)) ?_
    refine yL.ite (fun h12 => ?_) (fun h12 => ?_)
    ·
      refine yL.eq (y_aload_n (pc := 1647) (x := 202) d240_1647 rfl) ?_
      refine yL.eq (y_iconst (pc := 1648) (v := 0) d240_1648 kc_0) ?_
      refine yL.eq (y_lald (pc := 1649) d240_1649 s_21) ?_
      refine yL.eq (y_iload (pc := 1650) (x := v8) d240_1650 rfl) ?_
      refine yL.eq (y_i2l (pc := 1652) d240_1652) ?_
      refine yL.eq (y_lcmp (pc := 1653) d240_1653) ?_
      refine yL.eq (y_lif_eq (pc := 1654) (t := 1659) d240_1654 (by decide)) ?_
      refine yL.ite (fun h13 => ?_) (fun h13 => ?_)
      ·
        refine yL.eq (y_goto (pc := 1659) (t := 2111) d240_1659 (by decide)) ?_
        refine yL.eq (y_iinc (pc := 2111) (v := 4) (x := x4) (ls' := [some (.ref 0), some (.ref 7), some (.ref 190), some (.ref 202), some (.int (x4 + 4)), some (.int v4), some (.int v8)]) d240_2111 kc_4 rfl (Nat.le_of_ble_eq_true rfl) rfl) ?_
        refine yL.eq (y_goto (pc := 2114) (t := 23) d240_2114 (by decide)) ?_
        exact yL.rf
      ·
        refine yL.eq (y_iconst (pc := 1657) (v := 0) d240_1657 kc_0) ?_
        exact yL.eq (y_iretz (pc := 1658) d240_1658 mr_240) (yL.eq yZ_0 yL.rf)
    ·
      refine yL.eq (y_goto (pc := 1659) (t := 2111) d240_1659 (by decide)) ?_
      refine yL.eq (y_iinc (pc := 2111) (v := 4) (x := x4) (ls' := [some (.ref 0), some (.ref 7), some (.ref 190), some (.ref 202), some (.int (x4 + 4)), some (.int v4), some (.int v8)]) d240_2111 kc_4 rfl (Nat.le_of_ble_eq_true rfl) rfl) ?_
      refine yL.eq (y_goto (pc := 2114) (t := 23) d240_2114 (by decide)) ?_
      exact yL.rf
  ·
    refine yL.eq (y_iconst (pc := 1640) (v := 0) d240_1640 kc_0) ?_
    exact yL.eq (y_iretz (pc := 1641) d240_1641 mr_240) (yL.eq yZ_0 yL.rf)
set_option maxRecDepth 20000 in
set_option maxHeartbeats 4000000 in
theorem e240_1662 {x4 : Int32} {o5 : Option Value} {o6 : Option Value} {M : yM} {nc ns : Nat} (hn : nc + 4 ≤ 601024 ∧ ns + 24 ≤ 7293034) : yL (if yinB (x4 + 1) (ylen M) = true then yCi false (yX 234 0 [some (.ref 7), some (.int (M 0 (yx (x4 + 1)))), some (.ref 202), none] [] M 0 0) fun v3 M2 => if yinB (x4 + 1) (ylen M2) = true then yCi false (yX 197 0 [some (.ref 190), some (.int (M2 0 (yx (x4 + 1)))), none, none, none] [] M2 0 0) fun v6 M5 => yCi false (yX 106 0 [some (.ref 190)] [] M5 0 0) fun v8 M7 => if v8 = v3 then if v3 = 0 then if ((M7 202 0).toInt64) = v6.toInt64 then yX 240 23 [some (.ref 0), some (.ref 7), some (.ref 190), some (.ref 202), some (.int (x4 + 4)), some (.int v3), some (.int v6)] [] M7 (nc + 1) (ns + 6) else yI 0 M7 else yX 240 23 [some (.ref 0), some (.ref 7), some (.ref 190), some (.ref 202), some (.int (x4 + 4)), some (.int v3), some (.int v6)] [] M7 (nc + 1) (ns + 6) else yI 0 M7 else none else none) (yX 240 1662 [some (.ref 0), some (.ref 7), some (.ref 190), some (.ref 202), some (.int x4), o5, o6] [] M nc ns) := by
  refine yL.eq (y_aload_n (pc := 1662) (x := 7) d240_1662 rfl) ?_
  refine yL.eq (y_aload_n (pc := 1663) (x := 0) d240_1663 rfl) ?_
  refine yL.eq (y_iload (pc := 1664) (x := x4) d240_1664 rfl) ?_
  refine yL.eq (y_iconst (pc := 1666) (v := 1) d240_1666 kc_1) ?_
  refine yL.eq (y_iadd (pc := 1667) d240_1667) ?_
  refine yL.eq (y_iald0 (pc := 1668) d240_1668) ?_
  refine yL.gd (fun h1 => ?_)
  refine yL.eq (y_aload_n (pc := 1669) (x := 202) d240_1669 rfl) ?_
  refine y_calls_i (pc := 1670) (n := 3) (n' := 4) (nc' := nc + 1) (ns' := ns + 6) [.ref 7, .int (M 0 (yx (x4 + 1))), .ref 202] [] false d240_1670 q240_192 rfl rfl rfl (Nat.le_of_ble_eq_true rfl) (Nat.le_of_ble_eq_true rfl) rfl (by decide +kernel) (y_rmc (c := 1) (s := 6) mcs_234 hn (by decide)) (fun v3 M2 => ?_)
  refine yL.eq (y_istore (pc := 1673) (ls' := [some (.ref 0), some (.ref 7), some (.ref 190), some (.ref 202), some (.int x4), some (.int v3), o6]) d240_1673 rfl rfl) ?_
  refine yL.eq (y_aload_n (pc := 1675) (x := 190) d240_1675 rfl) ?_
  refine yL.eq (y_aload_n (pc := 1676) (x := 0) d240_1676 rfl) ?_
  refine yL.eq (y_iload (pc := 1677) (x := x4) d240_1677 rfl) ?_
  refine yL.eq (y_iconst (pc := 1679) (v := 1) d240_1679 kc_1) ?_
  refine yL.eq (y_iadd (pc := 1680) d240_1680) ?_
  refine yL.eq (y_iald0 (pc := 1681) d240_1681) ?_
  refine yL.gd (fun h4 => ?_)
  refine y_callv_i (pc := 1682) (n := 2) (n' := 5) (nc' := nc + 1) (ns' := ns + 6) [.int (M2 0 (yx (x4 + 1)))] [] false d240_1682 q240_194 mk_197 s_t_190 rfl rfl (Nat.le_of_ble_eq_true rfl) (Nat.le_of_ble_eq_true rfl) rfl (by decide +kernel) (y_rmd (c := 1) (s := 6) mcs_197 hn (by decide)) (fun v6 M5 => ?_)
  refine yL.eq (y_istore (pc := 1685) (ls' := [some (.ref 0), some (.ref 7), some (.ref 190), some (.ref 202), some (.int x4), some (.int v3), some (.int v6)]) d240_1685 rfl rfl) ?_
  refine yL.eq (y_aload_n (pc := 1687) (x := 190) d240_1687 rfl) ?_
  refine y_callv_i (pc := 1688) (n := 1) (n' := 1) (nc' := nc + 1) (ns' := ns + 6) [] [] false d240_1688 q240_115 mk_106 s_t_190 rfl rfl (Nat.le_of_ble_eq_true rfl) (Nat.le_of_ble_eq_true rfl) rfl (by decide +kernel) (y_rmd (c := 1) (s := 6) mcs_106 hn (by decide)) (fun v8 M7 => ?_)
  refine yL.eq (y_iload (pc := 1691) (x := v3) d240_1691 rfl) ?_
  refine yL.eq (y_icmp_eq (pc := 1693) (t := 1698) d240_1693 (by decide)) ?_
  refine yL.ite (fun h9 => ?_) (fun h9 => ?_)
  ·
    refine yL.eq (y_iload (pc := 1698) (x := v3) d240_1698 rfl) ?_
    refine yL.eq (y_if_ne (pc := 1700) (t := 1715) d240_1700 (by decide)) ?_
    refine yL.ite (fun h10 => ?_) (fun h10 => ?_)
    ·
      refine yL.eq (y_aload_n (pc := 1703) (x := 202) d240_1703 rfl) ?_
      refine yL.eq (y_iconst (pc := 1704) (v := 0) d240_1704 kc_0) ?_
      refine yL.eq (y_lald (pc := 1705) d240_1705 s_21) ?_
      refine yL.eq (y_iload (pc := 1706) (x := v6) d240_1706 rfl) ?_
      refine yL.eq (y_i2l (pc := 1708) d240_1708) ?_
      refine yL.eq (y_lcmp (pc := 1709) d240_1709) ?_
      refine yL.eq (y_lif_eq (pc := 1710) (t := 1715) d240_1710 (by decide)) ?_
      refine yL.ite (fun h11 => ?_) (fun h11 => ?_)
      ·
        refine yL.eq (y_goto (pc := 1715) (t := 2111) d240_1715 (by decide)) ?_
        refine yL.eq (y_iinc (pc := 2111) (v := 4) (x := x4) (ls' := [some (.ref 0), some (.ref 7), some (.ref 190), some (.ref 202), some (.int (x4 + 4)), some (.int v3), some (.int v6)]) d240_2111 kc_4 rfl (Nat.le_of_ble_eq_true rfl) rfl) ?_
        refine yL.eq (y_goto (pc := 2114) (t := 23) d240_2114 (by decide)) ?_
        exact yL.rf
      ·
        refine yL.eq (y_iconst (pc := 1713) (v := 0) d240_1713 kc_0) ?_
        exact yL.eq (y_iretz (pc := 1714) d240_1714 mr_240) (yL.eq yZ_0 yL.rf)
    ·
      refine yL.eq (y_goto (pc := 1715) (t := 2111) d240_1715 (by decide)) ?_
      refine yL.eq (y_iinc (pc := 2111) (v := 4) (x := x4) (ls' := [some (.ref 0), some (.ref 7), some (.ref 190), some (.ref 202), some (.int (x4 + 4)), some (.int v3), some (.int v6)]) d240_2111 kc_4 rfl (Nat.le_of_ble_eq_true rfl) rfl) ?_
      refine yL.eq (y_goto (pc := 2114) (t := 23) d240_2114 (by decide)) ?_
      exact yL.rf
  ·
    refine yL.eq (y_iconst (pc := 1696) (v := 0) d240_1696 kc_0) ?_
    exact yL.eq (y_iretz (pc := 1697) d240_1697 mr_240) (yL.eq yZ_0 yL.rf)
set_option maxRecDepth 20000 in
set_option maxHeartbeats 4000000 in
theorem e240_1718 {x4 : Int32} {o5 : Option Value} {o6 : Option Value} {M : yM} {nc ns : Nat} (hn : nc + 4 ≤ 601024 ∧ ns + 24 ≤ 7293034) : yL (yCi false (yX 83 0 [some (.ref 7), none, none, none, none, none, none, none] [] M 0 0) fun v2 M1 => yCi false (yX 198 0 [some (.ref 190), none, none, none, none, none, none, none] [] M1 0 0) fun v4 M3 => if v2 = v4 then yX 240 23 [some (.ref 0), some (.ref 7), some (.ref 190), some (.ref 202), some (.int (x4 + 4)), o5, o6] [] M3 nc ns else yI 0 M3) (yX 240 1718 [some (.ref 0), some (.ref 7), some (.ref 190), some (.ref 202), some (.int x4), o5, o6] [] M nc ns) := by
  refine yL.eq (y_aload_n (pc := 1718) (x := 7) d240_1718 rfl) ?_
  refine y_callv_i (pc := 1719) (n := 1) (n' := 8) (nc' := nc) (ns' := ns) [] [] false d240_1719 q240_195 mk_83 s_t_7 rfl rfl (Nat.le_of_ble_eq_true rfl) (Nat.le_of_ble_eq_true rfl) rfl (by decide +kernel) (y_rm0 mcs_83 hn) (fun v2 M1 => ?_)
  refine yL.eq (y_aload_n (pc := 1722) (x := 190) d240_1722 rfl) ?_
  refine y_callv_i (pc := 1723) (n := 1) (n' := 8) (nc' := nc) (ns' := ns) [] [.int v2] false d240_1723 q240_198 mk_198 s_t_190 rfl rfl (Nat.le_of_ble_eq_true rfl) (Nat.le_of_ble_eq_true rfl) rfl (by decide +kernel) (y_rm0 mcs_198 hn) (fun v4 M3 => ?_)
  refine yL.eq (y_icmp_eq (pc := 1726) (t := 2111) d240_1726 (by decide)) ?_
  refine yL.ite (fun h5 => ?_) (fun h5 => ?_)
  ·
    refine yL.eq (y_iinc (pc := 2111) (v := 4) (x := x4) (ls' := [some (.ref 0), some (.ref 7), some (.ref 190), some (.ref 202), some (.int (x4 + 4)), o5, o6]) d240_2111 kc_4 rfl (Nat.le_of_ble_eq_true rfl) rfl) ?_
    refine yL.eq (y_goto (pc := 2114) (t := 23) d240_2114 (by decide)) ?_
    exact yL.rf
  ·
    refine yL.eq (y_iconst (pc := 1729) (v := 0) d240_1729 kc_0) ?_
    exact yL.eq (y_iretz (pc := 1730) d240_1730 mr_240) (yL.eq yZ_0 yL.rf)
set_option maxRecDepth 20000 in
set_option maxHeartbeats 4000000 in
theorem e240_1731 {x4 : Int32} {o5 : Option Value} {o6 : Option Value} {M : yM} {nc ns : Nat} (hn : nc + 4 ≤ 601024 ∧ ns + 24 ≤ 7293034) : yL (if yinB (x4 + 1) (ylen M) = true then if yinB (x4 + 2) (ylen M) = true then yCi false (yX 235 0 [some (.ref 7), some (.int (M 0 (yx (x4 + 1)))), some (.int (M 0 (yx (x4 + 2)))), some (.ref 202), none] [] M 0 0) fun v4 M3 => if yinB (x4 + 1) (ylen M3) = true then if yinB (x4 + 2) (ylen M3) = true then yCi false (yX 199 0 [some (.ref 190), some (.int (M3 0 (yx (x4 + 1)))), some (.int (M3 0 (yx (x4 + 2)))), none, none, none, none, none] [] M3 0 0) fun v8 M7 => yCi false (yX 106 0 [some (.ref 190)] [] M7 0 0) fun v10 M9 => if v10 = v4 then if v4 = 0 then if ((M9 202 0).toInt64) = v8.toInt64 then yX 240 23 [some (.ref 0), some (.ref 7), some (.ref 190), some (.ref 202), some (.int (x4 + 4)), some (.int v4), some (.int v8)] [] M9 (nc + 1) (ns + 6) else yI 0 M9 else yX 240 23 [some (.ref 0), some (.ref 7), some (.ref 190), some (.ref 202), some (.int (x4 + 4)), some (.int v4), some (.int v8)] [] M9 (nc + 1) (ns + 6) else yI 0 M9 else none else none else none else none) (yX 240 1731 [some (.ref 0), some (.ref 7), some (.ref 190), some (.ref 202), some (.int x4), o5, o6] [] M nc ns) := by
  refine yL.eq (y_aload_n (pc := 1731) (x := 7) d240_1731 rfl) ?_
  refine yL.eq (y_aload_n (pc := 1732) (x := 0) d240_1732 rfl) ?_
  refine yL.eq (y_iload (pc := 1733) (x := x4) d240_1733 rfl) ?_
  refine yL.eq (y_iconst (pc := 1735) (v := 1) d240_1735 kc_1) ?_
  refine yL.eq (y_iadd (pc := 1736) d240_1736) ?_
  refine yL.eq (y_iald0 (pc := 1737) d240_1737) ?_
  refine yL.gd (fun h1 => ?_)
  refine yL.eq (y_aload_n (pc := 1738) (x := 0) d240_1738 rfl) ?_
  refine yL.eq (y_iload (pc := 1739) (x := x4) d240_1739 rfl) ?_
  refine yL.eq (y_iconst (pc := 1741) (v := 2) d240_1741 kc_2) ?_
  refine yL.eq (y_iadd (pc := 1742) d240_1742) ?_
  refine yL.eq (y_iald0 (pc := 1743) d240_1743) ?_
  refine yL.gd (fun h2 => ?_)
  refine yL.eq (y_aload_n (pc := 1744) (x := 202) d240_1744 rfl) ?_
  refine y_calls_i (pc := 1745) (n := 4) (n' := 5) (nc' := nc + 1) (ns' := ns + 6) [.ref 7, .int (M 0 (yx (x4 + 1))), .int (M 0 (yx (x4 + 2))), .ref 202] [] false d240_1745 q240_199 rfl rfl rfl (Nat.le_of_ble_eq_true rfl) (Nat.le_of_ble_eq_true rfl) rfl (by decide +kernel) (y_rmc (c := 1) (s := 6) mcs_235 hn (by decide)) (fun v4 M3 => ?_)
  refine yL.eq (y_istore (pc := 1748) (ls' := [some (.ref 0), some (.ref 7), some (.ref 190), some (.ref 202), some (.int x4), some (.int v4), o6]) d240_1748 rfl rfl) ?_
  refine yL.eq (y_aload_n (pc := 1750) (x := 190) d240_1750 rfl) ?_
  refine yL.eq (y_aload_n (pc := 1751) (x := 0) d240_1751 rfl) ?_
  refine yL.eq (y_iload (pc := 1752) (x := x4) d240_1752 rfl) ?_
  refine yL.eq (y_iconst (pc := 1754) (v := 1) d240_1754 kc_1) ?_
  refine yL.eq (y_iadd (pc := 1755) d240_1755) ?_
  refine yL.eq (y_iald0 (pc := 1756) d240_1756) ?_
  refine yL.gd (fun h5 => ?_)
  refine yL.eq (y_aload_n (pc := 1757) (x := 0) d240_1757 rfl) ?_
  refine yL.eq (y_iload (pc := 1758) (x := x4) d240_1758 rfl) ?_
  refine yL.eq (y_iconst (pc := 1760) (v := 2) d240_1760 kc_2) ?_
  refine yL.eq (y_iadd (pc := 1761) d240_1761) ?_
  refine yL.eq (y_iald0 (pc := 1762) d240_1762) ?_
  refine yL.gd (fun h6 => ?_)
  refine y_callv_i (pc := 1763) (n := 3) (n' := 8) (nc' := nc + 1) (ns' := ns + 6) [.int (M3 0 (yx (x4 + 1))), .int (M3 0 (yx (x4 + 2)))] [] false d240_1763 q240_201 mk_199 s_t_190 rfl rfl (Nat.le_of_ble_eq_true rfl) (Nat.le_of_ble_eq_true rfl) rfl (by decide +kernel) (y_rmd (c := 1) (s := 6) mcs_199 hn (by decide)) (fun v8 M7 => ?_)
  refine yL.eq (y_istore (pc := 1766) (ls' := [some (.ref 0), some (.ref 7), some (.ref 190), some (.ref 202), some (.int x4), some (.int v4), some (.int v8)]) d240_1766 rfl rfl) ?_
  refine yL.eq (y_aload_n (pc := 1768) (x := 190) d240_1768 rfl) ?_
  refine y_callv_i (pc := 1769) (n := 1) (n' := 1) (nc' := nc + 1) (ns' := ns + 6) [] [] false d240_1769 q240_115 mk_106 s_t_190 rfl rfl (Nat.le_of_ble_eq_true rfl) (Nat.le_of_ble_eq_true rfl) rfl (by decide +kernel) (y_rmd (c := 1) (s := 6) mcs_106 hn (by decide)) (fun v10 M9 => ?_)
  refine yL.eq (y_iload (pc := 1772) (x := v4) d240_1772 rfl) ?_
  refine yL.eq (y_icmp_eq (pc := 1774) (t := 1779) d240_1774 (by decide)) ?_
  refine yL.ite (fun h11 => ?_) (fun h11 => ?_)
  ·
    refine yL.eq (y_iload (pc := 1779) (x := v4) d240_1779 rfl) ?_
    refine yL.eq (y_if_ne (pc := 1781) (t := 1796) d240_1781 (by decide)) ?_
    refine yL.ite (fun h12 => ?_) (fun h12 => ?_)
    ·
      refine yL.eq (y_aload_n (pc := 1784) (x := 202) d240_1784 rfl) ?_
      refine yL.eq (y_iconst (pc := 1785) (v := 0) d240_1785 kc_0) ?_
      refine yL.eq (y_lald (pc := 1786) d240_1786 s_21) ?_
      refine yL.eq (y_iload (pc := 1787) (x := v8) d240_1787 rfl) ?_
      refine yL.eq (y_i2l (pc := 1789) d240_1789) ?_
      refine yL.eq (y_lcmp (pc := 1790) d240_1790) ?_
      refine yL.eq (y_lif_eq (pc := 1791) (t := 1796) d240_1791 (by decide)) ?_
      refine yL.ite (fun h13 => ?_) (fun h13 => ?_)
      ·
        refine yL.eq (y_goto (pc := 1796) (t := 2111) d240_1796 (by decide)) ?_
        refine yL.eq (y_iinc (pc := 2111) (v := 4) (x := x4) (ls' := [some (.ref 0), some (.ref 7), some (.ref 190), some (.ref 202), some (.int (x4 + 4)), some (.int v4), some (.int v8)]) d240_2111 kc_4 rfl (Nat.le_of_ble_eq_true rfl) rfl) ?_
        refine yL.eq (y_goto (pc := 2114) (t := 23) d240_2114 (by decide)) ?_
        exact yL.rf
      ·
        refine yL.eq (y_iconst (pc := 1794) (v := 0) d240_1794 kc_0) ?_
        exact yL.eq (y_iretz (pc := 1795) d240_1795 mr_240) (yL.eq yZ_0 yL.rf)
    ·
      refine yL.eq (y_goto (pc := 1796) (t := 2111) d240_1796 (by decide)) ?_
      refine yL.eq (y_iinc (pc := 2111) (v := 4) (x := x4) (ls' := [some (.ref 0), some (.ref 7), some (.ref 190), some (.ref 202), some (.int (x4 + 4)), some (.int v4), some (.int v8)]) d240_2111 kc_4 rfl (Nat.le_of_ble_eq_true rfl) rfl) ?_
      refine yL.eq (y_goto (pc := 2114) (t := 23) d240_2114 (by decide)) ?_
      exact yL.rf
  ·
    refine yL.eq (y_iconst (pc := 1777) (v := 0) d240_1777 kc_0) ?_
    exact yL.eq (y_iretz (pc := 1778) d240_1778 mr_240) (yL.eq yZ_0 yL.rf)
set_option maxRecDepth 20000 in
set_option maxHeartbeats 4000000 in
theorem e240_1799 {x4 : Int32} {o5 : Option Value} {o6 : Option Value} {M : yM} {nc ns : Nat} (hn : nc + 4 ≤ 601024 ∧ ns + 24 ≤ 7293034) : yL (if yinB (x4 + 1) (ylen M) = true then if yinB (x4 + 2) (ylen M) = true then if yinB (x4 + 3) (ylen M) = true then yCi false (yX 236 0 [some (.ref 7), some (.int (M 0 (yx (x4 + 1)))), some (.long ((((M 0 (yx (x4 + 2))).toInt64) <<< ((32 : Int32).toInt64 &&& 63)) ||| (((M 0 (yx (x4 + 3))).toInt64) &&& 4294967295))), none, some (.ref 202), none] [] M 0 0) fun v5 M4 => if yinB (x4 + 1) (ylen M4) = true then if yinB (x4 + 2) (ylen M4) = true then if yinB (x4 + 3) (ylen M4) = true then yCi false (yX 207 0 [some (.ref 190), some (.int (M4 0 (yx (x4 + 1)))), some (.long ((((M4 0 (yx (x4 + 2))).toInt64) <<< ((32 : Int32).toInt64 &&& 63)) ||| (((M4 0 (yx (x4 + 3))).toInt64) &&& 4294967295))), none, none] [] M4 0 0) fun v10 M9 => yCi false (yX 106 0 [some (.ref 190)] [] M9 0 0) fun v12 M11 => if v12 = v5 then if v5 = 0 then if ((M11 202 0).toInt64) = v10.toInt64 then yX 240 23 [some (.ref 0), some (.ref 7), some (.ref 190), some (.ref 202), some (.int (x4 + 4)), some (.int v5), some (.int v10)] [] M11 (nc + 2) (ns + 12) else yI 0 M11 else yX 240 23 [some (.ref 0), some (.ref 7), some (.ref 190), some (.ref 202), some (.int (x4 + 4)), some (.int v5), some (.int v10)] [] M11 (nc + 2) (ns + 12) else yI 0 M11 else none else none else none else none else none else none) (yX 240 1799 [some (.ref 0), some (.ref 7), some (.ref 190), some (.ref 202), some (.int x4), o5, o6] [] M nc ns) := by
  refine yL.eq (y_aload_n (pc := 1799) (x := 7) d240_1799 rfl) ?_
  refine yL.eq (y_aload_n (pc := 1800) (x := 0) d240_1800 rfl) ?_
  refine yL.eq (y_iload (pc := 1801) (x := x4) d240_1801 rfl) ?_
  refine yL.eq (y_iconst (pc := 1803) (v := 1) d240_1803 kc_1) ?_
  refine yL.eq (y_iadd (pc := 1804) d240_1804) ?_
  refine yL.eq (y_iald0 (pc := 1805) d240_1805) ?_
  refine yL.gd (fun h1 => ?_)
  refine yL.eq (y_aload_n (pc := 1806) (x := 0) d240_1806 rfl) ?_
  refine yL.eq (y_iload (pc := 1807) (x := x4) d240_1807 rfl) ?_
  refine yL.eq (y_iconst (pc := 1809) (v := 2) d240_1809 kc_2) ?_
  refine yL.eq (y_iadd (pc := 1810) d240_1810) ?_
  refine yL.eq (y_iald0 (pc := 1811) d240_1811) ?_
  refine yL.gd (fun h2 => ?_)
  refine yL.eq (y_i2l (pc := 1812) d240_1812) ?_
  refine yL.eq (y_bipush (pc := 1813) (v := 32) d240_1813 kb_32) ?_
  refine yL.eq (y_lshl (pc := 1815) d240_1815) ?_
  refine yL.eq (y_aload_n (pc := 1816) (x := 0) d240_1816 rfl) ?_
  refine yL.eq (y_iload (pc := 1817) (x := x4) d240_1817 rfl) ?_
  refine yL.eq (y_iconst (pc := 1819) (v := 3) d240_1819 kc_3) ?_
  refine yL.eq (y_iadd (pc := 1820) d240_1820) ?_
  refine yL.eq (y_iald0 (pc := 1821) d240_1821) ?_
  refine yL.gd (fun h3 => ?_)
  refine yL.eq (y_i2l (pc := 1822) d240_1822) ?_
  refine yL.eq (y_ldc2_w (pc := 1823) (v := 4294967295) d240_1823 q240_202) ?_
  refine yL.eq (y_land (pc := 1826) d240_1826) ?_
  refine yL.eq (y_lor (pc := 1827) d240_1827) ?_
  refine yL.eq (y_aload_n (pc := 1828) (x := 202) d240_1828 rfl) ?_
  refine y_calls_i (pc := 1829) (n := 4) (n' := 6) (nc' := nc + 2) (ns' := ns + 12) [.ref 7, .int (M 0 (yx (x4 + 1))), .long ((((M 0 (yx (x4 + 2))).toInt64) <<< ((32 : Int32).toInt64 &&& 63)) ||| (((M 0 (yx (x4 + 3))).toInt64) &&& 4294967295)), .ref 202] [] false d240_1829 q240_204 rfl rfl rfl (Nat.le_of_ble_eq_true rfl) (Nat.le_of_ble_eq_true rfl) rfl (by decide +kernel) (y_rmc (c := 2) (s := 12) mcs_236 hn (by decide)) (fun v5 M4 => ?_)
  refine yL.eq (y_istore (pc := 1832) (ls' := [some (.ref 0), some (.ref 7), some (.ref 190), some (.ref 202), some (.int x4), some (.int v5), o6]) d240_1832 rfl rfl) ?_
  refine yL.eq (y_aload_n (pc := 1834) (x := 190) d240_1834 rfl) ?_
  refine yL.eq (y_aload_n (pc := 1835) (x := 0) d240_1835 rfl) ?_
  refine yL.eq (y_iload (pc := 1836) (x := x4) d240_1836 rfl) ?_
  refine yL.eq (y_iconst (pc := 1838) (v := 1) d240_1838 kc_1) ?_
  refine yL.eq (y_iadd (pc := 1839) d240_1839) ?_
  refine yL.eq (y_iald0 (pc := 1840) d240_1840) ?_
  refine yL.gd (fun h6 => ?_)
  refine yL.eq (y_aload_n (pc := 1841) (x := 0) d240_1841 rfl) ?_
  refine yL.eq (y_iload (pc := 1842) (x := x4) d240_1842 rfl) ?_
  refine yL.eq (y_iconst (pc := 1844) (v := 2) d240_1844 kc_2) ?_
  refine yL.eq (y_iadd (pc := 1845) d240_1845) ?_
  refine yL.eq (y_iald0 (pc := 1846) d240_1846) ?_
  refine yL.gd (fun h7 => ?_)
  refine yL.eq (y_i2l (pc := 1847) d240_1847) ?_
  refine yL.eq (y_bipush (pc := 1848) (v := 32) d240_1848 kb_32) ?_
  refine yL.eq (y_lshl (pc := 1850) d240_1850) ?_
  refine yL.eq (y_aload_n (pc := 1851) (x := 0) d240_1851 rfl) ?_
  refine yL.eq (y_iload (pc := 1852) (x := x4) d240_1852 rfl) ?_
  refine yL.eq (y_iconst (pc := 1854) (v := 3) d240_1854 kc_3) ?_
  refine yL.eq (y_iadd (pc := 1855) d240_1855) ?_
  refine yL.eq (y_iald0 (pc := 1856) d240_1856) ?_
  refine yL.gd (fun h8 => ?_)
  refine yL.eq (y_i2l (pc := 1857) d240_1857) ?_
  refine yL.eq (y_ldc2_w (pc := 1858) (v := 4294967295) d240_1858 q240_202) ?_
  refine yL.eq (y_land (pc := 1861) d240_1861) ?_
  refine yL.eq (y_lor (pc := 1862) d240_1862) ?_
  refine y_callv_i (pc := 1863) (n := 3) (n' := 5) (nc' := nc + 2) (ns' := ns + 12) [.int (M4 0 (yx (x4 + 1))), .long ((((M4 0 (yx (x4 + 2))).toInt64) <<< ((32 : Int32).toInt64 &&& 63)) ||| (((M4 0 (yx (x4 + 3))).toInt64) &&& 4294967295))] [] false d240_1863 q240_207 mk_207 s_t_190 rfl rfl (Nat.le_of_ble_eq_true rfl) (Nat.le_of_ble_eq_true rfl) rfl (by decide +kernel) (y_rmd (c := 2) (s := 12) mcs_207 hn (by decide)) (fun v10 M9 => ?_)
  refine yL.eq (y_istore (pc := 1866) (ls' := [some (.ref 0), some (.ref 7), some (.ref 190), some (.ref 202), some (.int x4), some (.int v5), some (.int v10)]) d240_1866 rfl rfl) ?_
  refine yL.eq (y_aload_n (pc := 1868) (x := 190) d240_1868 rfl) ?_
  refine y_callv_i (pc := 1869) (n := 1) (n' := 1) (nc' := nc + 2) (ns' := ns + 12) [] [] false d240_1869 q240_115 mk_106 s_t_190 rfl rfl (Nat.le_of_ble_eq_true rfl) (Nat.le_of_ble_eq_true rfl) rfl (by decide +kernel) (y_rmd (c := 2) (s := 12) mcs_106 hn (by decide)) (fun v12 M11 => ?_)
  refine yL.eq (y_iload (pc := 1872) (x := v5) d240_1872 rfl) ?_
  refine yL.eq (y_icmp_eq (pc := 1874) (t := 1879) d240_1874 (by decide)) ?_
  refine yL.ite (fun h13 => ?_) (fun h13 => ?_)
  ·
    refine yL.eq (y_iload (pc := 1879) (x := v5) d240_1879 rfl) ?_
    refine yL.eq (y_if_ne (pc := 1881) (t := 1896) d240_1881 (by decide)) ?_
    refine yL.ite (fun h14 => ?_) (fun h14 => ?_)
    ·
      refine yL.eq (y_aload_n (pc := 1884) (x := 202) d240_1884 rfl) ?_
      refine yL.eq (y_iconst (pc := 1885) (v := 0) d240_1885 kc_0) ?_
      refine yL.eq (y_lald (pc := 1886) d240_1886 s_21) ?_
      refine yL.eq (y_iload (pc := 1887) (x := v10) d240_1887 rfl) ?_
      refine yL.eq (y_i2l (pc := 1889) d240_1889) ?_
      refine yL.eq (y_lcmp (pc := 1890) d240_1890) ?_
      refine yL.eq (y_lif_eq (pc := 1891) (t := 1896) d240_1891 (by decide)) ?_
      refine yL.ite (fun h15 => ?_) (fun h15 => ?_)
      ·
        refine yL.eq (y_goto (pc := 1896) (t := 2111) d240_1896 (by decide)) ?_
        refine yL.eq (y_iinc (pc := 2111) (v := 4) (x := x4) (ls' := [some (.ref 0), some (.ref 7), some (.ref 190), some (.ref 202), some (.int (x4 + 4)), some (.int v5), some (.int v10)]) d240_2111 kc_4 rfl (Nat.le_of_ble_eq_true rfl) rfl) ?_
        refine yL.eq (y_goto (pc := 2114) (t := 23) d240_2114 (by decide)) ?_
        exact yL.rf
      ·
        refine yL.eq (y_iconst (pc := 1894) (v := 0) d240_1894 kc_0) ?_
        exact yL.eq (y_iretz (pc := 1895) d240_1895 mr_240) (yL.eq yZ_0 yL.rf)
    ·
      refine yL.eq (y_goto (pc := 1896) (t := 2111) d240_1896 (by decide)) ?_
      refine yL.eq (y_iinc (pc := 2111) (v := 4) (x := x4) (ls' := [some (.ref 0), some (.ref 7), some (.ref 190), some (.ref 202), some (.int (x4 + 4)), some (.int v5), some (.int v10)]) d240_2111 kc_4 rfl (Nat.le_of_ble_eq_true rfl) rfl) ?_
      refine yL.eq (y_goto (pc := 2114) (t := 23) d240_2114 (by decide)) ?_
      exact yL.rf
  ·
    refine yL.eq (y_iconst (pc := 1877) (v := 0) d240_1877 kc_0) ?_
    exact yL.eq (y_iretz (pc := 1878) d240_1878 mr_240) (yL.eq yZ_0 yL.rf)
set_option maxRecDepth 20000 in
set_option maxHeartbeats 4000000 in
theorem e240_1899 {x4 : Int32} {o5 : Option Value} {o6 : Option Value} {M : yM} {nc ns : Nat} (hn : nc + 4 ≤ 601024 ∧ ns + 24 ≤ 7293034) : yL (if yinB (x4 + 1) (ylen M) = true then if yinB (x4 + 2) (ylen M) = true then if yinB (x4 + 3) (ylen M) = true then yCi false (yX 237 0 [some (.ref 7), some (.long ((((M 0 (yx (x4 + 1))).toInt64) <<< ((32 : Int32).toInt64 &&& 63)) ||| (((M 0 (yx (x4 + 2))).toInt64) &&& 4294967295))), none, some (.int (M 0 (yx (x4 + 3)))), some (.ref 202), none] [] M 0 0) fun v5 M4 => if yinB (x4 + 1) (ylen M4) = true then if yinB (x4 + 2) (ylen M4) = true then if yinB (x4 + 3) (ylen M4) = true then yCi false (yX 209 0 [some (.ref 190), some (.long ((((M4 0 (yx (x4 + 1))).toInt64) <<< ((32 : Int32).toInt64 &&& 63)) ||| (((M4 0 (yx (x4 + 2))).toInt64) &&& 4294967295))), none, some (.int (M4 0 (yx (x4 + 3)))), none, none, none] [] M4 0 0) fun v10 M9 => yCi false (yX 106 0 [some (.ref 190)] [] M9 0 0) fun v12 M11 => if v12 = v5 then if v5 = 0 then if ((M11 202 0).toInt64) = v10.toInt64 then yX 240 23 [some (.ref 0), some (.ref 7), some (.ref 190), some (.ref 202), some (.int (x4 + 4)), some (.int v5), some (.int v10)] [] M11 (nc + 1) (ns + 6) else yI 0 M11 else yX 240 23 [some (.ref 0), some (.ref 7), some (.ref 190), some (.ref 202), some (.int (x4 + 4)), some (.int v5), some (.int v10)] [] M11 (nc + 1) (ns + 6) else yI 0 M11 else none else none else none else none else none else none) (yX 240 1899 [some (.ref 0), some (.ref 7), some (.ref 190), some (.ref 202), some (.int x4), o5, o6] [] M nc ns) := by
  refine yL.eq (y_aload_n (pc := 1899) (x := 7) d240_1899 rfl) ?_
  refine yL.eq (y_aload_n (pc := 1900) (x := 0) d240_1900 rfl) ?_
  refine yL.eq (y_iload (pc := 1901) (x := x4) d240_1901 rfl) ?_
  refine yL.eq (y_iconst (pc := 1903) (v := 1) d240_1903 kc_1) ?_
  refine yL.eq (y_iadd (pc := 1904) d240_1904) ?_
  refine yL.eq (y_iald0 (pc := 1905) d240_1905) ?_
  refine yL.gd (fun h1 => ?_)
  refine yL.eq (y_i2l (pc := 1906) d240_1906) ?_
  refine yL.eq (y_bipush (pc := 1907) (v := 32) d240_1907 kb_32) ?_
  refine yL.eq (y_lshl (pc := 1909) d240_1909) ?_
  refine yL.eq (y_aload_n (pc := 1910) (x := 0) d240_1910 rfl) ?_
  refine yL.eq (y_iload (pc := 1911) (x := x4) d240_1911 rfl) ?_
  refine yL.eq (y_iconst (pc := 1913) (v := 2) d240_1913 kc_2) ?_
  refine yL.eq (y_iadd (pc := 1914) d240_1914) ?_
  refine yL.eq (y_iald0 (pc := 1915) d240_1915) ?_
  refine yL.gd (fun h2 => ?_)
  refine yL.eq (y_i2l (pc := 1916) d240_1916) ?_
  refine yL.eq (y_ldc2_w (pc := 1917) (v := 4294967295) d240_1917 q240_202) ?_
  refine yL.eq (y_land (pc := 1920) d240_1920) ?_
  refine yL.eq (y_lor (pc := 1921) d240_1921) ?_
  refine yL.eq (y_aload_n (pc := 1922) (x := 0) d240_1922 rfl) ?_
  refine yL.eq (y_iload (pc := 1923) (x := x4) d240_1923 rfl) ?_
  refine yL.eq (y_iconst (pc := 1925) (v := 3) d240_1925 kc_3) ?_
  refine yL.eq (y_iadd (pc := 1926) d240_1926) ?_
  refine yL.eq (y_iald0 (pc := 1927) d240_1927) ?_
  refine yL.gd (fun h3 => ?_)
  refine yL.eq (y_aload_n (pc := 1928) (x := 202) d240_1928 rfl) ?_
  refine y_calls_i (pc := 1929) (n := 4) (n' := 6) (nc' := nc + 1) (ns' := ns + 6) [.ref 7, .long ((((M 0 (yx (x4 + 1))).toInt64) <<< ((32 : Int32).toInt64 &&& 63)) ||| (((M 0 (yx (x4 + 2))).toInt64) &&& 4294967295)), .int (M 0 (yx (x4 + 3))), .ref 202] [] false d240_1929 q240_208 rfl rfl rfl (Nat.le_of_ble_eq_true rfl) (Nat.le_of_ble_eq_true rfl) rfl (by decide +kernel) (y_rmc (c := 1) (s := 6) mcs_237 hn (by decide)) (fun v5 M4 => ?_)
  refine yL.eq (y_istore (pc := 1932) (ls' := [some (.ref 0), some (.ref 7), some (.ref 190), some (.ref 202), some (.int x4), some (.int v5), o6]) d240_1932 rfl rfl) ?_
  refine yL.eq (y_aload_n (pc := 1934) (x := 190) d240_1934 rfl) ?_
  refine yL.eq (y_aload_n (pc := 1935) (x := 0) d240_1935 rfl) ?_
  refine yL.eq (y_iload (pc := 1936) (x := x4) d240_1936 rfl) ?_
  refine yL.eq (y_iconst (pc := 1938) (v := 1) d240_1938 kc_1) ?_
  refine yL.eq (y_iadd (pc := 1939) d240_1939) ?_
  refine yL.eq (y_iald0 (pc := 1940) d240_1940) ?_
  refine yL.gd (fun h6 => ?_)
  refine yL.eq (y_i2l (pc := 1941) d240_1941) ?_
  refine yL.eq (y_bipush (pc := 1942) (v := 32) d240_1942 kb_32) ?_
  refine yL.eq (y_lshl (pc := 1944) d240_1944) ?_
  refine yL.eq (y_aload_n (pc := 1945) (x := 0) d240_1945 rfl) ?_
  refine yL.eq (y_iload (pc := 1946) (x := x4) d240_1946 rfl) ?_
  refine yL.eq (y_iconst (pc := 1948) (v := 2) d240_1948 kc_2) ?_
  refine yL.eq (y_iadd (pc := 1949) d240_1949) ?_
  refine yL.eq (y_iald0 (pc := 1950) d240_1950) ?_
  refine yL.gd (fun h7 => ?_)
  refine yL.eq (y_i2l (pc := 1951) d240_1951) ?_
  refine yL.eq (y_ldc2_w (pc := 1952) (v := 4294967295) d240_1952 q240_202) ?_
  refine yL.eq (y_land (pc := 1955) d240_1955) ?_
  refine yL.eq (y_lor (pc := 1956) d240_1956) ?_
  refine yL.eq (y_aload_n (pc := 1957) (x := 0) d240_1957 rfl) ?_
  refine yL.eq (y_iload (pc := 1958) (x := x4) d240_1958 rfl) ?_
  refine yL.eq (y_iconst (pc := 1960) (v := 3) d240_1960 kc_3) ?_
  refine yL.eq (y_iadd (pc := 1961) d240_1961) ?_
  refine yL.eq (y_iald0 (pc := 1962) d240_1962) ?_
  refine yL.gd (fun h8 => ?_)
  refine y_callv_i (pc := 1963) (n := 3) (n' := 7) (nc' := nc + 1) (ns' := ns + 6) [.long ((((M4 0 (yx (x4 + 1))).toInt64) <<< ((32 : Int32).toInt64 &&& 63)) ||| (((M4 0 (yx (x4 + 2))).toInt64) &&& 4294967295)), .int (M4 0 (yx (x4 + 3)))] [] false d240_1963 q240_211 mk_209 s_t_190 rfl rfl (Nat.le_of_ble_eq_true rfl) (Nat.le_of_ble_eq_true rfl) rfl (by decide +kernel) (y_rmd (c := 1) (s := 6) mcs_209 hn (by decide)) (fun v10 M9 => ?_)
  refine yL.eq (y_istore (pc := 1966) (ls' := [some (.ref 0), some (.ref 7), some (.ref 190), some (.ref 202), some (.int x4), some (.int v5), some (.int v10)]) d240_1966 rfl rfl) ?_
  refine yL.eq (y_aload_n (pc := 1968) (x := 190) d240_1968 rfl) ?_
  refine y_callv_i (pc := 1969) (n := 1) (n' := 1) (nc' := nc + 1) (ns' := ns + 6) [] [] false d240_1969 q240_115 mk_106 s_t_190 rfl rfl (Nat.le_of_ble_eq_true rfl) (Nat.le_of_ble_eq_true rfl) rfl (by decide +kernel) (y_rmd (c := 1) (s := 6) mcs_106 hn (by decide)) (fun v12 M11 => ?_)
  refine yL.eq (y_iload (pc := 1972) (x := v5) d240_1972 rfl) ?_
  refine yL.eq (y_icmp_eq (pc := 1974) (t := 1979) d240_1974 (by decide)) ?_
  refine yL.ite (fun h13 => ?_) (fun h13 => ?_)
  ·
    refine yL.eq (y_iload (pc := 1979) (x := v5) d240_1979 rfl) ?_
    refine yL.eq (y_if_ne (pc := 1981) (t := 1996) d240_1981 (by decide)) ?_
    refine yL.ite (fun h14 => ?_) (fun h14 => ?_)
    ·
      refine yL.eq (y_aload_n (pc := 1984) (x := 202) d240_1984 rfl) ?_
      refine yL.eq (y_iconst (pc := 1985) (v := 0) d240_1985 kc_0) ?_
      refine yL.eq (y_lald (pc := 1986) d240_1986 s_21) ?_
      refine yL.eq (y_iload (pc := 1987) (x := v10) d240_1987 rfl) ?_
      refine yL.eq (y_i2l (pc := 1989) d240_1989) ?_
      refine yL.eq (y_lcmp (pc := 1990) d240_1990) ?_
      refine yL.eq (y_lif_eq (pc := 1991) (t := 1996) d240_1991 (by decide)) ?_
      refine yL.ite (fun h15 => ?_) (fun h15 => ?_)
      ·
        refine yL.eq (y_goto (pc := 1996) (t := 2111) d240_1996 (by decide)) ?_
        refine yL.eq (y_iinc (pc := 2111) (v := 4) (x := x4) (ls' := [some (.ref 0), some (.ref 7), some (.ref 190), some (.ref 202), some (.int (x4 + 4)), some (.int v5), some (.int v10)]) d240_2111 kc_4 rfl (Nat.le_of_ble_eq_true rfl) rfl) ?_
        refine yL.eq (y_goto (pc := 2114) (t := 23) d240_2114 (by decide)) ?_
        exact yL.rf
      ·
        refine yL.eq (y_iconst (pc := 1994) (v := 0) d240_1994 kc_0) ?_
        exact yL.eq (y_iretz (pc := 1995) d240_1995 mr_240) (yL.eq yZ_0 yL.rf)
    ·
      refine yL.eq (y_goto (pc := 1996) (t := 2111) d240_1996 (by decide)) ?_
      refine yL.eq (y_iinc (pc := 2111) (v := 4) (x := x4) (ls' := [some (.ref 0), some (.ref 7), some (.ref 190), some (.ref 202), some (.int (x4 + 4)), some (.int v5), some (.int v10)]) d240_2111 kc_4 rfl (Nat.le_of_ble_eq_true rfl) rfl) ?_
      refine yL.eq (y_goto (pc := 2114) (t := 23) d240_2114 (by decide)) ?_
      exact yL.rf
  ·
    refine yL.eq (y_iconst (pc := 1977) (v := 0) d240_1977 kc_0) ?_
    exact yL.eq (y_iretz (pc := 1978) d240_1978 mr_240) (yL.eq yZ_0 yL.rf)
set_option maxRecDepth 20000 in
set_option maxHeartbeats 4000000 in
theorem e240_1999 {x4 : Int32} {o5 : Option Value} {o6 : Option Value} {M : yM} {nc ns : Nat} (hn : nc + 4 ≤ 601024 ∧ ns + 24 ≤ 7293034) : yL (if yinB (x4 + 1) (ylen M) = true then yCi false (yX 238 0 [some (.ref 7), some (.int (M 0 (yx (x4 + 1)))), some (.ref 202), none] [] M 0 0) fun v3 M2 => if yinB (x4 + 1) (ylen M2) = true then yCi false (yX 210 0 [some (.ref 190), some (.int (M2 0 (yx (x4 + 1)))), none] [] M2 0 0) fun v6 M5 => yCi false (yX 106 0 [some (.ref 190)] [] M5 0 0) fun v8 M7 => if v8 = v3 then if v3 = 0 then if ((M7 202 0).toInt64) = v6.toInt64 then yX 240 23 [some (.ref 0), some (.ref 7), some (.ref 190), some (.ref 202), some (.int (x4 + 4)), some (.int v3), some (.int v6)] [] M7 (nc + 1) (ns + 6) else yI 0 M7 else yX 240 23 [some (.ref 0), some (.ref 7), some (.ref 190), some (.ref 202), some (.int (x4 + 4)), some (.int v3), some (.int v6)] [] M7 (nc + 1) (ns + 6) else yI 0 M7 else none else none) (yX 240 1999 [some (.ref 0), some (.ref 7), some (.ref 190), some (.ref 202), some (.int x4), o5, o6] [] M nc ns) := by
  refine yL.eq (y_aload_n (pc := 1999) (x := 7) d240_1999 rfl) ?_
  refine yL.eq (y_aload_n (pc := 2000) (x := 0) d240_2000 rfl) ?_
  refine yL.eq (y_iload (pc := 2001) (x := x4) d240_2001 rfl) ?_
  refine yL.eq (y_iconst (pc := 2003) (v := 1) d240_2003 kc_1) ?_
  refine yL.eq (y_iadd (pc := 2004) d240_2004) ?_
  refine yL.eq (y_iald0 (pc := 2005) d240_2005) ?_
  refine yL.gd (fun h1 => ?_)
  refine yL.eq (y_aload_n (pc := 2006) (x := 202) d240_2006 rfl) ?_
  refine y_calls_i (pc := 2007) (n := 3) (n' := 4) (nc' := nc + 1) (ns' := ns + 6) [.ref 7, .int (M 0 (yx (x4 + 1))), .ref 202] [] false d240_2007 q240_212 rfl rfl rfl (Nat.le_of_ble_eq_true rfl) (Nat.le_of_ble_eq_true rfl) rfl (by decide +kernel) (y_rmc (c := 1) (s := 6) mcs_238 hn (by decide)) (fun v3 M2 => ?_)
  refine yL.eq (y_istore (pc := 2010) (ls' := [some (.ref 0), some (.ref 7), some (.ref 190), some (.ref 202), some (.int x4), some (.int v3), o6]) d240_2010 rfl rfl) ?_
  refine yL.eq (y_aload_n (pc := 2012) (x := 190) d240_2012 rfl) ?_
  refine yL.eq (y_aload_n (pc := 2013) (x := 0) d240_2013 rfl) ?_
  refine yL.eq (y_iload (pc := 2014) (x := x4) d240_2014 rfl) ?_
  refine yL.eq (y_iconst (pc := 2016) (v := 1) d240_2016 kc_1) ?_
  refine yL.eq (y_iadd (pc := 2017) d240_2017) ?_
  refine yL.eq (y_iald0 (pc := 2018) d240_2018) ?_
  refine yL.gd (fun h4 => ?_)
  refine y_callv_i (pc := 2019) (n := 2) (n' := 3) (nc' := nc + 1) (ns' := ns + 6) [.int (M2 0 (yx (x4 + 1)))] [] false d240_2019 q240_214 mk_210 s_t_190 rfl rfl (Nat.le_of_ble_eq_true rfl) (Nat.le_of_ble_eq_true rfl) rfl (by decide +kernel) (y_rmd (c := 1) (s := 6) mcs_210 hn (by decide)) (fun v6 M5 => ?_)
  refine yL.eq (y_istore (pc := 2022) (ls' := [some (.ref 0), some (.ref 7), some (.ref 190), some (.ref 202), some (.int x4), some (.int v3), some (.int v6)]) d240_2022 rfl rfl) ?_
  refine yL.eq (y_aload_n (pc := 2024) (x := 190) d240_2024 rfl) ?_
  refine y_callv_i (pc := 2025) (n := 1) (n' := 1) (nc' := nc + 1) (ns' := ns + 6) [] [] false d240_2025 q240_115 mk_106 s_t_190 rfl rfl (Nat.le_of_ble_eq_true rfl) (Nat.le_of_ble_eq_true rfl) rfl (by decide +kernel) (y_rmd (c := 1) (s := 6) mcs_106 hn (by decide)) (fun v8 M7 => ?_)
  refine yL.eq (y_iload (pc := 2028) (x := v3) d240_2028 rfl) ?_
  refine yL.eq (y_icmp_eq (pc := 2030) (t := 2035) d240_2030 (by decide)) ?_
  refine yL.ite (fun h9 => ?_) (fun h9 => ?_)
  ·
    refine yL.eq (y_iload (pc := 2035) (x := v3) d240_2035 rfl) ?_
    refine yL.eq (y_if_ne (pc := 2037) (t := 2052) d240_2037 (by decide)) ?_
    refine yL.ite (fun h10 => ?_) (fun h10 => ?_)
    ·
      refine yL.eq (y_aload_n (pc := 2040) (x := 202) d240_2040 rfl) ?_
      refine yL.eq (y_iconst (pc := 2041) (v := 0) d240_2041 kc_0) ?_
      refine yL.eq (y_lald (pc := 2042) d240_2042 s_21) ?_
      refine yL.eq (y_iload (pc := 2043) (x := v6) d240_2043 rfl) ?_
      refine yL.eq (y_i2l (pc := 2045) d240_2045) ?_
      refine yL.eq (y_lcmp (pc := 2046) d240_2046) ?_
      refine yL.eq (y_lif_eq (pc := 2047) (t := 2052) d240_2047 (by decide)) ?_
      refine yL.ite (fun h11 => ?_) (fun h11 => ?_)
      ·
        refine yL.eq (y_goto (pc := 2052) (t := 2111) d240_2052 (by decide)) ?_
        refine yL.eq (y_iinc (pc := 2111) (v := 4) (x := x4) (ls' := [some (.ref 0), some (.ref 7), some (.ref 190), some (.ref 202), some (.int (x4 + 4)), some (.int v3), some (.int v6)]) d240_2111 kc_4 rfl (Nat.le_of_ble_eq_true rfl) rfl) ?_
        refine yL.eq (y_goto (pc := 2114) (t := 23) d240_2114 (by decide)) ?_
        exact yL.rf
      ·
        refine yL.eq (y_iconst (pc := 2050) (v := 0) d240_2050 kc_0) ?_
        exact yL.eq (y_iretz (pc := 2051) d240_2051 mr_240) (yL.eq yZ_0 yL.rf)
    ·
      refine yL.eq (y_goto (pc := 2052) (t := 2111) d240_2052 (by decide)) ?_
      refine yL.eq (y_iinc (pc := 2111) (v := 4) (x := x4) (ls' := [some (.ref 0), some (.ref 7), some (.ref 190), some (.ref 202), some (.int (x4 + 4)), some (.int v3), some (.int v6)]) d240_2111 kc_4 rfl (Nat.le_of_ble_eq_true rfl) rfl) ?_
      refine yL.eq (y_goto (pc := 2114) (t := 23) d240_2114 (by decide)) ?_
      exact yL.rf
  ·
    refine yL.eq (y_iconst (pc := 2033) (v := 0) d240_2033 kc_0) ?_
    exact yL.eq (y_iretz (pc := 2034) d240_2034 mr_240) (yL.eq yZ_0 yL.rf)
set_option maxRecDepth 20000 in
set_option maxHeartbeats 4000000 in
theorem e240_2055 {x4 : Int32} {o5 : Option Value} {o6 : Option Value} {M : yM} {nc ns : Nat} (hn : nc + 4 ≤ 601024 ∧ ns + 24 ≤ 7293034) : yL (if yinB (x4 + 1) (ylen M) = true then yCi false (yX 239 0 [some (.ref 7), some (.int (M 0 (yx (x4 + 1)))), some (.ref 202), none] [] M 0 0) fun v3 M2 => if yinB (x4 + 1) (ylen M2) = true then yCi false (yX 211 0 [some (.ref 190), some (.int (M2 0 (yx (x4 + 1)))), none] [] M2 0 0) fun v6 M5 => yCi false (yX 106 0 [some (.ref 190)] [] M5 0 0) fun v8 M7 => if v8 = v3 then if v3 = 0 then if ((M7 202 0).toInt64) = v6.toInt64 then yX 240 23 [some (.ref 0), some (.ref 7), some (.ref 190), some (.ref 202), some (.int (x4 + 4)), some (.int v3), some (.int v6)] [] M7 (nc + 2) (ns + 12) else yI 0 M7 else yX 240 23 [some (.ref 0), some (.ref 7), some (.ref 190), some (.ref 202), some (.int (x4 + 4)), some (.int v3), some (.int v6)] [] M7 (nc + 2) (ns + 12) else yI 0 M7 else none else none) (yX 240 2055 [some (.ref 0), some (.ref 7), some (.ref 190), some (.ref 202), some (.int x4), o5, o6] [] M nc ns) := by
  refine yL.eq (y_aload_n (pc := 2055) (x := 7) d240_2055 rfl) ?_
  refine yL.eq (y_aload_n (pc := 2056) (x := 0) d240_2056 rfl) ?_
  refine yL.eq (y_iload (pc := 2057) (x := x4) d240_2057 rfl) ?_
  refine yL.eq (y_iconst (pc := 2059) (v := 1) d240_2059 kc_1) ?_
  refine yL.eq (y_iadd (pc := 2060) d240_2060) ?_
  refine yL.eq (y_iald0 (pc := 2061) d240_2061) ?_
  refine yL.gd (fun h1 => ?_)
  refine yL.eq (y_aload_n (pc := 2062) (x := 202) d240_2062 rfl) ?_
  refine y_calls_i (pc := 2063) (n := 3) (n' := 4) (nc' := nc + 2) (ns' := ns + 12) [.ref 7, .int (M 0 (yx (x4 + 1))), .ref 202] [] false d240_2063 q240_215 rfl rfl rfl (Nat.le_of_ble_eq_true rfl) (Nat.le_of_ble_eq_true rfl) rfl (by decide +kernel) (y_rmc (c := 2) (s := 12) mcs_239 hn (by decide)) (fun v3 M2 => ?_)
  refine yL.eq (y_istore (pc := 2066) (ls' := [some (.ref 0), some (.ref 7), some (.ref 190), some (.ref 202), some (.int x4), some (.int v3), o6]) d240_2066 rfl rfl) ?_
  refine yL.eq (y_aload_n (pc := 2068) (x := 190) d240_2068 rfl) ?_
  refine yL.eq (y_aload_n (pc := 2069) (x := 0) d240_2069 rfl) ?_
  refine yL.eq (y_iload (pc := 2070) (x := x4) d240_2070 rfl) ?_
  refine yL.eq (y_iconst (pc := 2072) (v := 1) d240_2072 kc_1) ?_
  refine yL.eq (y_iadd (pc := 2073) d240_2073) ?_
  refine yL.eq (y_iald0 (pc := 2074) d240_2074) ?_
  refine yL.gd (fun h4 => ?_)
  refine y_callv_i (pc := 2075) (n := 2) (n' := 3) (nc' := nc + 2) (ns' := ns + 12) [.int (M2 0 (yx (x4 + 1)))] [] false d240_2075 q240_217 mk_211 s_t_190 rfl rfl (Nat.le_of_ble_eq_true rfl) (Nat.le_of_ble_eq_true rfl) rfl (by decide +kernel) (y_rmd (c := 2) (s := 12) mcs_211 hn (by decide)) (fun v6 M5 => ?_)
  refine yL.eq (y_istore (pc := 2078) (ls' := [some (.ref 0), some (.ref 7), some (.ref 190), some (.ref 202), some (.int x4), some (.int v3), some (.int v6)]) d240_2078 rfl rfl) ?_
  refine yL.eq (y_aload_n (pc := 2080) (x := 190) d240_2080 rfl) ?_
  refine y_callv_i (pc := 2081) (n := 1) (n' := 1) (nc' := nc + 2) (ns' := ns + 12) [] [] false d240_2081 q240_115 mk_106 s_t_190 rfl rfl (Nat.le_of_ble_eq_true rfl) (Nat.le_of_ble_eq_true rfl) rfl (by decide +kernel) (y_rmd (c := 2) (s := 12) mcs_106 hn (by decide)) (fun v8 M7 => ?_)
  refine yL.eq (y_iload (pc := 2084) (x := v3) d240_2084 rfl) ?_
  refine yL.eq (y_icmp_eq (pc := 2086) (t := 2091) d240_2086 (by decide)) ?_
  refine yL.ite (fun h9 => ?_) (fun h9 => ?_)
  ·
    refine yL.eq (y_iload (pc := 2091) (x := v3) d240_2091 rfl) ?_
    refine yL.eq (y_if_ne (pc := 2093) (t := 2108) d240_2093 (by decide)) ?_
    refine yL.ite (fun h10 => ?_) (fun h10 => ?_)
    ·
      refine yL.eq (y_aload_n (pc := 2096) (x := 202) d240_2096 rfl) ?_
      refine yL.eq (y_iconst (pc := 2097) (v := 0) d240_2097 kc_0) ?_
      refine yL.eq (y_lald (pc := 2098) d240_2098 s_21) ?_
      refine yL.eq (y_iload (pc := 2099) (x := v6) d240_2099 rfl) ?_
      refine yL.eq (y_i2l (pc := 2101) d240_2101) ?_
      refine yL.eq (y_lcmp (pc := 2102) d240_2102) ?_
      refine yL.eq (y_lif_eq (pc := 2103) (t := 2108) d240_2103 (by decide)) ?_
      refine yL.ite (fun h11 => ?_) (fun h11 => ?_)
      ·
        refine yL.eq (y_goto (pc := 2108) (t := 2111) d240_2108 (by decide)) ?_
        refine yL.eq (y_iinc (pc := 2111) (v := 4) (x := x4) (ls' := [some (.ref 0), some (.ref 7), some (.ref 190), some (.ref 202), some (.int (x4 + 4)), some (.int v3), some (.int v6)]) d240_2111 kc_4 rfl (Nat.le_of_ble_eq_true rfl) rfl) ?_
        refine yL.eq (y_goto (pc := 2114) (t := 23) d240_2114 (by decide)) ?_
        exact yL.rf
      ·
        refine yL.eq (y_iconst (pc := 2106) (v := 0) d240_2106 kc_0) ?_
        exact yL.eq (y_iretz (pc := 2107) d240_2107 mr_240) (yL.eq yZ_0 yL.rf)
    ·
      refine yL.eq (y_goto (pc := 2108) (t := 2111) d240_2108 (by decide)) ?_
      refine yL.eq (y_iinc (pc := 2111) (v := 4) (x := x4) (ls' := [some (.ref 0), some (.ref 7), some (.ref 190), some (.ref 202), some (.int (x4 + 4)), some (.int v3), some (.int v6)]) d240_2111 kc_4 rfl (Nat.le_of_ble_eq_true rfl) rfl) ?_
      refine yL.eq (y_goto (pc := 2114) (t := 23) d240_2114 (by decide)) ?_
      exact yL.rf
  ·
    refine yL.eq (y_iconst (pc := 2089) (v := 0) d240_2089 kc_0) ?_
    exact yL.eq (y_iretz (pc := 2090) d240_2090 mr_240) (yL.eq yZ_0 yL.rf)
