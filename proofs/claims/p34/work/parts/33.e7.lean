set_option maxRecDepth 20000 in
set_option maxHeartbeats 4000000 in
theorem e137  {M : yM} {nc ns : Nat} (hn : nc + 60 ≤ 6000 ∧ ns + 360 ≤ 36000) : yL (yX 137 7 [some (.ref 7), some (.int 1), some (.long 0), none, some (.int 0), none, none, none, none, none, none, none, none, none, none, none, none, none, none, none] [] M nc ns) (yX 137 0 [some (.ref 7), none, none, none, none, none, none, none, none, none, none, none, none, none, none, none, none, none, none, none] [] M nc ns) := by
  refine yL.eq (y_iconst (pc := 0) (v := 1) d137_0 kc_1) ?_
  refine yL.eq (y_istore_n (pc := 1) (ls' := [some (.ref 7), some (.int 1), none, none, none, none, none, none, none, none, none, none, none, none, none, none, none, none, none, none]) d137_1 rfl rfl) ?_
  refine yL.eq (y_lconst (pc := 2) (v := 0) d137_2 kl_0) ?_
  refine yL.eq (y_lstore_n (pc := 3) (ls' := [some (.ref 7), some (.int 1), some (.long 0), none, none, none, none, none, none, none, none, none, none, none, none, none, none, none, none, none]) d137_3 rfl rfl) ?_
  refine yL.eq (y_iconst (pc := 4) (v := 0) d137_4 kc_0) ?_
  refine yL.eq (y_istore (pc := 5) (ls' := [some (.ref 7), some (.int 1), some (.long 0), none, some (.int 0), none, none, none, none, none, none, none, none, none, none, none, none, none, none, none]) d137_5 rfl rfl) ?_
  exact yL.rf
set_option maxRecDepth 20000 in
set_option maxHeartbeats 4000000 in
theorem e137_7 {x1 : Int32} {x2 : Int64} {x4 : Int32} {o5 : Option Value} {o6 : Option Value} {o7 : Option Value} {o8 : Option Value} {o9 : Option Value} {o10 : Option Value} {o11 : Option Value} {o12 : Option Value} {o13 : Option Value} {o14 : Option Value} {o15 : Option Value} {o16 : Option Value} {o17 : Option Value} {o18 : Option Value} {o19 : Option Value} {M : yM} {nc ns : Nat} (hn : nc + 60 ≤ 6000 ∧ ns + 360 ≤ 36000) : yL (yCj false (yX 109 0 [some (.ref 7), some (.int 0), none] [] M 0 0) fun v2 M1 => if x4.toInt64 < v2 then if x1 = 0 then yCj false (yX 109 0 [some (.ref 7), some (.int 5), none] [] M1 0 0) fun v6 M5 => yX 137 226 [some (.ref 7), some (.int x1), some (.long x2), none, some (.int v6.toInt32), some (.int 0), some (.long 0), none, some (.long 0), none, some (.int 0), o11, o12, o13, o14, o15, o16, o17, o18, o19] [] M5 (nc + 2) (ns + 12) else yCj false (yX 111 0 [some (.ref 7), some (.int x4), some (.int 0), none] [] M1 0 0) fun v8 M7 => yCj false (yX 111 0 [some (.ref 7), some (.int x4), some (.int 1), none] [] M7 0 0) fun v10 M9 => yCj false (yX 111 0 [some (.ref 7), some (.int x4), some (.int 2), none] [] M9 0 0) fun v12 M11 => yCj false (yX 111 0 [some (.ref 7), some (.int x4), some (.int 3), none] [] M11 0 0) fun v14 M13 => yCj false (yX 111 0 [some (.ref 7), some (.int x4), some (.int 0), none] [] M13 0 0) fun v16 M15 => yCj false (yX 111 0 [some (.ref 7), some (.int x4), some (.int 1), none] [] M15 0 0) fun v18 M17 => yCj false (yX 111 0 [some (.ref 7), some (.int x4), some (.int 2), none] [] M17 0 0) fun v20 M19 => yCj false (yX 111 0 [some (.ref 7), some (.int x4), some (.int 3), none] [] M19 0 0) fun v22 M21 => yCj false (yX 110 0 [some (.ref 7), some (.int x4), some (.int 4), none] [] M21 0 0) fun v24 M23 => yCj false (yX 110 0 [some (.ref 7), some (.int x4), some (.int 2), none] [] M23 0 0) fun v26 M25 => if ((((6 * v8) + (48 * v10)) + (144 * v12)) + (2304 * v14)) = v26 then yCj false (yX 110 0 [some (.ref 7), some (.int x4), some (.int 3), none] [] M25 0 0) fun v29 M28 => if (((v16 + v18) + v20) + v22) = v29 then yCj false (yX 110 0 [some (.ref 7), some (.int x4), some (.int 1), none] [] M28 0 0) fun v32 M31 => if v24 = (((((6 * v8) + (48 * v10)) + (144 * v12)) + (2304 * v14)) - v32) then yCi false (yX 106 0 [some (.long v24), none, some (.long (-2303)), none, some (.long 2304), none] [] M31 0 0) fun v35 M34 => if v35 = 0 then yX 137 7 [some (.ref 7), some (.int 0), some (.long (x2 + (((v16 + v18) + v20) + v22))), none, some (.int (x4 + 1)), some (.long ((((6 * v8) + (48 * v10)) + (144 * v12)) + (2304 * v14))), none, some (.long (((v16 + v18) + v20) + v22)), none, some (.long v24), none, o11, o12, o13, o14, o15, o16, o17, o18, o19] [] M34 (nc + 25) (ns + 150) else yCj false (yX 115 0 [some (.ref 7), some (.int 1), none] [] M34 0 0) fun v38 M37 => if v38 = 2 then if v24 < 0 then yX 137 7 [some (.ref 7), some (.int 0), some (.long (x2 + (((v16 + v18) + v20) + v22))), none, some (.int (x4 + 1)), some (.long ((((6 * v8) + (48 * v10)) + (144 * v12)) + (2304 * v14))), none, some (.long (((v16 + v18) + v20) + v22)), none, some (.long v24), none, o11, o12, o13, o14, o15, o16, o17, o18, o19] [] M37 (nc + 26) (ns + 156) else yX 137 7 [some (.ref 7), some (.int 1), some (.long (x2 + (((v16 + v18) + v20) + v22))), none, some (.int (x4 + 1)), some (.long ((((6 * v8) + (48 * v10)) + (144 * v12)) + (2304 * v14))), none, some (.long (((v16 + v18) + v20) + v22)), none, some (.long v24), none, o11, o12, o13, o14, o15, o16, o17, o18, o19] [] M37 (nc + 26) (ns + 156) else yX 137 7 [some (.ref 7), some (.int 1), some (.long (x2 + (((v16 + v18) + v20) + v22))), none, some (.int (x4 + 1)), some (.long ((((6 * v8) + (48 * v10)) + (144 * v12)) + (2304 * v14))), none, some (.long (((v16 + v18) + v20) + v22)), none, some (.long v24), none, o11, o12, o13, o14, o15, o16, o17, o18, o19] [] M37 (nc + 26) (ns + 156) else yX 137 7 [some (.ref 7), some (.int 0), some (.long (x2 + (((v16 + v18) + v20) + v22))), none, some (.int (x4 + 1)), some (.long ((((6 * v8) + (48 * v10)) + (144 * v12)) + (2304 * v14))), none, some (.long (((v16 + v18) + v20) + v22)), none, some (.long v24), none, o11, o12, o13, o14, o15, o16, o17, o18, o19] [] M31 (nc + 25) (ns + 150) else yX 137 7 [some (.ref 7), some (.int 0), some (.long (x2 + (((v16 + v18) + v20) + v22))), none, some (.int (x4 + 1)), some (.long ((((6 * v8) + (48 * v10)) + (144 * v12)) + (2304 * v14))), none, some (.long (((v16 + v18) + v20) + v22)), none, some (.long v24), none, o11, o12, o13, o14, o15, o16, o17, o18, o19] [] M28 (nc + 23) (ns + 138) else yX 137 7 [some (.ref 7), some (.int 0), some (.long (x2 + (((v16 + v18) + v20) + v22))), none, some (.int (x4 + 1)), some (.long ((((6 * v8) + (48 * v10)) + (144 * v12)) + (2304 * v14))), none, some (.long (((v16 + v18) + v20) + v22)), none, some (.long v24), none, o11, o12, o13, o14, o15, o16, o17, o18, o19] [] M25 (nc + 21) (ns + 126) else yCj false (yX 109 0 [some (.ref 7), some (.int 5), none] [] M1 0 0) fun v42 M41 => yX 137 226 [some (.ref 7), some (.int x1), some (.long x2), none, some (.int v42.toInt32), some (.int 0), some (.long 0), none, some (.long 0), none, some (.int 0), o11, o12, o13, o14, o15, o16, o17, o18, o19] [] M41 (nc + 2) (ns + 12)) (yX 137 7 [some (.ref 7), some (.int x1), some (.long x2), none, some (.int x4), o5, o6, o7, o8, o9, o10, o11, o12, o13, o14, o15, o16, o17, o18, o19] [] M nc ns) := by
  refine yL.eq (y_iload (pc := 7) (x := x4) d137_7 rfl) ?_
  refine yL.eq (y_i2l (pc := 9) d137_9) ?_
  refine yL.eq (y_aload_n (pc := 10) (x := 7) d137_10 rfl) ?_
  refine yL.eq (y_iconst (pc := 11) (v := 0) d137_11 kc_0) ?_
  refine y_calls_j (pc := 12) (n := 2) (n' := 3) (nc' := nc + 1) (ns' := ns + 6) [.ref 7, .int 0] [.long x4.toInt64] false d137_12 q137_117 rfl rfl rfl (Nat.le_of_ble_eq_true rfl) (Nat.le_of_ble_eq_true rfl) rfl (by decide +kernel) (y_rmc mcs_109 mcs_137 hn (by decide)) (fun v2 M1 => ?_)
  refine yL.eq (y_lcmp (pc := 15) d137_15) ?_
  refine yL.eq (y_lif_ge (pc := 16) (t := 206) d137_16 (by decide)) ?_
  refine yL.ite (fun h3 => ?_) (fun h3 => ?_)
  ·
    refine yL.eq (y_iload_n (pc := 19) (x := x1) d137_19 rfl) ?_
    refine yL.eq (y_if_eq (pc := 20) (t := 206) d137_20 (by decide)) ?_
    refine yL.ite (fun h4 => ?_) (fun h4 => ?_)
    ·
      refine yL.eq (y_aload_n (pc := 206) (x := 7) d137_206 rfl) ?_
      refine yL.eq (y_iconst (pc := 207) (v := 5) d137_207 kc_5) ?_
      refine y_calls_j (pc := 208) (n := 2) (n' := 3) (nc' := nc + 2) (ns' := ns + 12) [.ref 7, .int 5] [] false d137_208 q137_117 rfl rfl rfl (Nat.le_of_ble_eq_true rfl) (Nat.le_of_ble_eq_true rfl) rfl (by decide +kernel) (y_rme (c1 := 2) (s1 := 12) mcs_109 mcs_137 hn (by decide)) (fun v6 M5 => ?_)
      refine yL.eq (y_l2i (pc := 211) d137_211) ?_
      refine yL.eq (y_istore (pc := 212) (ls' := [some (.ref 7), some (.int x1), some (.long x2), none, some (.int v6.toInt32), o5, o6, o7, o8, o9, o10, o11, o12, o13, o14, o15, o16, o17, o18, o19]) d137_212 rfl rfl) ?_
      refine yL.eq (y_iconst (pc := 214) (v := 0) d137_214 kc_0) ?_
      refine yL.eq (y_istore (pc := 215) (ls' := [some (.ref 7), some (.int x1), some (.long x2), none, some (.int v6.toInt32), some (.int 0), o6, o7, o8, o9, o10, o11, o12, o13, o14, o15, o16, o17, o18, o19]) d137_215 rfl rfl) ?_
      refine yL.eq (y_lconst (pc := 217) (v := 0) d137_217 kl_0) ?_
      refine yL.eq (y_lstore (pc := 218) (ls' := [some (.ref 7), some (.int x1), some (.long x2), none, some (.int v6.toInt32), some (.int 0), some (.long 0), none, o8, o9, o10, o11, o12, o13, o14, o15, o16, o17, o18, o19]) d137_218 rfl rfl) ?_
      refine yL.eq (y_lconst (pc := 220) (v := 0) d137_220 kl_0) ?_
      refine yL.eq (y_lstore (pc := 221) (ls' := [some (.ref 7), some (.int x1), some (.long x2), none, some (.int v6.toInt32), some (.int 0), some (.long 0), none, some (.long 0), none, o10, o11, o12, o13, o14, o15, o16, o17, o18, o19]) d137_221 rfl rfl) ?_
      refine yL.eq (y_iconst (pc := 223) (v := 0) d137_223 kc_0) ?_
      refine yL.eq (y_istore (pc := 224) (ls' := [some (.ref 7), some (.int x1), some (.long x2), none, some (.int v6.toInt32), some (.int 0), some (.long 0), none, some (.long 0), none, some (.int 0), o11, o12, o13, o14, o15, o16, o17, o18, o19]) d137_224 rfl rfl) ?_
      exact yL.rf
    ·
      refine yL.eq (y_ldc2_w (pc := 23) (v := 6) d137_23 q137_185) ?_
      refine yL.eq (y_aload_n (pc := 26) (x := 7) d137_26 rfl) ?_
      refine yL.eq (y_iload (pc := 27) (x := x4) d137_27 rfl) ?_
      refine yL.eq (y_iconst (pc := 29) (v := 0) d137_29 kc_0) ?_
      refine y_calls_j (pc := 30) (n := 3) (n' := 4) (nc' := nc + 3) (ns' := ns + 18) [.ref 7, .int x4, .int 0] [.long 6] false d137_30 q137_137 rfl rfl rfl (Nat.le_of_ble_eq_true rfl) (Nat.le_of_ble_eq_true rfl) rfl (by decide +kernel) (y_rme (c1 := 3) (s1 := 18) mcs_111 mcs_137 hn (by decide)) (fun v8 M7 => ?_)
      refine yL.eq (y_lmul (pc := 33) d137_33) ?_
      refine yL.eq (y_ldc2_w (pc := 34) (v := 48) d137_34 q137_187) ?_
      refine yL.eq (y_aload_n (pc := 37) (x := 7) d137_37 rfl) ?_
      refine yL.eq (y_iload (pc := 38) (x := x4) d137_38 rfl) ?_
      refine yL.eq (y_iconst (pc := 40) (v := 1) d137_40 kc_1) ?_
      refine y_calls_j (pc := 41) (n := 3) (n' := 4) (nc' := nc + 5) (ns' := ns + 30) [.ref 7, .int x4, .int 1] [.long 48, .long (6 * v8)] false d137_41 q137_137 rfl rfl rfl (Nat.le_of_ble_eq_true rfl) (Nat.le_of_ble_eq_true rfl) rfl (by decide +kernel) (y_rme (c1 := 5) (s1 := 30) mcs_111 mcs_137 hn (by decide)) (fun v10 M9 => ?_)
      refine yL.eq (y_lmul (pc := 44) d137_44) ?_
      refine yL.eq (y_ladd (pc := 45) d137_45) ?_
      refine yL.eq (y_ldc2_w (pc := 46) (v := 144) d137_46 q137_189) ?_
      refine yL.eq (y_aload_n (pc := 49) (x := 7) d137_49 rfl) ?_
      refine yL.eq (y_iload (pc := 50) (x := x4) d137_50 rfl) ?_
      refine yL.eq (y_iconst (pc := 52) (v := 2) d137_52 kc_2) ?_
      refine y_calls_j (pc := 53) (n := 3) (n' := 4) (nc' := nc + 7) (ns' := ns + 42) [.ref 7, .int x4, .int 2] [.long 144, .long ((6 * v8) + (48 * v10))] false d137_53 q137_137 rfl rfl rfl (Nat.le_of_ble_eq_true rfl) (Nat.le_of_ble_eq_true rfl) rfl (by decide +kernel) (y_rme (c1 := 7) (s1 := 42) mcs_111 mcs_137 hn (by decide)) (fun v12 M11 => ?_)
      refine yL.eq (y_lmul (pc := 56) d137_56) ?_
      refine yL.eq (y_ladd (pc := 57) d137_57) ?_
      refine yL.eq (y_ldc2_w (pc := 58) (v := 2304) d137_58 q137_191) ?_
      refine yL.eq (y_aload_n (pc := 61) (x := 7) d137_61 rfl) ?_
      refine yL.eq (y_iload (pc := 62) (x := x4) d137_62 rfl) ?_
      refine yL.eq (y_iconst (pc := 64) (v := 3) d137_64 kc_3) ?_
      refine y_calls_j (pc := 65) (n := 3) (n' := 4) (nc' := nc + 9) (ns' := ns + 54) [.ref 7, .int x4, .int 3] [.long 2304, .long (((6 * v8) + (48 * v10)) + (144 * v12))] false d137_65 q137_137 rfl rfl rfl (Nat.le_of_ble_eq_true rfl) (Nat.le_of_ble_eq_true rfl) rfl (by decide +kernel) (y_rme (c1 := 9) (s1 := 54) mcs_111 mcs_137 hn (by decide)) (fun v14 M13 => ?_)
      refine yL.eq (y_lmul (pc := 68) d137_68) ?_
      refine yL.eq (y_ladd (pc := 69) d137_69) ?_
      refine yL.eq (y_lstore (pc := 70) (ls' := [some (.ref 7), some (.int x1), some (.long x2), none, some (.int x4), some (.long ((((6 * v8) + (48 * v10)) + (144 * v12)) + (2304 * v14))), none, o7, o8, o9, o10, o11, o12, o13, o14, o15, o16, o17, o18, o19]) d137_70 rfl rfl) ?_
      refine yL.eq (y_aload_n (pc := 72) (x := 7) d137_72 rfl) ?_
      refine yL.eq (y_iload (pc := 73) (x := x4) d137_73 rfl) ?_
      refine yL.eq (y_iconst (pc := 75) (v := 0) d137_75 kc_0) ?_
      refine y_calls_j (pc := 76) (n := 3) (n' := 4) (nc' := nc + 11) (ns' := ns + 66) [.ref 7, .int x4, .int 0] [] false d137_76 q137_137 rfl rfl rfl (Nat.le_of_ble_eq_true rfl) (Nat.le_of_ble_eq_true rfl) rfl (by decide +kernel) (y_rme (c1 := 11) (s1 := 66) mcs_111 mcs_137 hn (by decide)) (fun v16 M15 => ?_)
      refine yL.eq (y_aload_n (pc := 79) (x := 7) d137_79 rfl) ?_
      refine yL.eq (y_iload (pc := 80) (x := x4) d137_80 rfl) ?_
      refine yL.eq (y_iconst (pc := 82) (v := 1) d137_82 kc_1) ?_
      refine y_calls_j (pc := 83) (n := 3) (n' := 4) (nc' := nc + 13) (ns' := ns + 78) [.ref 7, .int x4, .int 1] [.long v16] false d137_83 q137_137 rfl rfl rfl (Nat.le_of_ble_eq_true rfl) (Nat.le_of_ble_eq_true rfl) rfl (by decide +kernel) (y_rme (c1 := 13) (s1 := 78) mcs_111 mcs_137 hn (by decide)) (fun v18 M17 => ?_)
      refine yL.eq (y_ladd (pc := 86) d137_86) ?_
      refine yL.eq (y_aload_n (pc := 87) (x := 7) d137_87 rfl) ?_
      refine yL.eq (y_iload (pc := 88) (x := x4) d137_88 rfl) ?_
      refine yL.eq (y_iconst (pc := 90) (v := 2) d137_90 kc_2) ?_
      refine y_calls_j (pc := 91) (n := 3) (n' := 4) (nc' := nc + 15) (ns' := ns + 90) [.ref 7, .int x4, .int 2] [.long (v16 + v18)] false d137_91 q137_137 rfl rfl rfl (Nat.le_of_ble_eq_true rfl) (Nat.le_of_ble_eq_true rfl) rfl (by decide +kernel) (y_rme (c1 := 15) (s1 := 90) mcs_111 mcs_137 hn (by decide)) (fun v20 M19 => ?_)
      refine yL.eq (y_ladd (pc := 94) d137_94) ?_
      refine yL.eq (y_aload_n (pc := 95) (x := 7) d137_95 rfl) ?_
      refine yL.eq (y_iload (pc := 96) (x := x4) d137_96 rfl) ?_
      refine yL.eq (y_iconst (pc := 98) (v := 3) d137_98 kc_3) ?_
      refine y_calls_j (pc := 99) (n := 3) (n' := 4) (nc' := nc + 17) (ns' := ns + 102) [.ref 7, .int x4, .int 3] [.long ((v16 + v18) + v20)] false d137_99 q137_137 rfl rfl rfl (Nat.le_of_ble_eq_true rfl) (Nat.le_of_ble_eq_true rfl) rfl (by decide +kernel) (y_rme (c1 := 17) (s1 := 102) mcs_111 mcs_137 hn (by decide)) (fun v22 M21 => ?_)
      refine yL.eq (y_ladd (pc := 102) d137_102) ?_
      refine yL.eq (y_lstore (pc := 103) (ls' := [some (.ref 7), some (.int x1), some (.long x2), none, some (.int x4), some (.long ((((6 * v8) + (48 * v10)) + (144 * v12)) + (2304 * v14))), none, some (.long (((v16 + v18) + v20) + v22)), none, o9, o10, o11, o12, o13, o14, o15, o16, o17, o18, o19]) d137_103 rfl rfl) ?_
      refine yL.eq (y_aload_n (pc := 105) (x := 7) d137_105 rfl) ?_
      refine yL.eq (y_iload (pc := 106) (x := x4) d137_106 rfl) ?_
      refine yL.eq (y_iconst (pc := 108) (v := 4) d137_108 kc_4) ?_
      refine y_calls_j (pc := 109) (n := 3) (n' := 4) (nc' := nc + 19) (ns' := ns + 114) [.ref 7, .int x4, .int 4] [] false d137_109 q137_128 rfl rfl rfl (Nat.le_of_ble_eq_true rfl) (Nat.le_of_ble_eq_true rfl) rfl (by decide +kernel) (y_rme (c1 := 19) (s1 := 114) mcs_110 mcs_137 hn (by decide)) (fun v24 M23 => ?_)
      refine yL.eq (y_lstore (pc := 112) (ls' := [some (.ref 7), some (.int x1), some (.long x2), none, some (.int x4), some (.long ((((6 * v8) + (48 * v10)) + (144 * v12)) + (2304 * v14))), none, some (.long (((v16 + v18) + v20) + v22)), none, some (.long v24), none, o11, o12, o13, o14, o15, o16, o17, o18, o19]) d137_112 rfl rfl) ?_
      refine yL.eq (y_lload_n (pc := 114) (x := x2) d137_114 rfl) ?_
      refine yL.eq (y_lload (pc := 115) (x := (((v16 + v18) + v20) + v22)) d137_115 rfl) ?_
      refine yL.eq (y_ladd (pc := 117) d137_117) ?_
      refine yL.eq (y_lstore_n (pc := 118) (ls' := [some (.ref 7), some (.int x1), some (.long (x2 + (((v16 + v18) + v20) + v22))), none, some (.int x4), some (.long ((((6 * v8) + (48 * v10)) + (144 * v12)) + (2304 * v14))), none, some (.long (((v16 + v18) + v20) + v22)), none, some (.long v24), none, o11, o12, o13, o14, o15, o16, o17, o18, o19]) d137_118 rfl rfl) ?_
      refine yL.eq (y_lload (pc := 119) (x := ((((6 * v8) + (48 * v10)) + (144 * v12)) + (2304 * v14))) d137_119 rfl) ?_
      refine yL.eq (y_aload_n (pc := 121) (x := 7) d137_121 rfl) ?_
      refine yL.eq (y_iload (pc := 122) (x := x4) d137_122 rfl) ?_
      refine yL.eq (y_iconst (pc := 124) (v := 2) d137_124 kc_2) ?_
      refine y_calls_j (pc := 125) (n := 3) (n' := 4) (nc' := nc + 21) (ns' := ns + 126) [.ref 7, .int x4, .int 2] [.long ((((6 * v8) + (48 * v10)) + (144 * v12)) + (2304 * v14))] false d137_125 q137_128 rfl rfl rfl (Nat.le_of_ble_eq_true rfl) (Nat.le_of_ble_eq_true rfl) rfl (by decide +kernel) (y_rme (c1 := 21) (s1 := 126) mcs_110 mcs_137 hn (by decide)) (fun v26 M25 => ?_)
      refine yL.eq (y_lcmp (pc := 128) d137_128) ?_
      refine yL.eq (y_lif_ne (pc := 129) (t := 198) d137_129 (by decide)) ?_
      refine yL.ite (fun h27 => ?_) (fun h27 => ?_)
      ·
        refine yL.eq (y_lload (pc := 132) (x := (((v16 + v18) + v20) + v22)) d137_132 rfl) ?_
        refine yL.eq (y_aload_n (pc := 134) (x := 7) d137_134 rfl) ?_
        refine yL.eq (y_iload (pc := 135) (x := x4) d137_135 rfl) ?_
        refine yL.eq (y_iconst (pc := 137) (v := 3) d137_137 kc_3) ?_
        refine y_calls_j (pc := 138) (n := 3) (n' := 4) (nc' := nc + 23) (ns' := ns + 138) [.ref 7, .int x4, .int 3] [.long (((v16 + v18) + v20) + v22)] false d137_138 q137_128 rfl rfl rfl (Nat.le_of_ble_eq_true rfl) (Nat.le_of_ble_eq_true rfl) rfl (by decide +kernel) (y_rme (c1 := 23) (s1 := 138) mcs_110 mcs_137 hn (by decide)) (fun v29 M28 => ?_)
        refine yL.eq (y_lcmp (pc := 141) d137_141) ?_
        refine yL.eq (y_lif_ne (pc := 142) (t := 198) d137_142 (by decide)) ?_
        refine yL.ite (fun h30 => ?_) (fun h30 => ?_)
        ·
          refine yL.eq (y_lload (pc := 145) (x := v24) d137_145 rfl) ?_
          refine yL.eq (y_lload (pc := 147) (x := ((((6 * v8) + (48 * v10)) + (144 * v12)) + (2304 * v14))) d137_147 rfl) ?_
          refine yL.eq (y_aload_n (pc := 149) (x := 7) d137_149 rfl) ?_
          refine yL.eq (y_iload (pc := 150) (x := x4) d137_150 rfl) ?_
          refine yL.eq (y_iconst (pc := 152) (v := 1) d137_152 kc_1) ?_
          refine y_calls_j (pc := 153) (n := 3) (n' := 4) (nc' := nc + 25) (ns' := ns + 150) [.ref 7, .int x4, .int 1] [.long ((((6 * v8) + (48 * v10)) + (144 * v12)) + (2304 * v14)), .long v24] false d137_153 q137_128 rfl rfl rfl (Nat.le_of_ble_eq_true rfl) (Nat.le_of_ble_eq_true rfl) rfl (by decide +kernel) (y_rme (c1 := 25) (s1 := 150) mcs_110 mcs_137 hn (by decide)) (fun v32 M31 => ?_)
          refine yL.eq (y_lsub (pc := 156) d137_156) ?_
          refine yL.eq (y_lcmp (pc := 157) d137_157) ?_
          refine yL.eq (y_lif_ne (pc := 158) (t := 198) d137_158 (by decide)) ?_
          refine yL.ite (fun h33 => ?_) (fun h33 => ?_)
          ·
            refine yL.eq (y_lload (pc := 161) (x := v24) d137_161 rfl) ?_
            refine yL.eq (y_ldc2_w (pc := 163) (v := (-2303)) d137_163 q137_193) ?_
            refine yL.eq (y_ldc2_w (pc := 166) (v := 2304) d137_166 q137_191) ?_
            refine y_calls_i (pc := 169) (n := 3) (n' := 6) (nc' := nc + 25) (ns' := ns + 150) [.long v24, .long (-2303), .long 2304] [] false d137_169 q137_195 rfl rfl rfl (Nat.le_of_ble_eq_true rfl) (Nat.le_of_ble_eq_true rfl) rfl (by decide +kernel) (y_rmd mcs_106 mcs_137 hn (by decide)) (fun v35 M34 => ?_)
            refine yL.eq (y_if_eq (pc := 172) (t := 198) d137_172 (by decide)) ?_
            refine yL.ite (fun h36 => ?_) (fun h36 => ?_)
            ·
              refine yL.eq (y_iconst (pc := 198) (v := 0) d137_198 kc_0) ?_
              refine yL.eq (y_istore_n (pc := 199) (ls' := [some (.ref 7), some (.int 0), some (.long (x2 + (((v16 + v18) + v20) + v22))), none, some (.int x4), some (.long ((((6 * v8) + (48 * v10)) + (144 * v12)) + (2304 * v14))), none, some (.long (((v16 + v18) + v20) + v22)), none, some (.long v24), none, o11, o12, o13, o14, o15, o16, o17, o18, o19]) d137_199 rfl rfl) ?_
              refine yL.eq (y_iinc (pc := 200) (v := 1) (x := x4) (ls' := [some (.ref 7), some (.int 0), some (.long (x2 + (((v16 + v18) + v20) + v22))), none, some (.int (x4 + 1)), some (.long ((((6 * v8) + (48 * v10)) + (144 * v12)) + (2304 * v14))), none, some (.long (((v16 + v18) + v20) + v22)), none, some (.long v24), none, o11, o12, o13, o14, o15, o16, o17, o18, o19]) d137_200 kc_1 rfl (Nat.le_of_ble_eq_true rfl) rfl) ?_
              refine yL.eq (y_goto (pc := 203) (t := 7) d137_203 (by decide)) ?_
              exact yL.rf
            ·
              refine yL.eq (y_aload_n (pc := 175) (x := 7) d137_175 rfl) ?_
              refine yL.eq (y_iconst (pc := 176) (v := 1) d137_176 kc_1) ?_
              refine y_calls_j (pc := 177) (n := 2) (n' := 3) (nc' := nc + 26) (ns' := ns + 156) [.ref 7, .int 1] [] false d137_177 q137_122 rfl rfl rfl (Nat.le_of_ble_eq_true rfl) (Nat.le_of_ble_eq_true rfl) rfl (by decide +kernel) (y_rme (c1 := 26) (s1 := 156) mcs_115 mcs_137 hn (by decide)) (fun v38 M37 => ?_)
              refine yL.eq (y_ldc2_w (pc := 180) (v := 2) d137_180 q137_199) ?_
              refine yL.eq (y_lcmp (pc := 183) d137_183) ?_
              refine yL.eq (y_lif_ne (pc := 184) (t := 194) d137_184 (by decide)) ?_
              refine yL.ite (fun h39 => ?_) (fun h39 => ?_)
              ·
                refine yL.eq (y_lload (pc := 187) (x := v24) d137_187 rfl) ?_
                refine yL.eq (y_lconst (pc := 189) (v := 0) d137_189 kl_0) ?_
                refine yL.eq (y_lcmp (pc := 190) d137_190) ?_
                refine yL.eq (y_lif_lt (pc := 191) (t := 198) d137_191 (by decide)) ?_
                refine yL.ite (fun h40 => ?_) (fun h40 => ?_)
                ·
                  refine yL.eq (y_iconst (pc := 198) (v := 0) d137_198 kc_0) ?_
                  refine yL.eq (y_istore_n (pc := 199) (ls' := [some (.ref 7), some (.int 0), some (.long (x2 + (((v16 + v18) + v20) + v22))), none, some (.int x4), some (.long ((((6 * v8) + (48 * v10)) + (144 * v12)) + (2304 * v14))), none, some (.long (((v16 + v18) + v20) + v22)), none, some (.long v24), none, o11, o12, o13, o14, o15, o16, o17, o18, o19]) d137_199 rfl rfl) ?_
                  refine yL.eq (y_iinc (pc := 200) (v := 1) (x := x4) (ls' := [some (.ref 7), some (.int 0), some (.long (x2 + (((v16 + v18) + v20) + v22))), none, some (.int (x4 + 1)), some (.long ((((6 * v8) + (48 * v10)) + (144 * v12)) + (2304 * v14))), none, some (.long (((v16 + v18) + v20) + v22)), none, some (.long v24), none, o11, o12, o13, o14, o15, o16, o17, o18, o19]) d137_200 kc_1 rfl (Nat.le_of_ble_eq_true rfl) rfl) ?_
                  refine yL.eq (y_goto (pc := 203) (t := 7) d137_203 (by decide)) ?_
                  exact yL.rf
                ·
                  refine yL.eq (y_iconst (pc := 194) (v := 1) d137_194 kc_1) ?_
                  refine yL.eq (y_goto (pc := 195) (t := 199) d137_195 (by decide)) ?_
                  refine yL.eq (y_istore_n (pc := 199) (ls' := [some (.ref 7), some (.int 1), some (.long (x2 + (((v16 + v18) + v20) + v22))), none, some (.int x4), some (.long ((((6 * v8) + (48 * v10)) + (144 * v12)) + (2304 * v14))), none, some (.long (((v16 + v18) + v20) + v22)), none, some (.long v24), none, o11, o12, o13, o14, o15, o16, o17, o18, o19]) d137_199 rfl rfl) ?_
                  refine yL.eq (y_iinc (pc := 200) (v := 1) (x := x4) (ls' := [some (.ref 7), some (.int 1), some (.long (x2 + (((v16 + v18) + v20) + v22))), none, some (.int (x4 + 1)), some (.long ((((6 * v8) + (48 * v10)) + (144 * v12)) + (2304 * v14))), none, some (.long (((v16 + v18) + v20) + v22)), none, some (.long v24), none, o11, o12, o13, o14, o15, o16, o17, o18, o19]) d137_200 kc_1 rfl (Nat.le_of_ble_eq_true rfl) rfl) ?_
                  refine yL.eq (y_goto (pc := 203) (t := 7) d137_203 (by decide)) ?_
                  exact yL.rf
              ·
                refine yL.eq (y_iconst (pc := 194) (v := 1) d137_194 kc_1) ?_
                refine yL.eq (y_goto (pc := 195) (t := 199) d137_195 (by decide)) ?_
                refine yL.eq (y_istore_n (pc := 199) (ls' := [some (.ref 7), some (.int 1), some (.long (x2 + (((v16 + v18) + v20) + v22))), none, some (.int x4), some (.long ((((6 * v8) + (48 * v10)) + (144 * v12)) + (2304 * v14))), none, some (.long (((v16 + v18) + v20) + v22)), none, some (.long v24), none, o11, o12, o13, o14, o15, o16, o17, o18, o19]) d137_199 rfl rfl) ?_
                refine yL.eq (y_iinc (pc := 200) (v := 1) (x := x4) (ls' := [some (.ref 7), some (.int 1), some (.long (x2 + (((v16 + v18) + v20) + v22))), none, some (.int (x4 + 1)), some (.long ((((6 * v8) + (48 * v10)) + (144 * v12)) + (2304 * v14))), none, some (.long (((v16 + v18) + v20) + v22)), none, some (.long v24), none, o11, o12, o13, o14, o15, o16, o17, o18, o19]) d137_200 kc_1 rfl (Nat.le_of_ble_eq_true rfl) rfl) ?_
                refine yL.eq (y_goto (pc := 203) (t := 7) d137_203 (by decide)) ?_
                exact yL.rf
          ·
            refine yL.eq (y_iconst (pc := 198) (v := 0) d137_198 kc_0) ?_
            refine yL.eq (y_istore_n (pc := 199) (ls' := [some (.ref 7), some (.int 0), some (.long (x2 + (((v16 + v18) + v20) + v22))), none, some (.int x4), some (.long ((((6 * v8) + (48 * v10)) + (144 * v12)) + (2304 * v14))), none, some (.long (((v16 + v18) + v20) + v22)), none, some (.long v24), none, o11, o12, o13, o14, o15, o16, o17, o18, o19]) d137_199 rfl rfl) ?_
            refine yL.eq (y_iinc (pc := 200) (v := 1) (x := x4) (ls' := [some (.ref 7), some (.int 0), some (.long (x2 + (((v16 + v18) + v20) + v22))), none, some (.int (x4 + 1)), some (.long ((((6 * v8) + (48 * v10)) + (144 * v12)) + (2304 * v14))), none, some (.long (((v16 + v18) + v20) + v22)), none, some (.long v24), none, o11, o12, o13, o14, o15, o16, o17, o18, o19]) d137_200 kc_1 rfl (Nat.le_of_ble_eq_true rfl) rfl) ?_
            refine yL.eq (y_goto (pc := 203) (t := 7) d137_203 (by decide)) ?_
            exact yL.rf
        ·
          refine yL.eq (y_iconst (pc := 198) (v := 0) d137_198 kc_0) ?_
          refine yL.eq (y_istore_n (pc := 199) (ls' := [some (.ref 7), some (.int 0), some (.long (x2 + (((v16 + v18) + v20) + v22))), none, some (.int x4), some (.long ((((6 * v8) + (48 * v10)) + (144 * v12)) + (2304 * v14))), none, some (.long (((v16 + v18) + v20) + v22)), none, some (.long v24), none, o11, o12, o13, o14, o15, o16, o17, o18, o19]) d137_199 rfl rfl) ?_
          refine yL.eq (y_iinc (pc := 200) (v := 1) (x := x4) (ls' := [some (.ref 7), some (.int 0), some (.long (x2 + (((v16 + v18) + v20) + v22))), none, some (.int (x4 + 1)), some (.long ((((6 * v8) + (48 * v10)) + (144 * v12)) + (2304 * v14))), none, some (.long (((v16 + v18) + v20) + v22)), none, some (.long v24), none, o11, o12, o13, o14, o15, o16, o17, o18, o19]) d137_200 kc_1 rfl (Nat.le_of_ble_eq_true rfl) rfl) ?_
          refine yL.eq (y_goto (pc := 203) (t := 7) d137_203 (by decide)) ?_
          exact yL.rf
      ·
        refine yL.eq (y_iconst (pc := 198) (v := 0) d137_198 kc_0) ?_
        refine yL.eq (y_istore_n (pc := 199) (ls' := [some (.ref 7), some (.int 0), some (.long (x2 + (((v16 + v18) + v20) + v22))), none, some (.int x4), some (.long ((((6 * v8) + (48 * v10)) + (144 * v12)) + (2304 * v14))), none, some (.long (((v16 + v18) + v20) + v22)), none, some (.long v24), none, o11, o12, o13, o14, o15, o16, o17, o18, o19]) d137_199 rfl rfl) ?_
        refine yL.eq (y_iinc (pc := 200) (v := 1) (x := x4) (ls' := [some (.ref 7), some (.int 0), some (.long (x2 + (((v16 + v18) + v20) + v22))), none, some (.int (x4 + 1)), some (.long ((((6 * v8) + (48 * v10)) + (144 * v12)) + (2304 * v14))), none, some (.long (((v16 + v18) + v20) + v22)), none, some (.long v24), none, o11, o12, o13, o14, o15, o16, o17, o18, o19]) d137_200 kc_1 rfl (Nat.le_of_ble_eq_true rfl) rfl) ?_
        refine yL.eq (y_goto (pc := 203) (t := 7) d137_203 (by decide)) ?_
        exact yL.rf
  ·
    refine yL.eq (y_aload_n (pc := 206) (x := 7) d137_206 rfl) ?_
    refine yL.eq (y_iconst (pc := 207) (v := 5) d137_207 kc_5) ?_
    refine y_calls_j (pc := 208) (n := 2) (n' := 3) (nc' := nc + 2) (ns' := ns + 12) [.ref 7, .int 5] [] false d137_208 q137_117 rfl rfl rfl (Nat.le_of_ble_eq_true rfl) (Nat.le_of_ble_eq_true rfl) rfl (by decide +kernel) (y_rme (c1 := 2) (s1 := 12) mcs_109 mcs_137 hn (by decide)) (fun v42 M41 => ?_)
    refine yL.eq (y_l2i (pc := 211) d137_211) ?_
    refine yL.eq (y_istore (pc := 212) (ls' := [some (.ref 7), some (.int x1), some (.long x2), none, some (.int v42.toInt32), o5, o6, o7, o8, o9, o10, o11, o12, o13, o14, o15, o16, o17, o18, o19]) d137_212 rfl rfl) ?_
    refine yL.eq (y_iconst (pc := 214) (v := 0) d137_214 kc_0) ?_
    refine yL.eq (y_istore (pc := 215) (ls' := [some (.ref 7), some (.int x1), some (.long x2), none, some (.int v42.toInt32), some (.int 0), o6, o7, o8, o9, o10, o11, o12, o13, o14, o15, o16, o17, o18, o19]) d137_215 rfl rfl) ?_
    refine yL.eq (y_lconst (pc := 217) (v := 0) d137_217 kl_0) ?_
    refine yL.eq (y_lstore (pc := 218) (ls' := [some (.ref 7), some (.int x1), some (.long x2), none, some (.int v42.toInt32), some (.int 0), some (.long 0), none, o8, o9, o10, o11, o12, o13, o14, o15, o16, o17, o18, o19]) d137_218 rfl rfl) ?_
    refine yL.eq (y_lconst (pc := 220) (v := 0) d137_220 kl_0) ?_
    refine yL.eq (y_lstore (pc := 221) (ls' := [some (.ref 7), some (.int x1), some (.long x2), none, some (.int v42.toInt32), some (.int 0), some (.long 0), none, some (.long 0), none, o10, o11, o12, o13, o14, o15, o16, o17, o18, o19]) d137_221 rfl rfl) ?_
    refine yL.eq (y_iconst (pc := 223) (v := 0) d137_223 kc_0) ?_
    refine yL.eq (y_istore (pc := 224) (ls' := [some (.ref 7), some (.int x1), some (.long x2), none, some (.int v42.toInt32), some (.int 0), some (.long 0), none, some (.long 0), none, some (.int 0), o11, o12, o13, o14, o15, o16, o17, o18, o19]) d137_224 rfl rfl) ?_
    exact yL.rf
set_option maxRecDepth 20000 in
set_option maxHeartbeats 4000000 in
theorem e137_226 {x1 : Int32} {x2 : Int64} {x4 : Int32} {x5 : Int32} {x6 : Int64} {x8 : Int64} {x10 : Int32} {o11 : Option Value} {o12 : Option Value} {o13 : Option Value} {o14 : Option Value} {o15 : Option Value} {o16 : Option Value} {o17 : Option Value} {o18 : Option Value} {o19 : Option Value} {M : yM} {nc ns : Nat} (hn : nc + 60 ≤ 6000 ∧ ns + 360 ≤ 36000) : yL (yCj false (yX 109 0 [some (.ref 7), some (.int 1), none] [] M 0 0) fun v2 M1 => if x10.toInt64 < v2 then if x1 = 0 then yX 137 683 [some (.ref 7), some (.int x1), some (.long x2), none, some (.int x4), some (.int x5), some (.long x6), none, some (.long x8), none, some (.long (-1)), none, some (.int 0), o13, o14, o15, o16, o17, o18, o19] [] M1 (nc + 1) (ns + 6) else yCj false (yX 112 0 [some (.ref 7), some (.int x10), some (.int 7), none] [] M1 0 0) fun v6 M5 => yCj false (yX 112 0 [some (.ref 7), some (.int x10), some (.int 4), none] [] M5 0 0) fun v8 M7 => yCj false (yX 112 0 [some (.ref 7), some (.int x10), some (.int 6), none] [] M7 0 0) fun v10 M9 => if v6 = (-1) then yCj false (yX 112 0 [some (.ref 7), some (.int x10), some (.int 0), none] [] M9 0 0) fun v13 M12 => if v10 ≤ x8 then if v6 = (-1) then yCj false (yX 112 0 [some (.ref 7), some (.int x10), some (.int 8), none] [] M12 0 0) fun v17 M16 => if v17 = (-1) then yX 137 383 [some (.ref 7), some (.int x1), some (.long x2), none, some (.int x4), some (.int (x5 + 1)), some (.long (x6 + v13)), none, some (.long x8), none, some (.int x10), some (.long v6), none, some (.long v8), none, some (.long v10), none, o17, o18, o19] [] M16 (nc + 11) (ns + 66) else yX 137 425 [some (.ref 7), some (.int 0), some (.long x2), none, some (.int x4), some (.int (x5 + 1)), some (.long (x6 + v13)), none, some (.long x8), none, some (.int x10), some (.long v6), none, some (.long v8), none, some (.long v10), none, some (.int 0), o18, o19] [] M16 (nc + 11) (ns + 66) else yCj false (yX 112 0 [some (.ref 7), some (.int x10), some (.int 8), none] [] M12 0 0) fun v20 M19 => yCj false (yX 112 0 [some (.ref 7), some (.int x10), some (.int 0), none] [] M19 0 0) fun v22 M21 => if v20 = (v6 + v22) then yCj false (yX 112 0 [some (.ref 7), some (.int x10), some (.int 8), none] [] M21 0 0) fun v25 M24 => if v25 ≤ x4.toInt64 then yX 137 383 [some (.ref 7), some (.int x1), some (.long x2), none, some (.int x4), some (.int (x5 + 1)), some (.long (x6 + v13)), none, some (.long x8), none, some (.int x10), some (.long v6), none, some (.long v8), none, some (.long v10), none, o17, o18, o19] [] M24 (nc + 15) (ns + 90) else yX 137 425 [some (.ref 7), some (.int 0), some (.long x2), none, some (.int x4), some (.int (x5 + 1)), some (.long (x6 + v13)), none, some (.long x8), none, some (.int x10), some (.long v6), none, some (.long v8), none, some (.long v10), none, some (.int 0), o18, o19] [] M24 (nc + 15) (ns + 90) else yX 137 425 [some (.ref 7), some (.int 0), some (.long x2), none, some (.int x4), some (.int (x5 + 1)), some (.long (x6 + v13)), none, some (.long x8), none, some (.int x10), some (.long v6), none, some (.long v8), none, some (.long v10), none, some (.int 0), o18, o19] [] M21 (nc + 13) (ns + 78) else if v6 = (-1) then yCj false (yX 112 0 [some (.ref 7), some (.int x10), some (.int 8), none] [] M12 0 0) fun v29 M28 => if v29 = (-1) then yX 137 383 [some (.ref 7), some (.int x1), some (.long x2), none, some (.int x4), some (.int (x5 + 1)), some (.long (x6 + v13)), none, some (.long v10), none, some (.int x10), some (.long v6), none, some (.long v8), none, some (.long v10), none, o17, o18, o19] [] M28 (nc + 11) (ns + 66) else yX 137 425 [some (.ref 7), some (.int 0), some (.long x2), none, some (.int x4), some (.int (x5 + 1)), some (.long (x6 + v13)), none, some (.long v10), none, some (.int x10), some (.long v6), none, some (.long v8), none, some (.long v10), none, some (.int 0), o18, o19] [] M28 (nc + 11) (ns + 66) else yCj false (yX 112 0 [some (.ref 7), some (.int x10), some (.int 8), none] [] M12 0 0) fun v32 M31 => yCj false (yX 112 0 [some (.ref 7), some (.int x10), some (.int 0), none] [] M31 0 0) fun v34 M33 => if v32 = (v6 + v34) then yCj false (yX 112 0 [some (.ref 7), some (.int x10), some (.int 8), none] [] M33 0 0) fun v37 M36 => if v37 ≤ x4.toInt64 then yX 137 383 [some (.ref 7), some (.int x1), some (.long x2), none, some (.int x4), some (.int (x5 + 1)), some (.long (x6 + v13)), none, some (.long v10), none, some (.int x10), some (.long v6), none, some (.long v8), none, some (.long v10), none, o17, o18, o19] [] M36 (nc + 15) (ns + 90) else yX 137 425 [some (.ref 7), some (.int 0), some (.long x2), none, some (.int x4), some (.int (x5 + 1)), some (.long (x6 + v13)), none, some (.long v10), none, some (.int x10), some (.long v6), none, some (.long v8), none, some (.long v10), none, some (.int 0), o18, o19] [] M36 (nc + 15) (ns + 90) else yX 137 425 [some (.ref 7), some (.int 0), some (.long x2), none, some (.int x4), some (.int (x5 + 1)), some (.long (x6 + v13)), none, some (.long v10), none, some (.int x10), some (.long v6), none, some (.long v8), none, some (.long v10), none, some (.int 0), o18, o19] [] M33 (nc + 13) (ns + 78) else yCj false (yX 112 0 [some (.ref 7), some (.int x10), some (.int 0), none] [] M9 0 0) fun v40 M39 => if v10 ≤ x8 then if v6 = (-1) then yCj false (yX 112 0 [some (.ref 7), some (.int x10), some (.int 8), none] [] M39 0 0) fun v44 M43 => if v44 = (-1) then yX 137 383 [some (.ref 7), some (.int x1), some (.long x2), none, some (.int x4), some (.int (x5 + 0)), some (.long (x6 + v40)), none, some (.long x8), none, some (.int x10), some (.long v6), none, some (.long v8), none, some (.long v10), none, o17, o18, o19] [] M43 (nc + 11) (ns + 66) else yX 137 425 [some (.ref 7), some (.int 0), some (.long x2), none, some (.int x4), some (.int (x5 + 0)), some (.long (x6 + v40)), none, some (.long x8), none, some (.int x10), some (.long v6), none, some (.long v8), none, some (.long v10), none, some (.int 0), o18, o19] [] M43 (nc + 11) (ns + 66) else yCj false (yX 112 0 [some (.ref 7), some (.int x10), some (.int 8), none] [] M39 0 0) fun v47 M46 => yCj false (yX 112 0 [some (.ref 7), some (.int x10), some (.int 0), none] [] M46 0 0) fun v49 M48 => if v47 = (v6 + v49) then yCj false (yX 112 0 [some (.ref 7), some (.int x10), some (.int 8), none] [] M48 0 0) fun v52 M51 => if v52 ≤ x4.toInt64 then yX 137 383 [some (.ref 7), some (.int x1), some (.long x2), none, some (.int x4), some (.int (x5 + 0)), some (.long (x6 + v40)), none, some (.long x8), none, some (.int x10), some (.long v6), none, some (.long v8), none, some (.long v10), none, o17, o18, o19] [] M51 (nc + 15) (ns + 90) else yX 137 425 [some (.ref 7), some (.int 0), some (.long x2), none, some (.int x4), some (.int (x5 + 0)), some (.long (x6 + v40)), none, some (.long x8), none, some (.int x10), some (.long v6), none, some (.long v8), none, some (.long v10), none, some (.int 0), o18, o19] [] M51 (nc + 15) (ns + 90) else yX 137 425 [some (.ref 7), some (.int 0), some (.long x2), none, some (.int x4), some (.int (x5 + 0)), some (.long (x6 + v40)), none, some (.long x8), none, some (.int x10), some (.long v6), none, some (.long v8), none, some (.long v10), none, some (.int 0), o18, o19] [] M48 (nc + 13) (ns + 78) else if v6 = (-1) then yCj false (yX 112 0 [some (.ref 7), some (.int x10), some (.int 8), none] [] M39 0 0) fun v56 M55 => if v56 = (-1) then yX 137 383 [some (.ref 7), some (.int x1), some (.long x2), none, some (.int x4), some (.int (x5 + 0)), some (.long (x6 + v40)), none, some (.long v10), none, some (.int x10), some (.long v6), none, some (.long v8), none, some (.long v10), none, o17, o18, o19] [] M55 (nc + 11) (ns + 66) else yX 137 425 [some (.ref 7), some (.int 0), some (.long x2), none, some (.int x4), some (.int (x5 + 0)), some (.long (x6 + v40)), none, some (.long v10), none, some (.int x10), some (.long v6), none, some (.long v8), none, some (.long v10), none, some (.int 0), o18, o19] [] M55 (nc + 11) (ns + 66) else yCj false (yX 112 0 [some (.ref 7), some (.int x10), some (.int 8), none] [] M39 0 0) fun v59 M58 => yCj false (yX 112 0 [some (.ref 7), some (.int x10), some (.int 0), none] [] M58 0 0) fun v61 M60 => if v59 = (v6 + v61) then yCj false (yX 112 0 [some (.ref 7), some (.int x10), some (.int 8), none] [] M60 0 0) fun v64 M63 => if v64 ≤ x4.toInt64 then yX 137 383 [some (.ref 7), some (.int x1), some (.long x2), none, some (.int x4), some (.int (x5 + 0)), some (.long (x6 + v40)), none, some (.long v10), none, some (.int x10), some (.long v6), none, some (.long v8), none, some (.long v10), none, o17, o18, o19] [] M63 (nc + 15) (ns + 90) else yX 137 425 [some (.ref 7), some (.int 0), some (.long x2), none, some (.int x4), some (.int (x5 + 0)), some (.long (x6 + v40)), none, some (.long v10), none, some (.int x10), some (.long v6), none, some (.long v8), none, some (.long v10), none, some (.int 0), o18, o19] [] M63 (nc + 15) (ns + 90) else yX 137 425 [some (.ref 7), some (.int 0), some (.long x2), none, some (.int x4), some (.int (x5 + 0)), some (.long (x6 + v40)), none, some (.long v10), none, some (.int x10), some (.long v6), none, some (.long v8), none, some (.long v10), none, some (.int 0), o18, o19] [] M60 (nc + 13) (ns + 78) else yX 137 683 [some (.ref 7), some (.int x1), some (.long x2), none, some (.int x4), some (.int x5), some (.long x6), none, some (.long x8), none, some (.long (-1)), none, some (.int 0), o13, o14, o15, o16, o17, o18, o19] [] M1 (nc + 1) (ns + 6)) (yX 137 226 [some (.ref 7), some (.int x1), some (.long x2), none, some (.int x4), some (.int x5), some (.long x6), none, some (.long x8), none, some (.int x10), o11, o12, o13, o14, o15, o16, o17, o18, o19] [] M nc ns) := by
  refine yL.eq (y_iload (pc := 226) (x := x10) d137_226 rfl) ?_
  refine yL.eq (y_i2l (pc := 228) d137_228) ?_
  refine yL.eq (y_aload_n (pc := 229) (x := 7) d137_229 rfl) ?_
  refine yL.eq (y_iconst (pc := 230) (v := 1) d137_230 kc_1) ?_
  refine y_calls_j (pc := 231) (n := 2) (n' := 3) (nc' := nc + 1) (ns' := ns + 6) [.ref 7, .int 1] [.long x10.toInt64] false d137_231 q137_117 rfl rfl rfl (Nat.le_of_ble_eq_true rfl) (Nat.le_of_ble_eq_true rfl) rfl (by decide +kernel) (y_rmc mcs_109 mcs_137 hn (by decide)) (fun v2 M1 => ?_)
  refine yL.eq (y_lcmp (pc := 234) d137_234) ?_
  refine yL.eq (y_lif_ge (pc := 235) (t := 675) d137_235 (by decide)) ?_
  refine yL.ite (fun h3 => ?_) (fun h3 => ?_)
  ·
    refine yL.eq (y_iload_n (pc := 238) (x := x1) d137_238 rfl) ?_
    refine yL.eq (y_if_eq (pc := 239) (t := 675) d137_239 (by decide)) ?_
    refine yL.ite (fun h4 => ?_) (fun h4 => ?_)
    ·
      refine yL.eq (y_ldc2_w (pc := 675) (v := (-1)) d137_675 q137_201) ?_
      refine yL.eq (y_lstore (pc := 678) (ls' := [some (.ref 7), some (.int x1), some (.long x2), none, some (.int x4), some (.int x5), some (.long x6), none, some (.long x8), none, some (.long (-1)), none, o12, o13, o14, o15, o16, o17, o18, o19]) d137_678 rfl rfl) ?_
      refine yL.eq (y_iconst (pc := 680) (v := 0) d137_680 kc_0) ?_
      refine yL.eq (y_istore (pc := 681) (ls' := [some (.ref 7), some (.int x1), some (.long x2), none, some (.int x4), some (.int x5), some (.long x6), none, some (.long x8), none, some (.long (-1)), none, some (.int 0), o13, o14, o15, o16, o17, o18, o19]) d137_681 rfl rfl) ?_
      exact yL.rf
    ·
      refine yL.eq (y_aload_n (pc := 242) (x := 7) d137_242 rfl) ?_
      refine yL.eq (y_iload (pc := 243) (x := x10) d137_243 rfl) ?_
      refine yL.eq (y_bipush (pc := 245) (v := 7) d137_245 kb_7) ?_
      refine y_calls_j (pc := 247) (n := 3) (n' := 4) (nc' := nc + 3) (ns' := ns + 18) [.ref 7, .int x10, .int 7] [] false d137_247 q137_131 rfl rfl rfl (Nat.le_of_ble_eq_true rfl) (Nat.le_of_ble_eq_true rfl) rfl (by decide +kernel) (y_rme (c1 := 3) (s1 := 18) mcs_112 mcs_137 hn (by decide)) (fun v6 M5 => ?_)
      refine yL.eq (y_lstore (pc := 250) (ls' := [some (.ref 7), some (.int x1), some (.long x2), none, some (.int x4), some (.int x5), some (.long x6), none, some (.long x8), none, some (.int x10), some (.long v6), none, o13, o14, o15, o16, o17, o18, o19]) d137_250 rfl rfl) ?_
      refine yL.eq (y_aload_n (pc := 252) (x := 7) d137_252 rfl) ?_
      refine yL.eq (y_iload (pc := 253) (x := x10) d137_253 rfl) ?_
      refine yL.eq (y_iconst (pc := 255) (v := 4) d137_255 kc_4) ?_
      refine y_calls_j (pc := 256) (n := 3) (n' := 4) (nc' := nc + 5) (ns' := ns + 30) [.ref 7, .int x10, .int 4] [] false d137_256 q137_131 rfl rfl rfl (Nat.le_of_ble_eq_true rfl) (Nat.le_of_ble_eq_true rfl) rfl (by decide +kernel) (y_rme (c1 := 5) (s1 := 30) mcs_112 mcs_137 hn (by decide)) (fun v8 M7 => ?_)
      refine yL.eq (y_lstore (pc := 259) (ls' := [some (.ref 7), some (.int x1), some (.long x2), none, some (.int x4), some (.int x5), some (.long x6), none, some (.long x8), none, some (.int x10), some (.long v6), none, some (.long v8), none, o15, o16, o17, o18, o19]) d137_259 rfl rfl) ?_
      refine yL.eq (y_aload_n (pc := 261) (x := 7) d137_261 rfl) ?_
      refine yL.eq (y_iload (pc := 262) (x := x10) d137_262 rfl) ?_
      refine yL.eq (y_bipush (pc := 264) (v := 6) d137_264 kb_6) ?_
      refine y_calls_j (pc := 266) (n := 3) (n' := 4) (nc' := nc + 7) (ns' := ns + 42) [.ref 7, .int x10, .int 6] [] false d137_266 q137_131 rfl rfl rfl (Nat.le_of_ble_eq_true rfl) (Nat.le_of_ble_eq_true rfl) rfl (by decide +kernel) (y_rme (c1 := 7) (s1 := 42) mcs_112 mcs_137 hn (by decide)) (fun v10 M9 => ?_)
      refine yL.eq (y_lstore (pc := 269) (ls' := [some (.ref 7), some (.int x1), some (.long x2), none, some (.int x4), some (.int x5), some (.long x6), none, some (.long x8), none, some (.int x10), some (.long v6), none, some (.long v8), none, some (.long v10), none, o17, o18, o19]) d137_269 rfl rfl) ?_
      refine yL.eq (y_iload (pc := 271) (x := x5) d137_271 rfl) ?_
      refine yL.eq (y_lload (pc := 273) (x := v6) d137_273 rfl) ?_
      refine yL.eq (y_ldc2_w (pc := 275) (v := (-1)) d137_275 q137_201) ?_
      refine yL.eq (y_lcmp (pc := 278) d137_278) ?_
      refine yL.eq (y_lif_ne (pc := 279) (t := 286) d137_279 (by decide)) ?_
      refine yL.ite (fun h11 => ?_) (fun h11 => ?_)
      ·
        refine yL.eq (y_iconst (pc := 282) (v := 1) d137_282 kc_1) ?_
        refine yL.eq (y_goto (pc := 283) (t := 287) d137_283 (by decide)) ?_
        refine yL.eq (y_iadd (pc := 287) d137_287) ?_
        refine yL.eq (y_istore (pc := 288) (ls' := [some (.ref 7), some (.int x1), some (.long x2), none, some (.int x4), some (.int (x5 + 1)), some (.long x6), none, some (.long x8), none, some (.int x10), some (.long v6), none, some (.long v8), none, some (.long v10), none, o17, o18, o19]) d137_288 rfl rfl) ?_
        refine yL.eq (y_lload (pc := 290) (x := x6) d137_290 rfl) ?_
        refine yL.eq (y_aload_n (pc := 292) (x := 7) d137_292 rfl) ?_
        refine yL.eq (y_iload (pc := 293) (x := x10) d137_293 rfl) ?_
        refine yL.eq (y_iconst (pc := 295) (v := 0) d137_295 kc_0) ?_
        refine y_calls_j (pc := 296) (n := 3) (n' := 4) (nc' := nc + 9) (ns' := ns + 54) [.ref 7, .int x10, .int 0] [.long x6] false d137_296 q137_131 rfl rfl rfl (Nat.le_of_ble_eq_true rfl) (Nat.le_of_ble_eq_true rfl) rfl (by decide +kernel) (y_rme (c1 := 9) (s1 := 54) mcs_112 mcs_137 hn (by decide)) (fun v13 M12 => ?_)
        refine yL.eq (y_ladd (pc := 299) d137_299) ?_
        refine yL.eq (y_lstore (pc := 300) (ls' := [some (.ref 7), some (.int x1), some (.long x2), none, some (.int x4), some (.int (x5 + 1)), some (.long (x6 + v13)), none, some (.long x8), none, some (.int x10), some (.long v6), none, some (.long v8), none, some (.long v10), none, o17, o18, o19]) d137_300 rfl rfl) ?_
        refine yL.eq (y_lload (pc := 302) (x := v10) d137_302 rfl) ?_
        refine yL.eq (y_lload (pc := 304) (x := x8) d137_304 rfl) ?_
        refine yL.eq (y_lcmp (pc := 306) d137_306) ?_
        refine yL.eq (y_lif_le (pc := 307) (t := 315) d137_307 (by decide)) ?_
        refine yL.ite (fun h14 => ?_) (fun h14 => ?_)
        ·
          refine yL.eq (y_lload (pc := 315) (x := x8) d137_315 rfl) ?_
          refine yL.eq (y_lstore (pc := 317) (ls' := [some (.ref 7), some (.int x1), some (.long x2), none, some (.int x4), some (.int (x5 + 1)), some (.long (x6 + v13)), none, some (.long x8), none, some (.int x10), some (.long v6), none, some (.long v8), none, some (.long v10), none, o17, o18, o19]) d137_317 rfl rfl) ?_
          refine yL.eq (y_lload (pc := 319) (x := v6) d137_319 rfl) ?_
          refine yL.eq (y_ldc2_w (pc := 321) (v := (-1)) d137_321 q137_201) ?_
          refine yL.eq (y_lcmp (pc := 324) d137_324) ?_
          refine yL.eq (y_lif_ne (pc := 325) (t := 346) d137_325 (by decide)) ?_
          refine yL.ite (fun h15 => ?_) (fun h15 => ?_)
          ·
            refine yL.eq (y_aload_n (pc := 328) (x := 7) d137_328 rfl) ?_
            refine yL.eq (y_iload (pc := 329) (x := x10) d137_329 rfl) ?_
            refine yL.eq (y_bipush (pc := 331) (v := 8) d137_331 kb_8) ?_
            refine y_calls_j (pc := 333) (n := 3) (n' := 4) (nc' := nc + 11) (ns' := ns + 66) [.ref 7, .int x10, .int 8] [] false d137_333 q137_131 rfl rfl rfl (Nat.le_of_ble_eq_true rfl) (Nat.le_of_ble_eq_true rfl) rfl (by decide +kernel) (y_rme (c1 := 11) (s1 := 66) mcs_112 mcs_137 hn (by decide)) (fun v17 M16 => ?_)
            refine yL.eq (y_ldc2_w (pc := 336) (v := (-1)) d137_336 q137_201) ?_
            refine yL.eq (y_lcmp (pc := 339) d137_339) ?_
            refine yL.eq (y_lif_ne (pc := 340) (t := 420) d137_340 (by decide)) ?_
            refine yL.ite (fun h18 => ?_) (fun h18 => ?_)
            ·
              refine yL.eq (y_goto (pc := 343) (t := 383) d137_343 (by decide)) ?_
              exact yL.rf
            ·
              refine yL.eq (y_iconst (pc := 420) (v := 0) d137_420 kc_0) ?_
              refine yL.eq (y_istore_n (pc := 421) (ls' := [some (.ref 7), some (.int 0), some (.long x2), none, some (.int x4), some (.int (x5 + 1)), some (.long (x6 + v13)), none, some (.long x8), none, some (.int x10), some (.long v6), none, some (.long v8), none, some (.long v10), none, o17, o18, o19]) d137_421 rfl rfl) ?_
              refine yL.eq (y_iconst (pc := 422) (v := 0) d137_422 kc_0) ?_
              refine yL.eq (y_istore (pc := 423) (ls' := [some (.ref 7), some (.int 0), some (.long x2), none, some (.int x4), some (.int (x5 + 1)), some (.long (x6 + v13)), none, some (.long x8), none, some (.int x10), some (.long v6), none, some (.long v8), none, some (.long v10), none, some (.int 0), o18, o19]) d137_423 rfl rfl) ?_
              exact yL.rf
          ·
            refine yL.eq (y_aload_n (pc := 346) (x := 7) d137_346 rfl) ?_
            refine yL.eq (y_iload (pc := 347) (x := x10) d137_347 rfl) ?_
            refine yL.eq (y_bipush (pc := 349) (v := 8) d137_349 kb_8) ?_
            refine y_calls_j (pc := 351) (n := 3) (n' := 4) (nc' := nc + 11) (ns' := ns + 66) [.ref 7, .int x10, .int 8] [] false d137_351 q137_131 rfl rfl rfl (Nat.le_of_ble_eq_true rfl) (Nat.le_of_ble_eq_true rfl) rfl (by decide +kernel) (y_rme (c1 := 11) (s1 := 66) mcs_112 mcs_137 hn (by decide)) (fun v20 M19 => ?_)
            refine yL.eq (y_lload (pc := 354) (x := v6) d137_354 rfl) ?_
            refine yL.eq (y_aload_n (pc := 356) (x := 7) d137_356 rfl) ?_
            refine yL.eq (y_iload (pc := 357) (x := x10) d137_357 rfl) ?_
            refine yL.eq (y_iconst (pc := 359) (v := 0) d137_359 kc_0) ?_
            refine y_calls_j (pc := 360) (n := 3) (n' := 4) (nc' := nc + 13) (ns' := ns + 78) [.ref 7, .int x10, .int 0] [.long v6, .long v20] false d137_360 q137_131 rfl rfl rfl (Nat.le_of_ble_eq_true rfl) (Nat.le_of_ble_eq_true rfl) rfl (by decide +kernel) (y_rme (c1 := 13) (s1 := 78) mcs_112 mcs_137 hn (by decide)) (fun v22 M21 => ?_)
            refine yL.eq (y_ladd (pc := 363) d137_363) ?_
            refine yL.eq (y_lcmp (pc := 364) d137_364) ?_
            refine yL.eq (y_lif_ne (pc := 365) (t := 420) d137_365 (by decide)) ?_
            refine yL.ite (fun h23 => ?_) (fun h23 => ?_)
            ·
              refine yL.eq (y_aload_n (pc := 368) (x := 7) d137_368 rfl) ?_
              refine yL.eq (y_iload (pc := 369) (x := x10) d137_369 rfl) ?_
              refine yL.eq (y_bipush (pc := 371) (v := 8) d137_371 kb_8) ?_
              refine y_calls_j (pc := 373) (n := 3) (n' := 4) (nc' := nc + 15) (ns' := ns + 90) [.ref 7, .int x10, .int 8] [] false d137_373 q137_131 rfl rfl rfl (Nat.le_of_ble_eq_true rfl) (Nat.le_of_ble_eq_true rfl) rfl (by decide +kernel) (y_rme (c1 := 15) (s1 := 90) mcs_112 mcs_137 hn (by decide)) (fun v25 M24 => ?_)
              refine yL.eq (y_iload (pc := 376) (x := x4) d137_376 rfl) ?_
              refine yL.eq (y_i2l (pc := 378) d137_378) ?_
              refine yL.eq (y_lcmp (pc := 379) d137_379) ?_
              refine yL.eq (y_lif_gt (pc := 380) (t := 420) d137_380 (by decide)) ?_
              refine yL.ite (fun h26 => ?_) (fun h26 => ?_)
              ·
                exact yL.rf
              ·
                refine yL.eq (y_iconst (pc := 420) (v := 0) d137_420 kc_0) ?_
                refine yL.eq (y_istore_n (pc := 421) (ls' := [some (.ref 7), some (.int 0), some (.long x2), none, some (.int x4), some (.int (x5 + 1)), some (.long (x6 + v13)), none, some (.long x8), none, some (.int x10), some (.long v6), none, some (.long v8), none, some (.long v10), none, o17, o18, o19]) d137_421 rfl rfl) ?_
                refine yL.eq (y_iconst (pc := 422) (v := 0) d137_422 kc_0) ?_
                refine yL.eq (y_istore (pc := 423) (ls' := [some (.ref 7), some (.int 0), some (.long x2), none, some (.int x4), some (.int (x5 + 1)), some (.long (x6 + v13)), none, some (.long x8), none, some (.int x10), some (.long v6), none, some (.long v8), none, some (.long v10), none, some (.int 0), o18, o19]) d137_423 rfl rfl) ?_
                exact yL.rf
            ·
              refine yL.eq (y_iconst (pc := 420) (v := 0) d137_420 kc_0) ?_
              refine yL.eq (y_istore_n (pc := 421) (ls' := [some (.ref 7), some (.int 0), some (.long x2), none, some (.int x4), some (.int (x5 + 1)), some (.long (x6 + v13)), none, some (.long x8), none, some (.int x10), some (.long v6), none, some (.long v8), none, some (.long v10), none, o17, o18, o19]) d137_421 rfl rfl) ?_
              refine yL.eq (y_iconst (pc := 422) (v := 0) d137_422 kc_0) ?_
              refine yL.eq (y_istore (pc := 423) (ls' := [some (.ref 7), some (.int 0), some (.long x2), none, some (.int x4), some (.int (x5 + 1)), some (.long (x6 + v13)), none, some (.long x8), none, some (.int x10), some (.long v6), none, some (.long v8), none, some (.long v10), none, some (.int 0), o18, o19]) d137_423 rfl rfl) ?_
              exact yL.rf
        ·
          refine yL.eq (y_lload (pc := 310) (x := v10) d137_310 rfl) ?_
          refine yL.eq (y_goto (pc := 312) (t := 317) d137_312 (by decide)) ?_
          refine yL.eq (y_lstore (pc := 317) (ls' := [some (.ref 7), some (.int x1), some (.long x2), none, some (.int x4), some (.int (x5 + 1)), some (.long (x6 + v13)), none, some (.long v10), none, some (.int x10), some (.long v6), none, some (.long v8), none, some (.long v10), none, o17, o18, o19]) d137_317 rfl rfl) ?_
          refine yL.eq (y_lload (pc := 319) (x := v6) d137_319 rfl) ?_
          refine yL.eq (y_ldc2_w (pc := 321) (v := (-1)) d137_321 q137_201) ?_
          refine yL.eq (y_lcmp (pc := 324) d137_324) ?_
          refine yL.eq (y_lif_ne (pc := 325) (t := 346) d137_325 (by decide)) ?_
          refine yL.ite (fun h27 => ?_) (fun h27 => ?_)
          ·
            refine yL.eq (y_aload_n (pc := 328) (x := 7) d137_328 rfl) ?_
            refine yL.eq (y_iload (pc := 329) (x := x10) d137_329 rfl) ?_
            refine yL.eq (y_bipush (pc := 331) (v := 8) d137_331 kb_8) ?_
            refine y_calls_j (pc := 333) (n := 3) (n' := 4) (nc' := nc + 11) (ns' := ns + 66) [.ref 7, .int x10, .int 8] [] false d137_333 q137_131 rfl rfl rfl (Nat.le_of_ble_eq_true rfl) (Nat.le_of_ble_eq_true rfl) rfl (by decide +kernel) (y_rme (c1 := 11) (s1 := 66) mcs_112 mcs_137 hn (by decide)) (fun v29 M28 => ?_)
            refine yL.eq (y_ldc2_w (pc := 336) (v := (-1)) d137_336 q137_201) ?_
            refine yL.eq (y_lcmp (pc := 339) d137_339) ?_
            refine yL.eq (y_lif_ne (pc := 340) (t := 420) d137_340 (by decide)) ?_
            refine yL.ite (fun h30 => ?_) (fun h30 => ?_)
            ·
              refine yL.eq (y_goto (pc := 343) (t := 383) d137_343 (by decide)) ?_
              exact yL.rf
            ·
              refine yL.eq (y_iconst (pc := 420) (v := 0) d137_420 kc_0) ?_
              refine yL.eq (y_istore_n (pc := 421) (ls' := [some (.ref 7), some (.int 0), some (.long x2), none, some (.int x4), some (.int (x5 + 1)), some (.long (x6 + v13)), none, some (.long v10), none, some (.int x10), some (.long v6), none, some (.long v8), none, some (.long v10), none, o17, o18, o19]) d137_421 rfl rfl) ?_
              refine yL.eq (y_iconst (pc := 422) (v := 0) d137_422 kc_0) ?_
              refine yL.eq (y_istore (pc := 423) (ls' := [some (.ref 7), some (.int 0), some (.long x2), none, some (.int x4), some (.int (x5 + 1)), some (.long (x6 + v13)), none, some (.long v10), none, some (.int x10), some (.long v6), none, some (.long v8), none, some (.long v10), none, some (.int 0), o18, o19]) d137_423 rfl rfl) ?_
              exact yL.rf
          ·
            refine yL.eq (y_aload_n (pc := 346) (x := 7) d137_346 rfl) ?_
            refine yL.eq (y_iload (pc := 347) (x := x10) d137_347 rfl) ?_
            refine yL.eq (y_bipush (pc := 349) (v := 8) d137_349 kb_8) ?_
            refine y_calls_j (pc := 351) (n := 3) (n' := 4) (nc' := nc + 11) (ns' := ns + 66) [.ref 7, .int x10, .int 8] [] false d137_351 q137_131 rfl rfl rfl (Nat.le_of_ble_eq_true rfl) (Nat.le_of_ble_eq_true rfl) rfl (by decide +kernel) (y_rme (c1 := 11) (s1 := 66) mcs_112 mcs_137 hn (by decide)) (fun v32 M31 => ?_)
            refine yL.eq (y_lload (pc := 354) (x := v6) d137_354 rfl) ?_
            refine yL.eq (y_aload_n (pc := 356) (x := 7) d137_356 rfl) ?_
            refine yL.eq (y_iload (pc := 357) (x := x10) d137_357 rfl) ?_
            refine yL.eq (y_iconst (pc := 359) (v := 0) d137_359 kc_0) ?_
            refine y_calls_j (pc := 360) (n := 3) (n' := 4) (nc' := nc + 13) (ns' := ns + 78) [.ref 7, .int x10, .int 0] [.long v6, .long v32] false d137_360 q137_131 rfl rfl rfl (Nat.le_of_ble_eq_true rfl) (Nat.le_of_ble_eq_true rfl) rfl (by decide +kernel) (y_rme (c1 := 13) (s1 := 78) mcs_112 mcs_137 hn (by decide)) (fun v34 M33 => ?_)
            refine yL.eq (y_ladd (pc := 363) d137_363) ?_
            refine yL.eq (y_lcmp (pc := 364) d137_364) ?_
            refine yL.eq (y_lif_ne (pc := 365) (t := 420) d137_365 (by decide)) ?_
            refine yL.ite (fun h35 => ?_) (fun h35 => ?_)
            ·
              refine yL.eq (y_aload_n (pc := 368) (x := 7) d137_368 rfl) ?_
              refine yL.eq (y_iload (pc := 369) (x := x10) d137_369 rfl) ?_
              refine yL.eq (y_bipush (pc := 371) (v := 8) d137_371 kb_8) ?_
              refine y_calls_j (pc := 373) (n := 3) (n' := 4) (nc' := nc + 15) (ns' := ns + 90) [.ref 7, .int x10, .int 8] [] false d137_373 q137_131 rfl rfl rfl (Nat.le_of_ble_eq_true rfl) (Nat.le_of_ble_eq_true rfl) rfl (by decide +kernel) (y_rme (c1 := 15) (s1 := 90) mcs_112 mcs_137 hn (by decide)) (fun v37 M36 => ?_)
              refine yL.eq (y_iload (pc := 376) (x := x4) d137_376 rfl) ?_
              refine yL.eq (y_i2l (pc := 378) d137_378) ?_
              refine yL.eq (y_lcmp (pc := 379) d137_379) ?_
              refine yL.eq (y_lif_gt (pc := 380) (t := 420) d137_380 (by decide)) ?_
              refine yL.ite (fun h38 => ?_) (fun h38 => ?_)
              ·
                exact yL.rf
              ·
                refine yL.eq (y_iconst (pc := 420) (v := 0) d137_420 kc_0) ?_
                refine yL.eq (y_istore_n (pc := 421) (ls' := [some (.ref 7), some (.int 0), some (.long x2), none, some (.int x4), some (.int (x5 + 1)), some (.long (x6 + v13)), none, some (.long v10), none, some (.int x10), some (.long v6), none, some (.long v8), none, some (.long v10), none, o17, o18, o19]) d137_421 rfl rfl) ?_
                refine yL.eq (y_iconst (pc := 422) (v := 0) d137_422 kc_0) ?_
                refine yL.eq (y_istore (pc := 423) (ls' := [some (.ref 7), some (.int 0), some (.long x2), none, some (.int x4), some (.int (x5 + 1)), some (.long (x6 + v13)), none, some (.long v10), none, some (.int x10), some (.long v6), none, some (.long v8), none, some (.long v10), none, some (.int 0), o18, o19]) d137_423 rfl rfl) ?_
                exact yL.rf
            ·
              refine yL.eq (y_iconst (pc := 420) (v := 0) d137_420 kc_0) ?_
              refine yL.eq (y_istore_n (pc := 421) (ls' := [some (.ref 7), some (.int 0), some (.long x2), none, some (.int x4), some (.int (x5 + 1)), some (.long (x6 + v13)), none, some (.long v10), none, some (.int x10), some (.long v6), none, some (.long v8), none, some (.long v10), none, o17, o18, o19]) d137_421 rfl rfl) ?_
              refine yL.eq (y_iconst (pc := 422) (v := 0) d137_422 kc_0) ?_
              refine yL.eq (y_istore (pc := 423) (ls' := [some (.ref 7), some (.int 0), some (.long x2), none, some (.int x4), some (.int (x5 + 1)), some (.long (x6 + v13)), none, some (.long v10), none, some (.int x10), some (.long v6), none, some (.long v8), none, some (.long v10), none, some (.int 0), o18, o19]) d137_423 rfl rfl) ?_
              exact yL.rf
      ·
        refine yL.eq (y_iconst (pc := 286) (v := 0) d137_286 kc_0) ?_
        refine yL.eq (y_iadd (pc := 287) d137_287) ?_
        refine yL.eq (y_istore (pc := 288) (ls' := [some (.ref 7), some (.int x1), some (.long x2), none, some (.int x4), some (.int (x5 + 0)), some (.long x6), none, some (.long x8), none, some (.int x10), some (.long v6), none, some (.long v8), none, some (.long v10), none, o17, o18, o19]) d137_288 rfl rfl) ?_
        refine yL.eq (y_lload (pc := 290) (x := x6) d137_290 rfl) ?_
        refine yL.eq (y_aload_n (pc := 292) (x := 7) d137_292 rfl) ?_
        refine yL.eq (y_iload (pc := 293) (x := x10) d137_293 rfl) ?_
        refine yL.eq (y_iconst (pc := 295) (v := 0) d137_295 kc_0) ?_
        refine y_calls_j (pc := 296) (n := 3) (n' := 4) (nc' := nc + 9) (ns' := ns + 54) [.ref 7, .int x10, .int 0] [.long x6] false d137_296 q137_131 rfl rfl rfl (Nat.le_of_ble_eq_true rfl) (Nat.le_of_ble_eq_true rfl) rfl (by decide +kernel) (y_rme (c1 := 9) (s1 := 54) mcs_112 mcs_137 hn (by decide)) (fun v40 M39 => ?_)
        refine yL.eq (y_ladd (pc := 299) d137_299) ?_
        refine yL.eq (y_lstore (pc := 300) (ls' := [some (.ref 7), some (.int x1), some (.long x2), none, some (.int x4), some (.int (x5 + 0)), some (.long (x6 + v40)), none, some (.long x8), none, some (.int x10), some (.long v6), none, some (.long v8), none, some (.long v10), none, o17, o18, o19]) d137_300 rfl rfl) ?_
        refine yL.eq (y_lload (pc := 302) (x := v10) d137_302 rfl) ?_
        refine yL.eq (y_lload (pc := 304) (x := x8) d137_304 rfl) ?_
        refine yL.eq (y_lcmp (pc := 306) d137_306) ?_
        refine yL.eq (y_lif_le (pc := 307) (t := 315) d137_307 (by decide)) ?_
        refine yL.ite (fun h41 => ?_) (fun h41 => ?_)
        ·
          refine yL.eq (y_lload (pc := 315) (x := x8) d137_315 rfl) ?_
          refine yL.eq (y_lstore (pc := 317) (ls' := [some (.ref 7), some (.int x1), some (.long x2), none, some (.int x4), some (.int (x5 + 0)), some (.long (x6 + v40)), none, some (.long x8), none, some (.int x10), some (.long v6), none, some (.long v8), none, some (.long v10), none, o17, o18, o19]) d137_317 rfl rfl) ?_
          refine yL.eq (y_lload (pc := 319) (x := v6) d137_319 rfl) ?_
          refine yL.eq (y_ldc2_w (pc := 321) (v := (-1)) d137_321 q137_201) ?_
          refine yL.eq (y_lcmp (pc := 324) d137_324) ?_
          refine yL.eq (y_lif_ne (pc := 325) (t := 346) d137_325 (by decide)) ?_
          refine yL.ite (fun h42 => ?_) (fun h42 => ?_)
          ·
            refine yL.eq (y_aload_n (pc := 328) (x := 7) d137_328 rfl) ?_
            refine yL.eq (y_iload (pc := 329) (x := x10) d137_329 rfl) ?_
            refine yL.eq (y_bipush (pc := 331) (v := 8) d137_331 kb_8) ?_
            refine y_calls_j (pc := 333) (n := 3) (n' := 4) (nc' := nc + 11) (ns' := ns + 66) [.ref 7, .int x10, .int 8] [] false d137_333 q137_131 rfl rfl rfl (Nat.le_of_ble_eq_true rfl) (Nat.le_of_ble_eq_true rfl) rfl (by decide +kernel) (y_rme (c1 := 11) (s1 := 66) mcs_112 mcs_137 hn (by decide)) (fun v44 M43 => ?_)
            refine yL.eq (y_ldc2_w (pc := 336) (v := (-1)) d137_336 q137_201) ?_
            refine yL.eq (y_lcmp (pc := 339) d137_339) ?_
            refine yL.eq (y_lif_ne (pc := 340) (t := 420) d137_340 (by decide)) ?_
            refine yL.ite (fun h45 => ?_) (fun h45 => ?_)
            ·
              refine yL.eq (y_goto (pc := 343) (t := 383) d137_343 (by decide)) ?_
              exact yL.rf
            ·
              refine yL.eq (y_iconst (pc := 420) (v := 0) d137_420 kc_0) ?_
              refine yL.eq (y_istore_n (pc := 421) (ls' := [some (.ref 7), some (.int 0), some (.long x2), none, some (.int x4), some (.int (x5 + 0)), some (.long (x6 + v40)), none, some (.long x8), none, some (.int x10), some (.long v6), none, some (.long v8), none, some (.long v10), none, o17, o18, o19]) d137_421 rfl rfl) ?_
              refine yL.eq (y_iconst (pc := 422) (v := 0) d137_422 kc_0) ?_
              refine yL.eq (y_istore (pc := 423) (ls' := [some (.ref 7), some (.int 0), some (.long x2), none, some (.int x4), some (.int (x5 + 0)), some (.long (x6 + v40)), none, some (.long x8), none, some (.int x10), some (.long v6), none, some (.long v8), none, some (.long v10), none, some (.int 0), o18, o19]) d137_423 rfl rfl) ?_
              exact yL.rf
          ·
            refine yL.eq (y_aload_n (pc := 346) (x := 7) d137_346 rfl) ?_
            refine yL.eq (y_iload (pc := 347) (x := x10) d137_347 rfl) ?_
            refine yL.eq (y_bipush (pc := 349) (v := 8) d137_349 kb_8) ?_
            refine y_calls_j (pc := 351) (n := 3) (n' := 4) (nc' := nc + 11) (ns' := ns + 66) [.ref 7, .int x10, .int 8] [] false d137_351 q137_131 rfl rfl rfl (Nat.le_of_ble_eq_true rfl) (Nat.le_of_ble_eq_true rfl) rfl (by decide +kernel) (y_rme (c1 := 11) (s1 := 66) mcs_112 mcs_137 hn (by decide)) (fun v47 M46 => ?_)
            refine yL.eq (y_lload (pc := 354) (x := v6) d137_354 rfl) ?_
            refine yL.eq (y_aload_n (pc := 356) (x := 7) d137_356 rfl) ?_
            refine yL.eq (y_iload (pc := 357) (x := x10) d137_357 rfl) ?_
            refine yL.eq (y_iconst (pc := 359) (v := 0) d137_359 kc_0) ?_
            refine y_calls_j (pc := 360) (n := 3) (n' := 4) (nc' := nc + 13) (ns' := ns + 78) [.ref 7, .int x10, .int 0] [.long v6, .long v47] false d137_360 q137_131 rfl rfl rfl (Nat.le_of_ble_eq_true rfl) (Nat.le_of_ble_eq_true rfl) rfl (by decide +kernel) (y_rme (c1 := 13) (s1 := 78) mcs_112 mcs_137 hn (by decide)) (fun v49 M48 => ?_)
            refine yL.eq (y_ladd (pc := 363) d137_363) ?_
            refine yL.eq (y_lcmp (pc := 364) d137_364) ?_
            refine yL.eq (y_lif_ne (pc := 365) (t := 420) d137_365 (by decide)) ?_
            refine yL.ite (fun h50 => ?_) (fun h50 => ?_)
            ·
              refine yL.eq (y_aload_n (pc := 368) (x := 7) d137_368 rfl) ?_
              refine yL.eq (y_iload (pc := 369) (x := x10) d137_369 rfl) ?_
              refine yL.eq (y_bipush (pc := 371) (v := 8) d137_371 kb_8) ?_
              refine y_calls_j (pc := 373) (n := 3) (n' := 4) (nc' := nc + 15) (ns' := ns + 90) [.ref 7, .int x10, .int 8] [] false d137_373 q137_131 rfl rfl rfl (Nat.le_of_ble_eq_true rfl) (Nat.le_of_ble_eq_true rfl) rfl (by decide +kernel) (y_rme (c1 := 15) (s1 := 90) mcs_112 mcs_137 hn (by decide)) (fun v52 M51 => ?_)
              refine yL.eq (y_iload (pc := 376) (x := x4) d137_376 rfl) ?_
              refine yL.eq (y_i2l (pc := 378) d137_378) ?_
              refine yL.eq (y_lcmp (pc := 379) d137_379) ?_
              refine yL.eq (y_lif_gt (pc := 380) (t := 420) d137_380 (by decide)) ?_
              refine yL.ite (fun h53 => ?_) (fun h53 => ?_)
              ·
                exact yL.rf
              ·
                refine yL.eq (y_iconst (pc := 420) (v := 0) d137_420 kc_0) ?_
                refine yL.eq (y_istore_n (pc := 421) (ls' := [some (.ref 7), some (.int 0), some (.long x2), none, some (.int x4), some (.int (x5 + 0)), some (.long (x6 + v40)), none, some (.long x8), none, some (.int x10), some (.long v6), none, some (.long v8), none, some (.long v10), none, o17, o18, o19]) d137_421 rfl rfl) ?_
                refine yL.eq (y_iconst (pc := 422) (v := 0) d137_422 kc_0) ?_
                refine yL.eq (y_istore (pc := 423) (ls' := [some (.ref 7), some (.int 0), some (.long x2), none, some (.int x4), some (.int (x5 + 0)), some (.long (x6 + v40)), none, some (.long x8), none, some (.int x10), some (.long v6), none, some (.long v8), none, some (.long v10), none, some (.int 0), o18, o19]) d137_423 rfl rfl) ?_
                exact yL.rf
            ·
              refine yL.eq (y_iconst (pc := 420) (v := 0) d137_420 kc_0) ?_
              refine yL.eq (y_istore_n (pc := 421) (ls' := [some (.ref 7), some (.int 0), some (.long x2), none, some (.int x4), some (.int (x5 + 0)), some (.long (x6 + v40)), none, some (.long x8), none, some (.int x10), some (.long v6), none, some (.long v8), none, some (.long v10), none, o17, o18, o19]) d137_421 rfl rfl) ?_
              refine yL.eq (y_iconst (pc := 422) (v := 0) d137_422 kc_0) ?_
              refine yL.eq (y_istore (pc := 423) (ls' := [some (.ref 7), some (.int 0), some (.long x2), none, some (.int x4), some (.int (x5 + 0)), some (.long (x6 + v40)), none, some (.long x8), none, some (.int x10), some (.long v6), none, some (.long v8), none, some (.long v10), none, some (.int 0), o18, o19]) d137_423 rfl rfl) ?_
              exact yL.rf
        ·
          refine yL.eq (y_lload (pc := 310) (x := v10) d137_310 rfl) ?_
          refine yL.eq (y_goto (pc := 312) (t := 317) d137_312 (by decide)) ?_
          refine yL.eq (y_lstore (pc := 317) (ls' := [some (.ref 7), some (.int x1), some (.long x2), none, some (.int x4), some (.int (x5 + 0)), some (.long (x6 + v40)), none, some (.long v10), none, some (.int x10), some (.long v6), none, some (.long v8), none, some (.long v10), none, o17, o18, o19]) d137_317 rfl rfl) ?_
          refine yL.eq (y_lload (pc := 319) (x := v6) d137_319 rfl) ?_
          refine yL.eq (y_ldc2_w (pc := 321) (v := (-1)) d137_321 q137_201) ?_
          refine yL.eq (y_lcmp (pc := 324) d137_324) ?_
          refine yL.eq (y_lif_ne (pc := 325) (t := 346) d137_325 (by decide)) ?_
          refine yL.ite (fun h54 => ?_) (fun h54 => ?_)
          ·
            refine yL.eq (y_aload_n (pc := 328) (x := 7) d137_328 rfl) ?_
            refine yL.eq (y_iload (pc := 329) (x := x10) d137_329 rfl) ?_
            refine yL.eq (y_bipush (pc := 331) (v := 8) d137_331 kb_8) ?_
            refine y_calls_j (pc := 333) (n := 3) (n' := 4) (nc' := nc + 11) (ns' := ns + 66) [.ref 7, .int x10, .int 8] [] false d137_333 q137_131 rfl rfl rfl (Nat.le_of_ble_eq_true rfl) (Nat.le_of_ble_eq_true rfl) rfl (by decide +kernel) (y_rme (c1 := 11) (s1 := 66) mcs_112 mcs_137 hn (by decide)) (fun v56 M55 => ?_)
            refine yL.eq (y_ldc2_w (pc := 336) (v := (-1)) d137_336 q137_201) ?_
            refine yL.eq (y_lcmp (pc := 339) d137_339) ?_
            refine yL.eq (y_lif_ne (pc := 340) (t := 420) d137_340 (by decide)) ?_
            refine yL.ite (fun h57 => ?_) (fun h57 => ?_)
            ·
              refine yL.eq (y_goto (pc := 343) (t := 383) d137_343 (by decide)) ?_
              exact yL.rf
            ·
              refine yL.eq (y_iconst (pc := 420) (v := 0) d137_420 kc_0) ?_
              refine yL.eq (y_istore_n (pc := 421) (ls' := [some (.ref 7), some (.int 0), some (.long x2), none, some (.int x4), some (.int (x5 + 0)), some (.long (x6 + v40)), none, some (.long v10), none, some (.int x10), some (.long v6), none, some (.long v8), none, some (.long v10), none, o17, o18, o19]) d137_421 rfl rfl) ?_
              refine yL.eq (y_iconst (pc := 422) (v := 0) d137_422 kc_0) ?_
              refine yL.eq (y_istore (pc := 423) (ls' := [some (.ref 7), some (.int 0), some (.long x2), none, some (.int x4), some (.int (x5 + 0)), some (.long (x6 + v40)), none, some (.long v10), none, some (.int x10), some (.long v6), none, some (.long v8), none, some (.long v10), none, some (.int 0), o18, o19]) d137_423 rfl rfl) ?_
              exact yL.rf
          ·
            refine yL.eq (y_aload_n (pc := 346) (x := 7) d137_346 rfl) ?_
            refine yL.eq (y_iload (pc := 347) (x := x10) d137_347 rfl) ?_
            refine yL.eq (y_bipush (pc := 349) (v := 8) d137_349 kb_8) ?_
            refine y_calls_j (pc := 351) (n := 3) (n' := 4) (nc' := nc + 11) (ns' := ns + 66) [.ref 7, .int x10, .int 8] [] false d137_351 q137_131 rfl rfl rfl (Nat.le_of_ble_eq_true rfl) (Nat.le_of_ble_eq_true rfl) rfl (by decide +kernel) (y_rme (c1 := 11) (s1 := 66) mcs_112 mcs_137 hn (by decide)) (fun v59 M58 => ?_)
            refine yL.eq (y_lload (pc := 354) (x := v6) d137_354 rfl) ?_
            refine yL.eq (y_aload_n (pc := 356) (x := 7) d137_356 rfl) ?_
            refine yL.eq (y_iload (pc := 357) (x := x10) d137_357 rfl) ?_
            refine yL.eq (y_iconst (pc := 359) (v := 0) d137_359 kc_0) ?_
            refine y_calls_j (pc := 360) (n := 3) (n' := 4) (nc' := nc + 13) (ns' := ns + 78) [.ref 7, .int x10, .int 0] [.long v6, .long v59] false d137_360 q137_131 rfl rfl rfl (Nat.le_of_ble_eq_true rfl) (Nat.le_of_ble_eq_true rfl) rfl (by decide +kernel) (y_rme (c1 := 13) (s1 := 78) mcs_112 mcs_137 hn (by decide)) (fun v61 M60 => ?_)
            refine yL.eq (y_ladd (pc := 363) d137_363) ?_
            refine yL.eq (y_lcmp (pc := 364) d137_364) ?_
            refine yL.eq (y_lif_ne (pc := 365) (t := 420) d137_365 (by decide)) ?_
            refine yL.ite (fun h62 => ?_) (fun h62 => ?_)
            ·
              refine yL.eq (y_aload_n (pc := 368) (x := 7) d137_368 rfl) ?_
              refine yL.eq (y_iload (pc := 369) (x := x10) d137_369 rfl) ?_
              refine yL.eq (y_bipush (pc := 371) (v := 8) d137_371 kb_8) ?_
              refine y_calls_j (pc := 373) (n := 3) (n' := 4) (nc' := nc + 15) (ns' := ns + 90) [.ref 7, .int x10, .int 8] [] false d137_373 q137_131 rfl rfl rfl (Nat.le_of_ble_eq_true rfl) (Nat.le_of_ble_eq_true rfl) rfl (by decide +kernel) (y_rme (c1 := 15) (s1 := 90) mcs_112 mcs_137 hn (by decide)) (fun v64 M63 => ?_)
              refine yL.eq (y_iload (pc := 376) (x := x4) d137_376 rfl) ?_
              refine yL.eq (y_i2l (pc := 378) d137_378) ?_
              refine yL.eq (y_lcmp (pc := 379) d137_379) ?_
              refine yL.eq (y_lif_gt (pc := 380) (t := 420) d137_380 (by decide)) ?_
              refine yL.ite (fun h65 => ?_) (fun h65 => ?_)
              ·
                exact yL.rf
              ·
                refine yL.eq (y_iconst (pc := 420) (v := 0) d137_420 kc_0) ?_
                refine yL.eq (y_istore_n (pc := 421) (ls' := [some (.ref 7), some (.int 0), some (.long x2), none, some (.int x4), some (.int (x5 + 0)), some (.long (x6 + v40)), none, some (.long v10), none, some (.int x10), some (.long v6), none, some (.long v8), none, some (.long v10), none, o17, o18, o19]) d137_421 rfl rfl) ?_
                refine yL.eq (y_iconst (pc := 422) (v := 0) d137_422 kc_0) ?_
                refine yL.eq (y_istore (pc := 423) (ls' := [some (.ref 7), some (.int 0), some (.long x2), none, some (.int x4), some (.int (x5 + 0)), some (.long (x6 + v40)), none, some (.long v10), none, some (.int x10), some (.long v6), none, some (.long v8), none, some (.long v10), none, some (.int 0), o18, o19]) d137_423 rfl rfl) ?_
                exact yL.rf
            ·
              refine yL.eq (y_iconst (pc := 420) (v := 0) d137_420 kc_0) ?_
              refine yL.eq (y_istore_n (pc := 421) (ls' := [some (.ref 7), some (.int 0), some (.long x2), none, some (.int x4), some (.int (x5 + 0)), some (.long (x6 + v40)), none, some (.long v10), none, some (.int x10), some (.long v6), none, some (.long v8), none, some (.long v10), none, o17, o18, o19]) d137_421 rfl rfl) ?_
              refine yL.eq (y_iconst (pc := 422) (v := 0) d137_422 kc_0) ?_
              refine yL.eq (y_istore (pc := 423) (ls' := [some (.ref 7), some (.int 0), some (.long x2), none, some (.int x4), some (.int (x5 + 0)), some (.long (x6 + v40)), none, some (.long v10), none, some (.int x10), some (.long v6), none, some (.long v8), none, some (.long v10), none, some (.int 0), o18, o19]) d137_423 rfl rfl) ?_
              exact yL.rf
  ·
    refine yL.eq (y_ldc2_w (pc := 675) (v := (-1)) d137_675 q137_201) ?_
    refine yL.eq (y_lstore (pc := 678) (ls' := [some (.ref 7), some (.int x1), some (.long x2), none, some (.int x4), some (.int x5), some (.long x6), none, some (.long x8), none, some (.long (-1)), none, o12, o13, o14, o15, o16, o17, o18, o19]) d137_678 rfl rfl) ?_
    refine yL.eq (y_iconst (pc := 680) (v := 0) d137_680 kc_0) ?_
    refine yL.eq (y_istore (pc := 681) (ls' := [some (.ref 7), some (.int x1), some (.long x2), none, some (.int x4), some (.int x5), some (.long x6), none, some (.long x8), none, some (.long (-1)), none, some (.int 0), o13, o14, o15, o16, o17, o18, o19]) d137_681 rfl rfl) ?_
    exact yL.rf
set_option maxRecDepth 20000 in
set_option maxHeartbeats 4000000 in
theorem e137_683 {x1 : Int32} {x2 : Int64} {x4 : Int32} {x5 : Int32} {x6 : Int64} {x8 : Int64} {x10 : Int64} {x12 : Int32} {o13 : Option Value} {o14 : Option Value} {o15 : Option Value} {o16 : Option Value} {o17 : Option Value} {o18 : Option Value} {o19 : Option Value} {M : yM} {nc ns : Nat} (hn : nc + 60 ≤ 6000 ∧ ns + 360 ≤ 36000) : yL (yCj false (yX 109 0 [some (.ref 7), some (.int 1), none] [] M 0 0) fun v2 M1 => if x12.toInt64 < (v2 - x5.toInt64) then if x1 = 0 then yX 137 751 [some (.ref 7), some (.int x1), some (.long x2), none, some (.int x4), some (.int x5), some (.long x6), none, some (.long x8), none, some (.long x10), none, some (.int x12), o13, o14, o15, o16, o17, o18, o19] [] M1 (nc + 1) (ns + 6) else yCj false (yX 113 0 [some (.ref 7), some (.int x12), none] [] M1 0 0) fun v6 M5 => yCj false (yX 112 0 [some (.ref 7), some (.int v6.toInt32), some (.int 7), none] [] M5 0 0) fun v8 M7 => if v8 = (-1) then yX 137 683 [some (.ref 7), some (.int 0), some (.long x2), none, some (.int x4), some (.int x5), some (.long x6), none, some (.long x8), none, some (.long v8), none, some (.int (x12 + 1)), some (.long v8), none, o15, o16, o17, o18, o19] [] M7 (nc + 4) (ns + 24) else if v8 < x10 then yX 137 683 [some (.ref 7), some (.int 0), some (.long x2), none, some (.int x4), some (.int x5), some (.long x6), none, some (.long x8), none, some (.long v8), none, some (.int (x12 + 1)), some (.long v8), none, o15, o16, o17, o18, o19] [] M7 (nc + 4) (ns + 24) else yX 137 683 [some (.ref 7), some (.int 1), some (.long x2), none, some (.int x4), some (.int x5), some (.long x6), none, some (.long x8), none, some (.long v8), none, some (.int (x12 + 1)), some (.long v8), none, o15, o16, o17, o18, o19] [] M7 (nc + 4) (ns + 24) else yX 137 751 [some (.ref 7), some (.int x1), some (.long x2), none, some (.int x4), some (.int x5), some (.long x6), none, some (.long x8), none, some (.long x10), none, some (.int x12), o13, o14, o15, o16, o17, o18, o19] [] M1 (nc + 1) (ns + 6)) (yX 137 683 [some (.ref 7), some (.int x1), some (.long x2), none, some (.int x4), some (.int x5), some (.long x6), none, some (.long x8), none, some (.long x10), none, some (.int x12), o13, o14, o15, o16, o17, o18, o19] [] M nc ns) := by
  refine yL.eq (y_iload (pc := 683) (x := x12) d137_683 rfl) ?_
  refine yL.eq (y_i2l (pc := 685) d137_685) ?_
  refine yL.eq (y_aload_n (pc := 686) (x := 7) d137_686 rfl) ?_
  refine yL.eq (y_iconst (pc := 687) (v := 1) d137_687 kc_1) ?_
  refine y_calls_j (pc := 688) (n := 2) (n' := 3) (nc' := nc + 1) (ns' := ns + 6) [.ref 7, .int 1] [.long x12.toInt64] false d137_688 q137_117 rfl rfl rfl (Nat.le_of_ble_eq_true rfl) (Nat.le_of_ble_eq_true rfl) rfl (by decide +kernel) (y_rmc mcs_109 mcs_137 hn (by decide)) (fun v2 M1 => ?_)
  refine yL.eq (y_iload (pc := 691) (x := x5) d137_691 rfl) ?_
  refine yL.eq (y_i2l (pc := 693) d137_693) ?_
  refine yL.eq (y_lsub (pc := 694) d137_694) ?_
  refine yL.eq (y_lcmp (pc := 695) d137_695) ?_
  refine yL.eq (y_lif_ge (pc := 696) (t := 751) d137_696 (by decide)) ?_
  refine yL.ite (fun h3 => ?_) (fun h3 => ?_)
  ·
    refine yL.eq (y_iload_n (pc := 699) (x := x1) d137_699 rfl) ?_
    refine yL.eq (y_if_eq (pc := 700) (t := 751) d137_700 (by decide)) ?_
    refine yL.ite (fun h4 => ?_) (fun h4 => ?_)
    ·
      exact yL.rf
    ·
      refine yL.eq (y_aload_n (pc := 703) (x := 7) d137_703 rfl) ?_
      refine yL.eq (y_aload_n (pc := 704) (x := 7) d137_704 rfl) ?_
      refine yL.eq (y_iload (pc := 705) (x := x12) d137_705 rfl) ?_
      refine y_calls_j (pc := 707) (n := 2) (n' := 3) (nc' := nc + 2) (ns' := ns + 12) [.ref 7, .int x12] [.ref 7] false d137_707 q137_148 rfl rfl rfl (Nat.le_of_ble_eq_true rfl) (Nat.le_of_ble_eq_true rfl) rfl (by decide +kernel) (y_rme (c1 := 2) (s1 := 12) mcs_113 mcs_137 hn (by decide)) (fun v6 M5 => ?_)
      refine yL.eq (y_l2i (pc := 710) d137_710) ?_
      refine yL.eq (y_bipush (pc := 711) (v := 7) d137_711 kb_7) ?_
      refine y_calls_j (pc := 713) (n := 3) (n' := 4) (nc' := nc + 4) (ns' := ns + 24) [.ref 7, .int v6.toInt32, .int 7] [] false d137_713 q137_131 rfl rfl rfl (Nat.le_of_ble_eq_true rfl) (Nat.le_of_ble_eq_true rfl) rfl (by decide +kernel) (y_rme (c1 := 4) (s1 := 24) mcs_112 mcs_137 hn (by decide)) (fun v8 M7 => ?_)
      refine yL.eq (y_lstore (pc := 716) (ls' := [some (.ref 7), some (.int x1), some (.long x2), none, some (.int x4), some (.int x5), some (.long x6), none, some (.long x8), none, some (.long x10), none, some (.int x12), some (.long v8), none, o15, o16, o17, o18, o19]) d137_716 rfl rfl) ?_
      refine yL.eq (y_lload (pc := 718) (x := v8) d137_718 rfl) ?_
      refine yL.eq (y_ldc2_w (pc := 720) (v := (-1)) d137_720 q137_201) ?_
      refine yL.eq (y_lcmp (pc := 723) d137_723) ?_
      refine yL.eq (y_lif_eq (pc := 724) (t := 739) d137_724 (by decide)) ?_
      refine yL.ite (fun h9 => ?_) (fun h9 => ?_)
      ·
        refine yL.eq (y_iconst (pc := 739) (v := 0) d137_739 kc_0) ?_
        refine yL.eq (y_istore_n (pc := 740) (ls' := [some (.ref 7), some (.int 0), some (.long x2), none, some (.int x4), some (.int x5), some (.long x6), none, some (.long x8), none, some (.long x10), none, some (.int x12), some (.long v8), none, o15, o16, o17, o18, o19]) d137_740 rfl rfl) ?_
        refine yL.eq (y_lload (pc := 741) (x := v8) d137_741 rfl) ?_
        refine yL.eq (y_lstore (pc := 743) (ls' := [some (.ref 7), some (.int 0), some (.long x2), none, some (.int x4), some (.int x5), some (.long x6), none, some (.long x8), none, some (.long v8), none, some (.int x12), some (.long v8), none, o15, o16, o17, o18, o19]) d137_743 rfl rfl) ?_
        refine yL.eq (y_iinc (pc := 745) (v := 1) (x := x12) (ls' := [some (.ref 7), some (.int 0), some (.long x2), none, some (.int x4), some (.int x5), some (.long x6), none, some (.long x8), none, some (.long v8), none, some (.int (x12 + 1)), some (.long v8), none, o15, o16, o17, o18, o19]) d137_745 kc_1 rfl (Nat.le_of_ble_eq_true rfl) rfl) ?_
        refine yL.eq (y_goto (pc := 748) (t := 683) d137_748 (by decide)) ?_
        exact yL.rf
      ·
        refine yL.eq (y_lload (pc := 727) (x := v8) d137_727 rfl) ?_
        refine yL.eq (y_lload (pc := 729) (x := x10) d137_729 rfl) ?_
        refine yL.eq (y_lcmp (pc := 731) d137_731) ?_
        refine yL.eq (y_lif_lt (pc := 732) (t := 739) d137_732 (by decide)) ?_
        refine yL.ite (fun h10 => ?_) (fun h10 => ?_)
        ·
          refine yL.eq (y_iconst (pc := 739) (v := 0) d137_739 kc_0) ?_
          refine yL.eq (y_istore_n (pc := 740) (ls' := [some (.ref 7), some (.int 0), some (.long x2), none, some (.int x4), some (.int x5), some (.long x6), none, some (.long x8), none, some (.long x10), none, some (.int x12), some (.long v8), none, o15, o16, o17, o18, o19]) d137_740 rfl rfl) ?_
          refine yL.eq (y_lload (pc := 741) (x := v8) d137_741 rfl) ?_
          refine yL.eq (y_lstore (pc := 743) (ls' := [some (.ref 7), some (.int 0), some (.long x2), none, some (.int x4), some (.int x5), some (.long x6), none, some (.long x8), none, some (.long v8), none, some (.int x12), some (.long v8), none, o15, o16, o17, o18, o19]) d137_743 rfl rfl) ?_
          refine yL.eq (y_iinc (pc := 745) (v := 1) (x := x12) (ls' := [some (.ref 7), some (.int 0), some (.long x2), none, some (.int x4), some (.int x5), some (.long x6), none, some (.long x8), none, some (.long v8), none, some (.int (x12 + 1)), some (.long v8), none, o15, o16, o17, o18, o19]) d137_745 kc_1 rfl (Nat.le_of_ble_eq_true rfl) rfl) ?_
          refine yL.eq (y_goto (pc := 748) (t := 683) d137_748 (by decide)) ?_
          exact yL.rf
        ·
          refine yL.eq (y_iconst (pc := 735) (v := 1) d137_735 kc_1) ?_
          refine yL.eq (y_goto (pc := 736) (t := 740) d137_736 (by decide)) ?_
          refine yL.eq (y_istore_n (pc := 740) (ls' := [some (.ref 7), some (.int 1), some (.long x2), none, some (.int x4), some (.int x5), some (.long x6), none, some (.long x8), none, some (.long x10), none, some (.int x12), some (.long v8), none, o15, o16, o17, o18, o19]) d137_740 rfl rfl) ?_
          refine yL.eq (y_lload (pc := 741) (x := v8) d137_741 rfl) ?_
          refine yL.eq (y_lstore (pc := 743) (ls' := [some (.ref 7), some (.int 1), some (.long x2), none, some (.int x4), some (.int x5), some (.long x6), none, some (.long x8), none, some (.long v8), none, some (.int x12), some (.long v8), none, o15, o16, o17, o18, o19]) d137_743 rfl rfl) ?_
          refine yL.eq (y_iinc (pc := 745) (v := 1) (x := x12) (ls' := [some (.ref 7), some (.int 1), some (.long x2), none, some (.int x4), some (.int x5), some (.long x6), none, some (.long x8), none, some (.long v8), none, some (.int (x12 + 1)), some (.long v8), none, o15, o16, o17, o18, o19]) d137_745 kc_1 rfl (Nat.le_of_ble_eq_true rfl) rfl) ?_
          refine yL.eq (y_goto (pc := 748) (t := 683) d137_748 (by decide)) ?_
          exact yL.rf
  ·
    exact yL.rf
set_option maxRecDepth 20000 in
set_option maxHeartbeats 4000000 in
theorem e137_383 {o1 : Option Value} {x2 : Int64} {x4 : Int32} {x5 : Int32} {x6 : Int64} {x8 : Int64} {x10 : Int32} {x11 : Int64} {x13 : Int64} {x15 : Int64} {o17 : Option Value} {o18 : Option Value} {o19 : Option Value} {M : yM} {nc ns : Nat} (hn : nc + 60 ≤ 6000 ∧ ns + 360 ≤ 36000) : yL (yCj false (yX 112 0 [some (.ref 7), some (.int x10), some (.int 0), none] [] M 0 0) fun v2 M1 => yCi false (yX 106 0 [some (.long x15), none, some (.long v2), none, some (.long (x6 + 1260)), none] [] M1 0 0) fun v4 M3 => if v4 = 0 then yX 137 425 [some (.ref 7), some (.int 0), some (.long x2), none, some (.int x4), some (.int x5), some (.long x6), none, some (.long x8), none, some (.int x10), some (.long x11), none, some (.long x13), none, some (.long x15), none, some (.int 0), o18, o19] [] M3 (nc + 2) (ns + 12) else if ((x13 >>> ((x10 : Int32).toInt64 &&& 63)) &&& 1) = 0 then yX 137 425 [some (.ref 7), some (.int 1), some (.long x2), none, some (.int x4), some (.int x5), some (.long x6), none, some (.long x8), none, some (.int x10), some (.long x11), none, some (.long x13), none, some (.long x15), none, some (.int 0), o18, o19] [] M3 (nc + 2) (ns + 12) else yX 137 425 [some (.ref 7), some (.int 0), some (.long x2), none, some (.int x4), some (.int x5), some (.long x6), none, some (.long x8), none, some (.int x10), some (.long x11), none, some (.long x13), none, some (.long x15), none, some (.int 0), o18, o19] [] M3 (nc + 2) (ns + 12)) (yX 137 383 [some (.ref 7), o1, some (.long x2), none, some (.int x4), some (.int x5), some (.long x6), none, some (.long x8), none, some (.int x10), some (.long x11), none, some (.long x13), none, some (.long x15), none, o17, o18, o19] [] M nc ns) := by
  refine yL.eq (y_lload (pc := 383) (x := x15) d137_383 rfl) ?_
  refine yL.eq (y_aload_n (pc := 385) (x := 7) d137_385 rfl) ?_
  refine yL.eq (y_iload (pc := 386) (x := x10) d137_386 rfl) ?_
  refine yL.eq (y_iconst (pc := 388) (v := 0) d137_388 kc_0) ?_
  refine y_calls_j (pc := 389) (n := 3) (n' := 4) (nc' := nc + 2) (ns' := ns + 12) [.ref 7, .int x10, .int 0] [.long x15] false d137_389 q137_131 rfl rfl rfl (Nat.le_of_ble_eq_true rfl) (Nat.le_of_ble_eq_true rfl) rfl (by decide +kernel) (y_rmc mcs_112 mcs_137 hn (by decide)) (fun v2 M1 => ?_)
  refine yL.eq (y_lload (pc := 392) (x := x6) d137_392 rfl) ?_
  refine yL.eq (y_ldc2_w (pc := 394) (v := 1260) d137_394 q137_203) ?_
  refine yL.eq (y_ladd (pc := 397) d137_397) ?_
  refine y_calls_i (pc := 398) (n := 3) (n' := 6) (nc' := nc + 2) (ns' := ns + 12) [.long x15, .long v2, .long (x6 + 1260)] [] false d137_398 q137_195 rfl rfl rfl (Nat.le_of_ble_eq_true rfl) (Nat.le_of_ble_eq_true rfl) rfl (by decide +kernel) (y_rmd mcs_106 mcs_137 hn (by decide)) (fun v4 M3 => ?_)
  refine yL.eq (y_if_eq (pc := 401) (t := 420) d137_401 (by decide)) ?_
  refine yL.ite (fun h5 => ?_) (fun h5 => ?_)
  ·
    refine yL.eq (y_iconst (pc := 420) (v := 0) d137_420 kc_0) ?_
    refine yL.eq (y_istore_n (pc := 421) (ls' := [some (.ref 7), some (.int 0), some (.long x2), none, some (.int x4), some (.int x5), some (.long x6), none, some (.long x8), none, some (.int x10), some (.long x11), none, some (.long x13), none, some (.long x15), none, o17, o18, o19]) d137_421 rfl rfl) ?_
    refine yL.eq (y_iconst (pc := 422) (v := 0) d137_422 kc_0) ?_
    refine yL.eq (y_istore (pc := 423) (ls' := [some (.ref 7), some (.int 0), some (.long x2), none, some (.int x4), some (.int x5), some (.long x6), none, some (.long x8), none, some (.int x10), some (.long x11), none, some (.long x13), none, some (.long x15), none, some (.int 0), o18, o19]) d137_423 rfl rfl) ?_
    exact yL.rf
  ·
    refine yL.eq (y_lload (pc := 404) (x := x13) d137_404 rfl) ?_
    refine yL.eq (y_iload (pc := 406) (x := x10) d137_406 rfl) ?_
    refine yL.eq (y_lshr (pc := 408) d137_408) ?_
    refine yL.eq (y_lconst (pc := 409) (v := 1) d137_409 kl_1) ?_
    refine yL.eq (y_land (pc := 410) d137_410) ?_
    refine yL.eq (y_lconst (pc := 411) (v := 0) d137_411 kl_0) ?_
    refine yL.eq (y_lcmp (pc := 412) d137_412) ?_
    refine yL.eq (y_lif_ne (pc := 413) (t := 420) d137_413 (by decide)) ?_
    refine yL.ite (fun h6 => ?_) (fun h6 => ?_)
    ·
      refine yL.eq (y_iconst (pc := 416) (v := 1) d137_416 kc_1) ?_
      refine yL.eq (y_goto (pc := 417) (t := 421) d137_417 (by decide)) ?_
      refine yL.eq (y_istore_n (pc := 421) (ls' := [some (.ref 7), some (.int 1), some (.long x2), none, some (.int x4), some (.int x5), some (.long x6), none, some (.long x8), none, some (.int x10), some (.long x11), none, some (.long x13), none, some (.long x15), none, o17, o18, o19]) d137_421 rfl rfl) ?_
      refine yL.eq (y_iconst (pc := 422) (v := 0) d137_422 kc_0) ?_
      refine yL.eq (y_istore (pc := 423) (ls' := [some (.ref 7), some (.int 1), some (.long x2), none, some (.int x4), some (.int x5), some (.long x6), none, some (.long x8), none, some (.int x10), some (.long x11), none, some (.long x13), none, some (.long x15), none, some (.int 0), o18, o19]) d137_423 rfl rfl) ?_
      exact yL.rf
    ·
      refine yL.eq (y_iconst (pc := 420) (v := 0) d137_420 kc_0) ?_
      refine yL.eq (y_istore_n (pc := 421) (ls' := [some (.ref 7), some (.int 0), some (.long x2), none, some (.int x4), some (.int x5), some (.long x6), none, some (.long x8), none, some (.int x10), some (.long x11), none, some (.long x13), none, some (.long x15), none, o17, o18, o19]) d137_421 rfl rfl) ?_
      refine yL.eq (y_iconst (pc := 422) (v := 0) d137_422 kc_0) ?_
      refine yL.eq (y_istore (pc := 423) (ls' := [some (.ref 7), some (.int 0), some (.long x2), none, some (.int x4), some (.int x5), some (.long x6), none, some (.long x8), none, some (.int x10), some (.long x11), none, some (.long x13), none, some (.long x15), none, some (.int 0), o18, o19]) d137_423 rfl rfl) ?_
      exact yL.rf
set_option maxRecDepth 20000 in
set_option maxHeartbeats 4000000 in
theorem e137_425 {x1 : Int32} {x2 : Int64} {x4 : Int32} {x5 : Int32} {x6 : Int64} {x8 : Int64} {x10 : Int32} {x11 : Int64} {x13 : Int64} {x15 : Int64} {x17 : Int32} {o18 : Option Value} {o19 : Option Value} {M : yM} {nc ns : Nat} (hn : nc + 60 ≤ 6000 ∧ ns + 360 ≤ 36000) : yL (yCj false (yX 109 0 [some (.ref 7), some (.int 1), none] [] M 0 0) fun v2 M1 => if x17.toInt64 < v2 then if x1 = 0 then yX 137 571 [some (.ref 7), some (.int x1), some (.long x2), none, some (.int x4), some (.int x5), some (.long x6), none, some (.long x8), none, some (.int x10), some (.long x11), none, some (.long x13), none, some (.long x15), none, some (.int 0), o18, o19] [] M1 (nc + 1) (ns + 6) else if ((x13 >>> ((x17 : Int32).toInt64 &&& 63)) &&& 1) = 1 then yCj false (yX 112 0 [some (.ref 7), some (.int x17), some (.int 5), none] [] M1 0 0) fun v7 M6 => if ((v7 >>> ((x10 : Int32).toInt64 &&& 63)) &&& 1) = 1 then if x11 = (-1) then yX 137 529 [some (.ref 7), some (.int x1), some (.long x2), none, some (.int x4), some (.int x5), some (.long x6), none, some (.long x8), none, some (.int x10), some (.long x11), none, some (.long x13), none, some (.long x15), none, some (.int x17), some (.int 1), o19] [] M6 (nc + 3) (ns + 18) else yCj false (yX 112 0 [some (.ref 7), some (.int x17), some (.int 8), none] [] M6 0 0) fun v11 M10 => if v11 = (-1) then yX 137 425 [some (.ref 7), some (.int 0), some (.long x2), none, some (.int x4), some (.int x5), some (.long x6), none, some (.long x8), none, some (.int x10), some (.long x11), none, some (.long x13), none, some (.long x15), none, some (.int (x17 + 1)), some (.int 1), o19] [] M10 (nc + 5) (ns + 30) else yCj false (yX 112 0 [some (.ref 7), some (.int x17), some (.int 8), none] [] M10 0 0) fun v14 M13 => if v14 ≤ x11 then yX 137 529 [some (.ref 7), some (.int x1), some (.long x2), none, some (.int x4), some (.int x5), some (.long x6), none, some (.long x8), none, some (.int x10), some (.long x11), none, some (.long x13), none, some (.long x15), none, some (.int x17), some (.int 1), o19] [] M13 (nc + 7) (ns + 42) else yX 137 425 [some (.ref 7), some (.int 0), some (.long x2), none, some (.int x4), some (.int x5), some (.long x6), none, some (.long x8), none, some (.int x10), some (.long x11), none, some (.long x13), none, some (.long x15), none, some (.int (x17 + 1)), some (.int 1), o19] [] M13 (nc + 7) (ns + 42) else yX 137 425 [some (.ref 7), some (.int 0), some (.long x2), none, some (.int x4), some (.int x5), some (.long x6), none, some (.long x8), none, some (.int x10), some (.long x11), none, some (.long x13), none, some (.long x15), none, some (.int (x17 + 1)), some (.int 1), o19] [] M6 (nc + 3) (ns + 18) else yCj false (yX 112 0 [some (.ref 7), some (.int x17), some (.int 5), none] [] M1 0 0) fun v17 M16 => if ((v17 >>> ((x10 : Int32).toInt64 &&& 63)) &&& 1) = 0 then yX 137 529 [some (.ref 7), some (.int x1), some (.long x2), none, some (.int x4), some (.int x5), some (.long x6), none, some (.long x8), none, some (.int x10), some (.long x11), none, some (.long x13), none, some (.long x15), none, some (.int x17), some (.int 0), o19] [] M16 (nc + 3) (ns + 18) else yX 137 425 [some (.ref 7), some (.int 0), some (.long x2), none, some (.int x4), some (.int x5), some (.long x6), none, some (.long x8), none, some (.int x10), some (.long x11), none, some (.long x13), none, some (.long x15), none, some (.int (x17 + 1)), some (.int 0), o19] [] M16 (nc + 3) (ns + 18) else yX 137 571 [some (.ref 7), some (.int x1), some (.long x2), none, some (.int x4), some (.int x5), some (.long x6), none, some (.long x8), none, some (.int x10), some (.long x11), none, some (.long x13), none, some (.long x15), none, some (.int 0), o18, o19] [] M1 (nc + 1) (ns + 6)) (yX 137 425 [some (.ref 7), some (.int x1), some (.long x2), none, some (.int x4), some (.int x5), some (.long x6), none, some (.long x8), none, some (.int x10), some (.long x11), none, some (.long x13), none, some (.long x15), none, some (.int x17), o18, o19] [] M nc ns) := by
  refine yL.eq (y_iload (pc := 425) (x := x17) d137_425 rfl) ?_
  refine yL.eq (y_i2l (pc := 427) d137_427) ?_
  refine yL.eq (y_aload_n (pc := 428) (x := 7) d137_428 rfl) ?_
  refine yL.eq (y_iconst (pc := 429) (v := 1) d137_429 kc_1) ?_
  refine y_calls_j (pc := 430) (n := 2) (n' := 3) (nc' := nc + 1) (ns' := ns + 6) [.ref 7, .int 1] [.long x17.toInt64] false d137_430 q137_117 rfl rfl rfl (Nat.le_of_ble_eq_true rfl) (Nat.le_of_ble_eq_true rfl) rfl (by decide +kernel) (y_rmc mcs_109 mcs_137 hn (by decide)) (fun v2 M1 => ?_)
  refine yL.eq (y_lcmp (pc := 433) d137_433) ?_
  refine yL.eq (y_lif_ge (pc := 434) (t := 568) d137_434 (by decide)) ?_
  refine yL.ite (fun h3 => ?_) (fun h3 => ?_)
  ·
    refine yL.eq (y_iload_n (pc := 437) (x := x1) d137_437 rfl) ?_
    refine yL.eq (y_if_eq (pc := 438) (t := 568) d137_438 (by decide)) ?_
    refine yL.ite (fun h4 => ?_) (fun h4 => ?_)
    ·
      refine yL.eq (y_iconst (pc := 568) (v := 0) d137_568 kc_0) ?_
      refine yL.eq (y_istore (pc := 569) (ls' := [some (.ref 7), some (.int x1), some (.long x2), none, some (.int x4), some (.int x5), some (.long x6), none, some (.long x8), none, some (.int x10), some (.long x11), none, some (.long x13), none, some (.long x15), none, some (.int 0), o18, o19]) d137_569 rfl rfl) ?_
      exact yL.rf
    ·
      refine yL.eq (y_lload (pc := 441) (x := x13) d137_441 rfl) ?_
      refine yL.eq (y_iload (pc := 443) (x := x17) d137_443 rfl) ?_
      refine yL.eq (y_lshr (pc := 445) d137_445) ?_
      refine yL.eq (y_lconst (pc := 446) (v := 1) d137_446 kl_1) ?_
      refine yL.eq (y_land (pc := 447) d137_447) ?_
      refine yL.eq (y_lconst (pc := 448) (v := 1) d137_448 kl_1) ?_
      refine yL.eq (y_lcmp (pc := 449) d137_449) ?_
      refine yL.eq (y_lif_ne (pc := 450) (t := 457) d137_450 (by decide)) ?_
      refine yL.ite (fun h5 => ?_) (fun h5 => ?_)
      ·
        refine yL.eq (y_iconst (pc := 453) (v := 1) d137_453 kc_1) ?_
        refine yL.eq (y_goto (pc := 454) (t := 458) d137_454 (by decide)) ?_
        refine yL.eq (y_istore (pc := 458) (ls' := [some (.ref 7), some (.int x1), some (.long x2), none, some (.int x4), some (.int x5), some (.long x6), none, some (.long x8), none, some (.int x10), some (.long x11), none, some (.long x13), none, some (.long x15), none, some (.int x17), some (.int 1), o19]) d137_458 rfl rfl) ?_
        refine yL.eq (y_aload_n (pc := 460) (x := 7) d137_460 rfl) ?_
        refine yL.eq (y_iload (pc := 461) (x := x17) d137_461 rfl) ?_
        refine yL.eq (y_iconst (pc := 463) (v := 5) d137_463 kc_5) ?_
        refine y_calls_j (pc := 464) (n := 3) (n' := 4) (nc' := nc + 3) (ns' := ns + 18) [.ref 7, .int x17, .int 5] [] false d137_464 q137_131 rfl rfl rfl (Nat.le_of_ble_eq_true rfl) (Nat.le_of_ble_eq_true rfl) rfl (by decide +kernel) (y_rme (c1 := 3) (s1 := 18) mcs_112 mcs_137 hn (by decide)) (fun v7 M6 => ?_)
        refine yL.eq (y_iload (pc := 467) (x := x10) d137_467 rfl) ?_
        refine yL.eq (y_lshr (pc := 469) d137_469) ?_
        refine yL.eq (y_lconst (pc := 470) (v := 1) d137_470 kl_1) ?_
        refine yL.eq (y_land (pc := 471) d137_471) ?_
        refine yL.eq (y_iload (pc := 472) (x := 1) d137_472 rfl) ?_
        refine yL.eq (y_if_eq (pc := 474) (t := 481) d137_474 (by decide)) ?_
        refine yL.eq (if_neg cn_Int32_1_eq_0) ?_
        refine yL.eq (y_lconst (pc := 477) (v := 1) d137_477 kl_1) ?_
        refine yL.eq (y_goto (pc := 478) (t := 482) d137_478 (by decide)) ?_
        refine yL.eq (y_lcmp (pc := 482) d137_482) ?_
        refine yL.eq (y_lif_ne (pc := 483) (t := 560) d137_483 (by decide)) ?_
        refine yL.ite (fun h8 => ?_) (fun h8 => ?_)
        ·
          refine yL.eq (y_iload (pc := 486) (x := 1) d137_486 rfl) ?_
          refine yL.eq (y_if_eq (pc := 488) (t := 529) d137_488 (by decide)) ?_
          refine yL.eq (if_neg cn_Int32_1_eq_0) ?_
          refine yL.eq (y_lload (pc := 491) (x := x11) d137_491 rfl) ?_
          refine yL.eq (y_ldc2_w (pc := 493) (v := (-1)) d137_493 q137_201) ?_
          refine yL.eq (y_lcmp (pc := 496) d137_496) ?_
          refine yL.eq (y_lif_eq (pc := 497) (t := 529) d137_497 (by decide)) ?_
          refine yL.ite (fun h9 => ?_) (fun h9 => ?_)
          ·
            exact yL.rf
          ·
            refine yL.eq (y_aload_n (pc := 500) (x := 7) d137_500 rfl) ?_
            refine yL.eq (y_iload (pc := 501) (x := x17) d137_501 rfl) ?_
            refine yL.eq (y_bipush (pc := 503) (v := 8) d137_503 kb_8) ?_
            refine y_calls_j (pc := 505) (n := 3) (n' := 4) (nc' := nc + 5) (ns' := ns + 30) [.ref 7, .int x17, .int 8] [] false d137_505 q137_131 rfl rfl rfl (Nat.le_of_ble_eq_true rfl) (Nat.le_of_ble_eq_true rfl) rfl (by decide +kernel) (y_rme (c1 := 5) (s1 := 30) mcs_112 mcs_137 hn (by decide)) (fun v11 M10 => ?_)
            refine yL.eq (y_ldc2_w (pc := 508) (v := (-1)) d137_508 q137_201) ?_
            refine yL.eq (y_lcmp (pc := 511) d137_511) ?_
            refine yL.eq (y_lif_eq (pc := 512) (t := 560) d137_512 (by decide)) ?_
            refine yL.ite (fun h12 => ?_) (fun h12 => ?_)
            ·
              refine yL.eq (y_iconst (pc := 560) (v := 0) d137_560 kc_0) ?_
              refine yL.eq (y_istore_n (pc := 561) (ls' := [some (.ref 7), some (.int 0), some (.long x2), none, some (.int x4), some (.int x5), some (.long x6), none, some (.long x8), none, some (.int x10), some (.long x11), none, some (.long x13), none, some (.long x15), none, some (.int x17), some (.int 1), o19]) d137_561 rfl rfl) ?_
              refine yL.eq (y_iinc (pc := 562) (v := 1) (x := x17) (ls' := [some (.ref 7), some (.int 0), some (.long x2), none, some (.int x4), some (.int x5), some (.long x6), none, some (.long x8), none, some (.int x10), some (.long x11), none, some (.long x13), none, some (.long x15), none, some (.int (x17 + 1)), some (.int 1), o19]) d137_562 kc_1 rfl (Nat.le_of_ble_eq_true rfl) rfl) ?_
              refine yL.eq (y_goto (pc := 565) (t := 425) d137_565 (by decide)) ?_
              exact yL.rf
            ·
              refine yL.eq (y_aload_n (pc := 515) (x := 7) d137_515 rfl) ?_
              refine yL.eq (y_iload (pc := 516) (x := x17) d137_516 rfl) ?_
              refine yL.eq (y_bipush (pc := 518) (v := 8) d137_518 kb_8) ?_
              refine y_calls_j (pc := 520) (n := 3) (n' := 4) (nc' := nc + 7) (ns' := ns + 42) [.ref 7, .int x17, .int 8] [] false d137_520 q137_131 rfl rfl rfl (Nat.le_of_ble_eq_true rfl) (Nat.le_of_ble_eq_true rfl) rfl (by decide +kernel) (y_rme (c1 := 7) (s1 := 42) mcs_112 mcs_137 hn (by decide)) (fun v14 M13 => ?_)
              refine yL.eq (y_lload (pc := 523) (x := x11) d137_523 rfl) ?_
              refine yL.eq (y_lcmp (pc := 525) d137_525) ?_
              refine yL.eq (y_lif_gt (pc := 526) (t := 560) d137_526 (by decide)) ?_
              refine yL.ite (fun h15 => ?_) (fun h15 => ?_)
              ·
                exact yL.rf
              ·
                refine yL.eq (y_iconst (pc := 560) (v := 0) d137_560 kc_0) ?_
                refine yL.eq (y_istore_n (pc := 561) (ls' := [some (.ref 7), some (.int 0), some (.long x2), none, some (.int x4), some (.int x5), some (.long x6), none, some (.long x8), none, some (.int x10), some (.long x11), none, some (.long x13), none, some (.long x15), none, some (.int x17), some (.int 1), o19]) d137_561 rfl rfl) ?_
                refine yL.eq (y_iinc (pc := 562) (v := 1) (x := x17) (ls' := [some (.ref 7), some (.int 0), some (.long x2), none, some (.int x4), some (.int x5), some (.long x6), none, some (.long x8), none, some (.int x10), some (.long x11), none, some (.long x13), none, some (.long x15), none, some (.int (x17 + 1)), some (.int 1), o19]) d137_562 kc_1 rfl (Nat.le_of_ble_eq_true rfl) rfl) ?_
                refine yL.eq (y_goto (pc := 565) (t := 425) d137_565 (by decide)) ?_
                exact yL.rf
        ·
          refine yL.eq (y_iconst (pc := 560) (v := 0) d137_560 kc_0) ?_
          refine yL.eq (y_istore_n (pc := 561) (ls' := [some (.ref 7), some (.int 0), some (.long x2), none, some (.int x4), some (.int x5), some (.long x6), none, some (.long x8), none, some (.int x10), some (.long x11), none, some (.long x13), none, some (.long x15), none, some (.int x17), some (.int 1), o19]) d137_561 rfl rfl) ?_
          refine yL.eq (y_iinc (pc := 562) (v := 1) (x := x17) (ls' := [some (.ref 7), some (.int 0), some (.long x2), none, some (.int x4), some (.int x5), some (.long x6), none, some (.long x8), none, some (.int x10), some (.long x11), none, some (.long x13), none, some (.long x15), none, some (.int (x17 + 1)), some (.int 1), o19]) d137_562 kc_1 rfl (Nat.le_of_ble_eq_true rfl) rfl) ?_
          refine yL.eq (y_goto (pc := 565) (t := 425) d137_565 (by decide)) ?_
          exact yL.rf
      ·
        refine yL.eq (y_iconst (pc := 457) (v := 0) d137_457 kc_0) ?_
        refine yL.eq (y_istore (pc := 458) (ls' := [some (.ref 7), some (.int x1), some (.long x2), none, some (.int x4), some (.int x5), some (.long x6), none, some (.long x8), none, some (.int x10), some (.long x11), none, some (.long x13), none, some (.long x15), none, some (.int x17), some (.int 0), o19]) d137_458 rfl rfl) ?_
        refine yL.eq (y_aload_n (pc := 460) (x := 7) d137_460 rfl) ?_
        refine yL.eq (y_iload (pc := 461) (x := x17) d137_461 rfl) ?_
        refine yL.eq (y_iconst (pc := 463) (v := 5) d137_463 kc_5) ?_
        refine y_calls_j (pc := 464) (n := 3) (n' := 4) (nc' := nc + 3) (ns' := ns + 18) [.ref 7, .int x17, .int 5] [] false d137_464 q137_131 rfl rfl rfl (Nat.le_of_ble_eq_true rfl) (Nat.le_of_ble_eq_true rfl) rfl (by decide +kernel) (y_rme (c1 := 3) (s1 := 18) mcs_112 mcs_137 hn (by decide)) (fun v17 M16 => ?_)
        refine yL.eq (y_iload (pc := 467) (x := x10) d137_467 rfl) ?_
        refine yL.eq (y_lshr (pc := 469) d137_469) ?_
        refine yL.eq (y_lconst (pc := 470) (v := 1) d137_470 kl_1) ?_
        refine yL.eq (y_land (pc := 471) d137_471) ?_
        refine yL.eq (y_iload (pc := 472) (x := 0) d137_472 rfl) ?_
        refine yL.eq (y_if_eq (pc := 474) (t := 481) d137_474 (by decide)) ?_
        refine yL.eq (if_pos cp_Int32_0_eq_0) ?_
        refine yL.eq (y_lconst (pc := 481) (v := 0) d137_481 kl_0) ?_
        refine yL.eq (y_lcmp (pc := 482) d137_482) ?_
        refine yL.eq (y_lif_ne (pc := 483) (t := 560) d137_483 (by decide)) ?_
        refine yL.ite (fun h18 => ?_) (fun h18 => ?_)
        ·
          refine yL.eq (y_iload (pc := 486) (x := 0) d137_486 rfl) ?_
          refine yL.eq (y_if_eq (pc := 488) (t := 529) d137_488 (by decide)) ?_
          refine yL.eq (if_pos cp_Int32_0_eq_0) ?_
          exact yL.rf
        ·
          refine yL.eq (y_iconst (pc := 560) (v := 0) d137_560 kc_0) ?_
          refine yL.eq (y_istore_n (pc := 561) (ls' := [some (.ref 7), some (.int 0), some (.long x2), none, some (.int x4), some (.int x5), some (.long x6), none, some (.long x8), none, some (.int x10), some (.long x11), none, some (.long x13), none, some (.long x15), none, some (.int x17), some (.int 0), o19]) d137_561 rfl rfl) ?_
          refine yL.eq (y_iinc (pc := 562) (v := 1) (x := x17) (ls' := [some (.ref 7), some (.int 0), some (.long x2), none, some (.int x4), some (.int x5), some (.long x6), none, some (.long x8), none, some (.int x10), some (.long x11), none, some (.long x13), none, some (.long x15), none, some (.int (x17 + 1)), some (.int 0), o19]) d137_562 kc_1 rfl (Nat.le_of_ble_eq_true rfl) rfl) ?_
          refine yL.eq (y_goto (pc := 565) (t := 425) d137_565 (by decide)) ?_
          exact yL.rf
  ·
    refine yL.eq (y_iconst (pc := 568) (v := 0) d137_568 kc_0) ?_
    refine yL.eq (y_istore (pc := 569) (ls' := [some (.ref 7), some (.int x1), some (.long x2), none, some (.int x4), some (.int x5), some (.long x6), none, some (.long x8), none, some (.int x10), some (.long x11), none, some (.long x13), none, some (.long x15), none, some (.int 0), o18, o19]) d137_569 rfl rfl) ?_
    exact yL.rf
set_option maxRecDepth 20000 in
set_option maxHeartbeats 4000000 in
theorem e137_751 {x1 : Int32} {x2 : Int64} {x4 : Int32} {x5 : Int32} {x6 : Int64} {x8 : Int64} {o10 : Option Value} {o11 : Option Value} {o12 : Option Value} {o13 : Option Value} {o14 : Option Value} {o15 : Option Value} {o16 : Option Value} {o17 : Option Value} {o18 : Option Value} {o19 : Option Value} {M : yM} {nc ns : Nat} (hn : nc + 60 ≤ 6000 ∧ ns + 360 ≤ 36000) : yL (if x1 = 0 then yI 0 M else yCj false (yX 109 0 [some (.ref 7), some (.int 4), none] [] M 0 0) fun v3 M2 => if v3 = x2 then yCj false (yX 109 0 [some (.ref 7), some (.int 6), none] [] M2 0 0) fun v6 M5 => if v6 = x5.toInt64 then yCj false (yX 109 0 [some (.ref 7), some (.int 8), none] [] M5 0 0) fun v9 M8 => if v9 = x6 then yCj false (yX 109 0 [some (.ref 7), some (.int 7), none] [] M8 0 0) fun v12 M11 => if v12 = x8 then yCj false (yX 109 0 [some (.ref 7), some (.int 1), none] [] M11 0 0) fun v15 M14 => yCj false (yX 113 0 [some (.ref 7), some (.int (v15.toInt32 - x5)), none] [] M14 0 0) fun v17 M16 => if v17 = (-9000000000000000001) then if x4 < 1500 then yCj false (yX 116 0 [some (.ref 7), some (.int x4), some (.int 9), none] [] M16 0 0) fun v21 M20 => if x4 < 1500 then yCj false (yX 109 0 [some (.ref 7), some (.int 1), none] [] M20 0 0) fun v24 M23 => if v21 < (v24 - x5.toInt64) then yI 0 M23 else yI 1 M23 else if v21 < 0 then yI 0 M20 else yI 1 M20 else yCj false (yX 116 0 [some (.ref 7), some (.int 1500), some (.int 9), none] [] M16 0 0) fun v28 M27 => if x4 < 1500 then yCj false (yX 109 0 [some (.ref 7), some (.int 1), none] [] M27 0 0) fun v31 M30 => if v28 < (v31 - x5.toInt64) then yI 0 M30 else yI 1 M30 else if v28 < 0 then yI 0 M27 else yI 1 M27 else yI 0 M16 else yI 0 M11 else yI 0 M8 else yI 0 M5 else yI 0 M2) (yX 137 751 [some (.ref 7), some (.int x1), some (.long x2), none, some (.int x4), some (.int x5), some (.long x6), none, some (.long x8), none, o10, o11, o12, o13, o14, o15, o16, o17, o18, o19] [] M nc ns) := by
  refine yL.eq (y_iload_n (pc := 751) (x := x1) d137_751 rfl) ?_
  refine yL.eq (y_if_eq (pc := 752) (t := 873) d137_752 (by decide)) ?_
  refine yL.ite (fun h1 => ?_) (fun h1 => ?_)
  ·
    refine yL.eq (y_iconst (pc := 873) (v := 0) d137_873 kc_0) ?_
    exact yL.eq (y_iretz (pc := 874) d137_874 mr_137) (yL.eq yZ_0 yL.rf)
  ·
    refine yL.eq (y_aload_n (pc := 755) (x := 7) d137_755 rfl) ?_
    refine yL.eq (y_iconst (pc := 756) (v := 4) d137_756 kc_4) ?_
    refine y_calls_j (pc := 757) (n := 2) (n' := 3) (nc' := nc + 1) (ns' := ns + 6) [.ref 7, .int 4] [] false d137_757 q137_117 rfl rfl rfl (Nat.le_of_ble_eq_true rfl) (Nat.le_of_ble_eq_true rfl) rfl (by decide +kernel) (y_rmc mcs_109 mcs_137 hn (by decide)) (fun v3 M2 => ?_)
    refine yL.eq (y_lload_n (pc := 760) (x := x2) d137_760 rfl) ?_
    refine yL.eq (y_lcmp (pc := 761) d137_761) ?_
    refine yL.eq (y_lif_ne (pc := 762) (t := 873) d137_762 (by decide)) ?_
    refine yL.ite (fun h4 => ?_) (fun h4 => ?_)
    ·
      refine yL.eq (y_aload_n (pc := 765) (x := 7) d137_765 rfl) ?_
      refine yL.eq (y_bipush (pc := 766) (v := 6) d137_766 kb_6) ?_
      refine y_calls_j (pc := 768) (n := 2) (n' := 3) (nc' := nc + 2) (ns' := ns + 12) [.ref 7, .int 6] [] false d137_768 q137_117 rfl rfl rfl (Nat.le_of_ble_eq_true rfl) (Nat.le_of_ble_eq_true rfl) rfl (by decide +kernel) (y_rme (c1 := 2) (s1 := 12) mcs_109 mcs_137 hn (by decide)) (fun v6 M5 => ?_)
      refine yL.eq (y_iload (pc := 771) (x := x5) d137_771 rfl) ?_
      refine yL.eq (y_i2l (pc := 773) d137_773) ?_
      refine yL.eq (y_lcmp (pc := 774) d137_774) ?_
      refine yL.eq (y_lif_ne (pc := 775) (t := 873) d137_775 (by decide)) ?_
      refine yL.ite (fun h7 => ?_) (fun h7 => ?_)
      ·
        refine yL.eq (y_aload_n (pc := 778) (x := 7) d137_778 rfl) ?_
        refine yL.eq (y_bipush (pc := 779) (v := 8) d137_779 kb_8) ?_
        refine y_calls_j (pc := 781) (n := 2) (n' := 3) (nc' := nc + 3) (ns' := ns + 18) [.ref 7, .int 8] [] false d137_781 q137_117 rfl rfl rfl (Nat.le_of_ble_eq_true rfl) (Nat.le_of_ble_eq_true rfl) rfl (by decide +kernel) (y_rme (c1 := 3) (s1 := 18) mcs_109 mcs_137 hn (by decide)) (fun v9 M8 => ?_)
        refine yL.eq (y_lload (pc := 784) (x := x6) d137_784 rfl) ?_
        refine yL.eq (y_lcmp (pc := 786) d137_786) ?_
        refine yL.eq (y_lif_ne (pc := 787) (t := 873) d137_787 (by decide)) ?_
        refine yL.ite (fun h10 => ?_) (fun h10 => ?_)
        ·
          refine yL.eq (y_aload_n (pc := 790) (x := 7) d137_790 rfl) ?_
          refine yL.eq (y_bipush (pc := 791) (v := 7) d137_791 kb_7) ?_
          refine y_calls_j (pc := 793) (n := 2) (n' := 3) (nc' := nc + 4) (ns' := ns + 24) [.ref 7, .int 7] [] false d137_793 q137_117 rfl rfl rfl (Nat.le_of_ble_eq_true rfl) (Nat.le_of_ble_eq_true rfl) rfl (by decide +kernel) (y_rme (c1 := 4) (s1 := 24) mcs_109 mcs_137 hn (by decide)) (fun v12 M11 => ?_)
          refine yL.eq (y_lload (pc := 796) (x := x8) d137_796 rfl) ?_
          refine yL.eq (y_lcmp (pc := 798) d137_798) ?_
          refine yL.eq (y_lif_ne (pc := 799) (t := 873) d137_799 (by decide)) ?_
          refine yL.ite (fun h13 => ?_) (fun h13 => ?_)
          ·
            refine yL.eq (y_aload_n (pc := 802) (x := 7) d137_802 rfl) ?_
            refine yL.eq (y_aload_n (pc := 803) (x := 7) d137_803 rfl) ?_
            refine yL.eq (y_iconst (pc := 804) (v := 1) d137_804 kc_1) ?_
            refine y_calls_j (pc := 805) (n := 2) (n' := 3) (nc' := nc + 5) (ns' := ns + 30) [.ref 7, .int 1] [.ref 7] false d137_805 q137_117 rfl rfl rfl (Nat.le_of_ble_eq_true rfl) (Nat.le_of_ble_eq_true rfl) rfl (by decide +kernel) (y_rme (c1 := 5) (s1 := 30) mcs_109 mcs_137 hn (by decide)) (fun v15 M14 => ?_)
            refine yL.eq (y_l2i (pc := 808) d137_808) ?_
            refine yL.eq (y_iload (pc := 809) (x := x5) d137_809 rfl) ?_
            refine yL.eq (y_isub (pc := 811) d137_811) ?_
            refine y_calls_j (pc := 812) (n := 2) (n' := 3) (nc' := nc + 6) (ns' := ns + 36) [.ref 7, .int (v15.toInt32 - x5)] [] false d137_812 q137_148 rfl rfl rfl (Nat.le_of_ble_eq_true rfl) (Nat.le_of_ble_eq_true rfl) rfl (by decide +kernel) (y_rme (c1 := 6) (s1 := 36) mcs_113 mcs_137 hn (by decide)) (fun v17 M16 => ?_)
            refine yL.eq (y_ldc2_w (pc := 815) (v := (-9000000000000000001)) d137_815 q137_36) ?_
            refine yL.eq (y_lcmp (pc := 818) d137_818) ?_
            refine yL.eq (y_lif_ne (pc := 819) (t := 873) d137_819 (by decide)) ?_
            refine yL.ite (fun h18 => ?_) (fun h18 => ?_)
            ·
              refine yL.eq (y_aload_n (pc := 822) (x := 7) d137_822 rfl) ?_
              refine yL.eq (y_iload (pc := 823) (x := x4) d137_823 rfl) ?_
              refine yL.eq (y_sipush (pc := 825) (v := 1500) d137_825 ks_1500) ?_
              refine yL.eq (y_icmp_ge (pc := 828) (t := 836) d137_828 (by decide)) ?_
              refine yL.ite (fun h19 => ?_) (fun h19 => ?_)
              ·
                refine yL.eq (y_iload (pc := 831) (x := x4) d137_831 rfl) ?_
                refine yL.eq (y_goto (pc := 833) (t := 839) d137_833 (by decide)) ?_
                refine yL.eq (y_bipush (pc := 839) (v := 9) d137_839 kb_9) ?_
                refine y_calls_j (pc := 841) (n := 3) (n' := 4) (nc' := nc + 7) (ns' := ns + 42) [.ref 7, .int x4, .int 9] [] false d137_841 q137_150 rfl rfl rfl (Nat.le_of_ble_eq_true rfl) (Nat.le_of_ble_eq_true rfl) rfl (by decide +kernel) (y_rme (c1 := 7) (s1 := 42) mcs_116 mcs_137 hn (by decide)) (fun v21 M20 => ?_)
                refine yL.eq (y_iload (pc := 844) (x := x4) d137_844 rfl) ?_
                refine yL.eq (y_sipush (pc := 846) (v := 1500) d137_846 ks_1500) ?_
                refine yL.eq (y_icmp_ge (pc := 849) (t := 864) d137_849 (by decide)) ?_
                refine yL.ite (fun h22 => ?_) (fun h22 => ?_)
                ·
                  refine yL.eq (y_aload_n (pc := 852) (x := 7) d137_852 rfl) ?_
                  refine yL.eq (y_iconst (pc := 853) (v := 1) d137_853 kc_1) ?_
                  refine y_calls_j (pc := 854) (n := 2) (n' := 3) (nc' := nc + 8) (ns' := ns + 48) [.ref 7, .int 1] [.long v21] false d137_854 q137_117 rfl rfl rfl (Nat.le_of_ble_eq_true rfl) (Nat.le_of_ble_eq_true rfl) rfl (by decide +kernel) (y_rme (c1 := 8) (s1 := 48) mcs_109 mcs_137 hn (by decide)) (fun v24 M23 => ?_)
                  refine yL.eq (y_iload (pc := 857) (x := x5) d137_857 rfl) ?_
                  refine yL.eq (y_i2l (pc := 859) d137_859) ?_
                  refine yL.eq (y_lsub (pc := 860) d137_860) ?_
                  refine yL.eq (y_goto (pc := 861) (t := 865) d137_861 (by decide)) ?_
                  refine yL.eq (y_lcmp (pc := 865) d137_865) ?_
                  refine yL.eq (y_lif_lt (pc := 866) (t := 873) d137_866 (by decide)) ?_
                  refine yL.ite (fun h25 => ?_) (fun h25 => ?_)
                  ·
                    refine yL.eq (y_iconst (pc := 873) (v := 0) d137_873 kc_0) ?_
                    exact yL.eq (y_iretz (pc := 874) d137_874 mr_137) (yL.eq yZ_0 yL.rf)
                  ·
                    refine yL.eq (y_iconst (pc := 869) (v := 1) d137_869 kc_1) ?_
                    refine yL.eq (y_goto (pc := 870) (t := 874) d137_870 (by decide)) ?_
                    exact yL.eq (y_iretz (pc := 874) d137_874 mr_137) (yL.eq yZ_1 yL.rf)
                ·
                  refine yL.eq (y_lconst (pc := 864) (v := 0) d137_864 kl_0) ?_
                  refine yL.eq (y_lcmp (pc := 865) d137_865) ?_
                  refine yL.eq (y_lif_lt (pc := 866) (t := 873) d137_866 (by decide)) ?_
                  refine yL.ite (fun h26 => ?_) (fun h26 => ?_)
                  ·
                    refine yL.eq (y_iconst (pc := 873) (v := 0) d137_873 kc_0) ?_
                    exact yL.eq (y_iretz (pc := 874) d137_874 mr_137) (yL.eq yZ_0 yL.rf)
                  ·
                    refine yL.eq (y_iconst (pc := 869) (v := 1) d137_869 kc_1) ?_
                    refine yL.eq (y_goto (pc := 870) (t := 874) d137_870 (by decide)) ?_
                    exact yL.eq (y_iretz (pc := 874) d137_874 mr_137) (yL.eq yZ_1 yL.rf)
              ·
                refine yL.eq (y_sipush (pc := 836) (v := 1500) d137_836 ks_1500) ?_
                refine yL.eq (y_bipush (pc := 839) (v := 9) d137_839 kb_9) ?_
                refine y_calls_j (pc := 841) (n := 3) (n' := 4) (nc' := nc + 7) (ns' := ns + 42) [.ref 7, .int 1500, .int 9] [] false d137_841 q137_150 rfl rfl rfl (Nat.le_of_ble_eq_true rfl) (Nat.le_of_ble_eq_true rfl) rfl (by decide +kernel) (y_rme (c1 := 7) (s1 := 42) mcs_116 mcs_137 hn (by decide)) (fun v28 M27 => ?_)
                refine yL.eq (y_iload (pc := 844) (x := x4) d137_844 rfl) ?_
                refine yL.eq (y_sipush (pc := 846) (v := 1500) d137_846 ks_1500) ?_
                refine yL.eq (y_icmp_ge (pc := 849) (t := 864) d137_849 (by decide)) ?_
                refine yL.ite (fun h29 => ?_) (fun h29 => ?_)
                ·
                  refine yL.eq (y_aload_n (pc := 852) (x := 7) d137_852 rfl) ?_
                  refine yL.eq (y_iconst (pc := 853) (v := 1) d137_853 kc_1) ?_
                  refine y_calls_j (pc := 854) (n := 2) (n' := 3) (nc' := nc + 8) (ns' := ns + 48) [.ref 7, .int 1] [.long v28] false d137_854 q137_117 rfl rfl rfl (Nat.le_of_ble_eq_true rfl) (Nat.le_of_ble_eq_true rfl) rfl (by decide +kernel) (y_rme (c1 := 8) (s1 := 48) mcs_109 mcs_137 hn (by decide)) (fun v31 M30 => ?_)
                  refine yL.eq (y_iload (pc := 857) (x := x5) d137_857 rfl) ?_
                  refine yL.eq (y_i2l (pc := 859) d137_859) ?_
                  refine yL.eq (y_lsub (pc := 860) d137_860) ?_
                  refine yL.eq (y_goto (pc := 861) (t := 865) d137_861 (by decide)) ?_
                  refine yL.eq (y_lcmp (pc := 865) d137_865) ?_
                  refine yL.eq (y_lif_lt (pc := 866) (t := 873) d137_866 (by decide)) ?_
                  refine yL.ite (fun h32 => ?_) (fun h32 => ?_)
                  ·
                    refine yL.eq (y_iconst (pc := 873) (v := 0) d137_873 kc_0) ?_
                    exact yL.eq (y_iretz (pc := 874) d137_874 mr_137) (yL.eq yZ_0 yL.rf)
                  ·
                    refine yL.eq (y_iconst (pc := 869) (v := 1) d137_869 kc_1) ?_
                    refine yL.eq (y_goto (pc := 870) (t := 874) d137_870 (by decide)) ?_
                    exact yL.eq (y_iretz (pc := 874) d137_874 mr_137) (yL.eq yZ_1 yL.rf)
                ·
                  refine yL.eq (y_lconst (pc := 864) (v := 0) d137_864 kl_0) ?_
                  refine yL.eq (y_lcmp (pc := 865) d137_865) ?_
                  refine yL.eq (y_lif_lt (pc := 866) (t := 873) d137_866 (by decide)) ?_
                  refine yL.ite (fun h33 => ?_) (fun h33 => ?_)
                  ·
                    refine yL.eq (y_iconst (pc := 873) (v := 0) d137_873 kc_0) ?_
                    exact yL.eq (y_iretz (pc := 874) d137_874 mr_137) (yL.eq yZ_0 yL.rf)
                  ·
                    refine yL.eq (y_iconst (pc := 869) (v := 1) d137_869 kc_1) ?_
                    refine yL.eq (y_goto (pc := 870) (t := 874) d137_870 (by decide)) ?_
                    exact yL.eq (y_iretz (pc := 874) d137_874 mr_137) (yL.eq yZ_1 yL.rf)
            ·
              refine yL.eq (y_iconst (pc := 873) (v := 0) d137_873 kc_0) ?_
              exact yL.eq (y_iretz (pc := 874) d137_874 mr_137) (yL.eq yZ_0 yL.rf)
          ·
            refine yL.eq (y_iconst (pc := 873) (v := 0) d137_873 kc_0) ?_
            exact yL.eq (y_iretz (pc := 874) d137_874 mr_137) (yL.eq yZ_0 yL.rf)
        ·
          refine yL.eq (y_iconst (pc := 873) (v := 0) d137_873 kc_0) ?_
          exact yL.eq (y_iretz (pc := 874) d137_874 mr_137) (yL.eq yZ_0 yL.rf)
      ·
        refine yL.eq (y_iconst (pc := 873) (v := 0) d137_873 kc_0) ?_
        exact yL.eq (y_iretz (pc := 874) d137_874 mr_137) (yL.eq yZ_0 yL.rf)
    ·
      refine yL.eq (y_iconst (pc := 873) (v := 0) d137_873 kc_0) ?_
      exact yL.eq (y_iretz (pc := 874) d137_874 mr_137) (yL.eq yZ_0 yL.rf)
set_option maxRecDepth 20000 in
set_option maxHeartbeats 4000000 in
theorem e137_571 {x1 : Int32} {x2 : Int64} {x4 : Int32} {x5 : Int32} {x6 : Int64} {x8 : Int64} {x10 : Int32} {x11 : Int64} {o13 : Option Value} {o14 : Option Value} {o15 : Option Value} {o16 : Option Value} {x17 : Int32} {o18 : Option Value} {o19 : Option Value} {M : yM} {nc ns : Nat} (hn : nc + 60 ≤ 6000 ∧ ns + 360 ≤ 36000) : yL (if x17 < 9 then if x1 = 0 then yX 137 226 [some (.ref 7), some (.int x1), some (.long x2), none, some (.int x4), some (.int x5), some (.long x6), none, some (.long x8), none, some (.int (x10 + 1)), some (.long x11), none, o13, o14, o15, o16, some (.int x17), o18, o19] [] M nc ns else if x11 = (-1) then yX 137 226 [some (.ref 7), some (.int x1), some (.long x2), none, some (.int x4), some (.int x5), some (.long x6), none, some (.long x8), none, some (.int (x10 + 1)), some (.long x11), none, o13, o14, o15, o16, some (.int x17), o18, o19] [] M nc ns else yCj false (yX 116 0 [some (.ref 7), some (.int x11.toInt32), some (.int x17), none] [] M 0 0) fun v5 M4 => if x17 = 0 then yCj false (yX 115 0 [some (.ref 7), some (.int 3), none] [] M4 0 0) fun v8 M7 => yCi false (yX 106 0 [some (.long v5), none, some (.long 0), none, some (.long v8), none] [] M7 0 0) fun v10 M9 => yX 137 571 [some (.ref 7), some (.int v10), some (.long x2), none, some (.int x4), some (.int x5), some (.long x6), none, some (.long x8), none, some (.int x10), some (.long x11), none, o13, o14, o15, (xUn o16), some (.int (x17 + 1)), some (.long v5), none] [] M9 (nc + 2) (ns + 12) else if x17 < 5 then yCj false (yX 116 0 [some (.ref 7), some (.int x11.toInt32), some (.int (x17 + 4)), none] [] M4 0 0) fun v13 M12 => yCj false (yX 114 0 [some (.ref 7), some (.int (x17 - 1)), none] [] M12 0 0) fun v15 M14 => if (v5 + v13) ≤ v15 then yX 137 571 [some (.ref 7), some (.int 1), some (.long x2), none, some (.int x4), some (.int x5), some (.long x6), none, some (.long x8), none, some (.int x10), some (.long x11), none, o13, o14, o15, (xUn o16), some (.int (x17 + 1)), some (.long v5), none] [] M14 (nc + 3) (ns + 18) else yX 137 571 [some (.ref 7), some (.int 0), some (.long x2), none, some (.int x4), some (.int x5), some (.long x6), none, some (.long x8), none, some (.int x10), some (.long x11), none, o13, o14, o15, (xUn o16), some (.int (x17 + 1)), some (.long v5), none] [] M14 (nc + 3) (ns + 18) else yX 137 571 [some (.ref 7), some (.int 1), some (.long x2), none, some (.int x4), some (.int x5), some (.long x6), none, some (.long x8), none, some (.int x10), some (.long x11), none, o13, o14, o15, (xUn o16), some (.int (x17 + 1)), some (.long v5), none] [] M4 (nc + 1) (ns + 6) else yX 137 226 [some (.ref 7), some (.int x1), some (.long x2), none, some (.int x4), some (.int x5), some (.long x6), none, some (.long x8), none, some (.int (x10 + 1)), some (.long x11), none, o13, o14, o15, o16, some (.int x17), o18, o19] [] M nc ns) (yX 137 571 [some (.ref 7), some (.int x1), some (.long x2), none, some (.int x4), some (.int x5), some (.long x6), none, some (.long x8), none, some (.int x10), some (.long x11), none, o13, o14, o15, o16, some (.int x17), o18, o19] [] M nc ns) := by
  refine yL.eq (y_iload (pc := 571) (x := x17) d137_571 rfl) ?_
  refine yL.eq (y_bipush (pc := 573) (v := 9) d137_573 kb_9) ?_
  refine yL.eq (y_icmp_ge (pc := 575) (t := 669) d137_575 (by decide)) ?_
  refine yL.ite (fun h1 => ?_) (fun h1 => ?_)
  ·
    refine yL.eq (y_iload_n (pc := 578) (x := x1) d137_578 rfl) ?_
    refine yL.eq (y_if_eq (pc := 579) (t := 669) d137_579 (by decide)) ?_
    refine yL.ite (fun h2 => ?_) (fun h2 => ?_)
    ·
      refine yL.eq (y_iinc (pc := 669) (v := 1) (x := x10) (ls' := [some (.ref 7), some (.int x1), some (.long x2), none, some (.int x4), some (.int x5), some (.long x6), none, some (.long x8), none, some (.int (x10 + 1)), some (.long x11), none, o13, o14, o15, o16, some (.int x17), o18, o19]) d137_669 kc_1 rfl (Nat.le_of_ble_eq_true rfl) rfl) ?_
      refine yL.eq (y_goto (pc := 672) (t := 226) d137_672 (by decide)) ?_
      exact yL.rf
    ·
      refine yL.eq (y_lload (pc := 582) (x := x11) d137_582 rfl) ?_
      refine yL.eq (y_ldc2_w (pc := 584) (v := (-1)) d137_584 q137_201) ?_
      refine yL.eq (y_lcmp (pc := 587) d137_587) ?_
      refine yL.eq (y_lif_eq (pc := 588) (t := 669) d137_588 (by decide)) ?_
      refine yL.ite (fun h3 => ?_) (fun h3 => ?_)
      ·
        refine yL.eq (y_iinc (pc := 669) (v := 1) (x := x10) (ls' := [some (.ref 7), some (.int x1), some (.long x2), none, some (.int x4), some (.int x5), some (.long x6), none, some (.long x8), none, some (.int (x10 + 1)), some (.long x11), none, o13, o14, o15, o16, some (.int x17), o18, o19]) d137_669 kc_1 rfl (Nat.le_of_ble_eq_true rfl) rfl) ?_
        refine yL.eq (y_goto (pc := 672) (t := 226) d137_672 (by decide)) ?_
        exact yL.rf
      ·
        refine yL.eq (y_aload_n (pc := 591) (x := 7) d137_591 rfl) ?_
        refine yL.eq (y_lload (pc := 592) (x := x11) d137_592 rfl) ?_
        refine yL.eq (y_l2i (pc := 594) d137_594) ?_
        refine yL.eq (y_iload (pc := 595) (x := x17) d137_595 rfl) ?_
        refine y_calls_j (pc := 597) (n := 3) (n' := 4) (nc' := nc + 1) (ns' := ns + 6) [.ref 7, .int x11.toInt32, .int x17] [] false d137_597 q137_150 rfl rfl rfl (Nat.le_of_ble_eq_true rfl) (Nat.le_of_ble_eq_true rfl) rfl (by decide +kernel) (y_rmc mcs_116 mcs_137 hn (by decide)) (fun v5 M4 => ?_)
        refine yL.eq (y_lstore (pc := 600) (ls' := [some (.ref 7), some (.int x1), some (.long x2), none, some (.int x4), some (.int x5), some (.long x6), none, some (.long x8), none, some (.int x10), some (.long x11), none, o13, o14, o15, o16, some (.int x17), some (.long v5), none]) d137_600 rfl rfl) ?_
        refine yL.eq (y_iload (pc := 602) (x := x17) d137_602 rfl) ?_
        refine yL.eq (y_if_ne (pc := 604) (t := 621) d137_604 (by decide)) ?_
        refine yL.ite (fun h6 => ?_) (fun h6 => ?_)
        ·
          refine yL.eq (y_lload (pc := 607) (x := v5) d137_607 rfl) ?_
          refine yL.eq (y_lconst (pc := 609) (v := 0) d137_609 kl_0) ?_
          refine yL.eq (y_aload_n (pc := 610) (x := 7) d137_610 rfl) ?_
          refine yL.eq (y_iconst (pc := 611) (v := 3) d137_611 kc_3) ?_
          refine y_calls_j (pc := 612) (n := 2) (n' := 3) (nc' := nc + 2) (ns' := ns + 12) [.ref 7, .int 3] [.long 0, .long v5] false d137_612 q137_122 rfl rfl rfl (Nat.le_of_ble_eq_true rfl) (Nat.le_of_ble_eq_true rfl) rfl (by decide +kernel) (y_rme (c1 := 2) (s1 := 12) mcs_115 mcs_137 hn (by decide)) (fun v8 M7 => ?_)
          refine y_calls_i (pc := 615) (n := 3) (n' := 6) (nc' := nc + 2) (ns' := ns + 12) [.long v5, .long 0, .long v8] [] false d137_615 q137_195 rfl rfl rfl (Nat.le_of_ble_eq_true rfl) (Nat.le_of_ble_eq_true rfl) rfl (by decide +kernel) (y_rmd mcs_106 mcs_137 hn (by decide)) (fun v10 M9 => ?_)
          refine yL.eq (y_goto (pc := 618) (t := 662) d137_618 (by decide)) ?_
          refine yL.eq (y_istore_n (pc := 662) (ls' := [some (.ref 7), some (.int v10), some (.long x2), none, some (.int x4), some (.int x5), some (.long x6), none, some (.long x8), none, some (.int x10), some (.long x11), none, o13, o14, o15, o16, some (.int x17), some (.long v5), none]) d137_662 rfl rfl) ?_
          refine yL.eq (y_iinc (pc := 663) (v := 1) (x := x17) (ls' := [some (.ref 7), some (.int v10), some (.long x2), none, some (.int x4), some (.int x5), some (.long x6), none, some (.long x8), none, some (.int x10), some (.long x11), none, o13, o14, o15, (xUn o16), some (.int (x17 + 1)), some (.long v5), none]) d137_663 kc_1 rfl (Nat.le_of_ble_eq_true rfl) rfl) ?_
          refine yL.eq (y_goto (pc := 666) (t := 571) d137_666 (by decide)) ?_
          exact yL.rf
        ·
          refine yL.eq (y_iload (pc := 621) (x := x17) d137_621 rfl) ?_
          refine yL.eq (y_iconst (pc := 623) (v := 5) d137_623 kc_5) ?_
          refine yL.eq (y_icmp_ge (pc := 624) (t := 661) d137_624 (by decide)) ?_
          refine yL.ite (fun h11 => ?_) (fun h11 => ?_)
          ·
            refine yL.eq (y_lload (pc := 627) (x := v5) d137_627 rfl) ?_
            refine yL.eq (y_aload_n (pc := 629) (x := 7) d137_629 rfl) ?_
            refine yL.eq (y_lload (pc := 630) (x := x11) d137_630 rfl) ?_
            refine yL.eq (y_l2i (pc := 632) d137_632) ?_
            refine yL.eq (y_iload (pc := 633) (x := x17) d137_633 rfl) ?_
            refine yL.eq (y_iconst (pc := 635) (v := 4) d137_635 kc_4) ?_
            refine yL.eq (y_iadd (pc := 636) d137_636) ?_
            refine y_calls_j (pc := 637) (n := 3) (n' := 4) (nc' := nc + 2) (ns' := ns + 12) [.ref 7, .int x11.toInt32, .int (x17 + 4)] [.long v5] false d137_637 q137_150 rfl rfl rfl (Nat.le_of_ble_eq_true rfl) (Nat.le_of_ble_eq_true rfl) rfl (by decide +kernel) (y_rme (c1 := 2) (s1 := 12) mcs_116 mcs_137 hn (by decide)) (fun v13 M12 => ?_)
            refine yL.eq (y_ladd (pc := 640) d137_640) ?_
            refine yL.eq (y_aload_n (pc := 641) (x := 7) d137_641 rfl) ?_
            refine yL.eq (y_iload (pc := 642) (x := x17) d137_642 rfl) ?_
            refine yL.eq (y_iconst (pc := 644) (v := 1) d137_644 kc_1) ?_
            refine yL.eq (y_isub (pc := 645) d137_645) ?_
            refine y_calls_j (pc := 646) (n := 2) (n' := 3) (nc' := nc + 3) (ns' := ns + 18) [.ref 7, .int (x17 - 1)] [.long (v5 + v13)] false d137_646 q137_126 rfl rfl rfl (Nat.le_of_ble_eq_true rfl) (Nat.le_of_ble_eq_true rfl) rfl (by decide +kernel) (y_rme (c1 := 3) (s1 := 18) mcs_114 mcs_137 hn (by decide)) (fun v15 M14 => ?_)
            refine yL.eq (y_lcmp (pc := 649) d137_649) ?_
            refine yL.eq (y_lif_gt (pc := 650) (t := 657) d137_650 (by decide)) ?_
            refine yL.ite (fun h16 => ?_) (fun h16 => ?_)
            ·
              refine yL.eq (y_iconst (pc := 653) (v := 1) d137_653 kc_1) ?_
              refine yL.eq (y_goto (pc := 654) (t := 662) d137_654 (by decide)) ?_
              refine yL.eq (y_istore_n (pc := 662) (ls' := [some (.ref 7), some (.int 1), some (.long x2), none, some (.int x4), some (.int x5), some (.long x6), none, some (.long x8), none, some (.int x10), some (.long x11), none, o13, o14, o15, o16, some (.int x17), some (.long v5), none]) d137_662 rfl rfl) ?_
              refine yL.eq (y_iinc (pc := 663) (v := 1) (x := x17) (ls' := [some (.ref 7), some (.int 1), some (.long x2), none, some (.int x4), some (.int x5), some (.long x6), none, some (.long x8), none, some (.int x10), some (.long x11), none, o13, o14, o15, (xUn o16), some (.int (x17 + 1)), some (.long v5), none]) d137_663 kc_1 rfl (Nat.le_of_ble_eq_true rfl) rfl) ?_
              refine yL.eq (y_goto (pc := 666) (t := 571) d137_666 (by decide)) ?_
              exact yL.rf
            ·
              refine yL.eq (y_iconst (pc := 657) (v := 0) d137_657 kc_0) ?_
              refine yL.eq (y_goto (pc := 658) (t := 662) d137_658 (by decide)) ?_
              refine yL.eq (y_istore_n (pc := 662) (ls' := [some (.ref 7), some (.int 0), some (.long x2), none, some (.int x4), some (.int x5), some (.long x6), none, some (.long x8), none, some (.int x10), some (.long x11), none, o13, o14, o15, o16, some (.int x17), some (.long v5), none]) d137_662 rfl rfl) ?_
              refine yL.eq (y_iinc (pc := 663) (v := 1) (x := x17) (ls' := [some (.ref 7), some (.int 0), some (.long x2), none, some (.int x4), some (.int x5), some (.long x6), none, some (.long x8), none, some (.int x10), some (.long x11), none, o13, o14, o15, (xUn o16), some (.int (x17 + 1)), some (.long v5), none]) d137_663 kc_1 rfl (Nat.le_of_ble_eq_true rfl) rfl) ?_
              refine yL.eq (y_goto (pc := 666) (t := 571) d137_666 (by decide)) ?_
              exact yL.rf
          ·
            refine yL.eq (y_iconst (pc := 661) (v := 1) d137_661 kc_1) ?_
            refine yL.eq (y_istore_n (pc := 662) (ls' := [some (.ref 7), some (.int 1), some (.long x2), none, some (.int x4), some (.int x5), some (.long x6), none, some (.long x8), none, some (.int x10), some (.long x11), none, o13, o14, o15, o16, some (.int x17), some (.long v5), none]) d137_662 rfl rfl) ?_
            refine yL.eq (y_iinc (pc := 663) (v := 1) (x := x17) (ls' := [some (.ref 7), some (.int 1), some (.long x2), none, some (.int x4), some (.int x5), some (.long x6), none, some (.long x8), none, some (.int x10), some (.long x11), none, o13, o14, o15, (xUn o16), some (.int (x17 + 1)), some (.long v5), none]) d137_663 kc_1 rfl (Nat.le_of_ble_eq_true rfl) rfl) ?_
            refine yL.eq (y_goto (pc := 666) (t := 571) d137_666 (by decide)) ?_
            exact yL.rf
  ·
    refine yL.eq (y_iinc (pc := 669) (v := 1) (x := x10) (ls' := [some (.ref 7), some (.int x1), some (.long x2), none, some (.int x4), some (.int x5), some (.long x6), none, some (.long x8), none, some (.int (x10 + 1)), some (.long x11), none, o13, o14, o15, o16, some (.int x17), o18, o19]) d137_669 kc_1 rfl (Nat.le_of_ble_eq_true rfl) rfl) ?_
    refine yL.eq (y_goto (pc := 672) (t := 226) d137_672 (by decide)) ?_
    exact yL.rf
set_option maxRecDepth 20000 in
set_option maxHeartbeats 4000000 in
theorem e137_529 {o1 : Option Value} {x2 : Int64} {x4 : Int32} {x5 : Int32} {x6 : Int64} {x8 : Int64} {x10 : Int32} {x11 : Int64} {x13 : Int64} {x15 : Int64} {x17 : Int32} {x18 : Int32} {o19 : Option Value} {M : yM} {nc ns : Nat} (hn : nc + 60 ≤ 6000 ∧ ns + 360 ≤ 36000) : yL (if x18 = 0 then yX 137 425 [some (.ref 7), some (.int 1), some (.long x2), none, some (.int x4), some (.int x5), some (.long x6), none, some (.long x8), none, some (.int x10), some (.long x11), none, some (.long x13), none, some (.long x15), none, some (.int (x17 + 1)), some (.int x18), o19] [] M nc ns else yCj false (yX 112 0 [some (.ref 7), some (.int x17), some (.int 6), none] [] M 0 0) fun v3 M2 => yCj false (yX 112 0 [some (.ref 7), some (.int x17), some (.int 0), none] [] M2 0 0) fun v5 M4 => if v3 < (v5 + x15) then yX 137 425 [some (.ref 7), some (.int 0), some (.long x2), none, some (.int x4), some (.int x5), some (.long x6), none, some (.long x8), none, some (.int x10), some (.long x11), none, some (.long x13), none, some (.long x15), none, some (.int (x17 + 1)), some (.int x18), o19] [] M4 (nc + 4) (ns + 24) else yX 137 425 [some (.ref 7), some (.int 1), some (.long x2), none, some (.int x4), some (.int x5), some (.long x6), none, some (.long x8), none, some (.int x10), some (.long x11), none, some (.long x13), none, some (.long x15), none, some (.int (x17 + 1)), some (.int x18), o19] [] M4 (nc + 4) (ns + 24)) (yX 137 529 [some (.ref 7), o1, some (.long x2), none, some (.int x4), some (.int x5), some (.long x6), none, some (.long x8), none, some (.int x10), some (.long x11), none, some (.long x13), none, some (.long x15), none, some (.int x17), some (.int x18), o19] [] M nc ns) := by
  refine yL.eq (y_iload (pc := 529) (x := x18) d137_529 rfl) ?_
  refine yL.eq (y_if_eq (pc := 531) (t := 556) d137_531 (by decide)) ?_
  refine yL.ite (fun h1 => ?_) (fun h1 => ?_)
  ·
    refine yL.eq (y_iconst (pc := 556) (v := 1) d137_556 kc_1) ?_
    refine yL.eq (y_goto (pc := 557) (t := 561) d137_557 (by decide)) ?_
    refine yL.eq (y_istore_n (pc := 561) (ls' := [some (.ref 7), some (.int 1), some (.long x2), none, some (.int x4), some (.int x5), some (.long x6), none, some (.long x8), none, some (.int x10), some (.long x11), none, some (.long x13), none, some (.long x15), none, some (.int x17), some (.int x18), o19]) d137_561 rfl rfl) ?_
    refine yL.eq (y_iinc (pc := 562) (v := 1) (x := x17) (ls' := [some (.ref 7), some (.int 1), some (.long x2), none, some (.int x4), some (.int x5), some (.long x6), none, some (.long x8), none, some (.int x10), some (.long x11), none, some (.long x13), none, some (.long x15), none, some (.int (x17 + 1)), some (.int x18), o19]) d137_562 kc_1 rfl (Nat.le_of_ble_eq_true rfl) rfl) ?_
    refine yL.eq (y_goto (pc := 565) (t := 425) d137_565 (by decide)) ?_
    exact yL.rf
  ·
    refine yL.eq (y_aload_n (pc := 534) (x := 7) d137_534 rfl) ?_
    refine yL.eq (y_iload (pc := 535) (x := x17) d137_535 rfl) ?_
    refine yL.eq (y_bipush (pc := 537) (v := 6) d137_537 kb_6) ?_
    refine y_calls_j (pc := 539) (n := 3) (n' := 4) (nc' := nc + 2) (ns' := ns + 12) [.ref 7, .int x17, .int 6] [] false d137_539 q137_131 rfl rfl rfl (Nat.le_of_ble_eq_true rfl) (Nat.le_of_ble_eq_true rfl) rfl (by decide +kernel) (y_rmc mcs_112 mcs_137 hn (by decide)) (fun v3 M2 => ?_)
    refine yL.eq (y_aload_n (pc := 542) (x := 7) d137_542 rfl) ?_
    refine yL.eq (y_iload (pc := 543) (x := x17) d137_543 rfl) ?_
    refine yL.eq (y_iconst (pc := 545) (v := 0) d137_545 kc_0) ?_
    refine y_calls_j (pc := 546) (n := 3) (n' := 4) (nc' := nc + 4) (ns' := ns + 24) [.ref 7, .int x17, .int 0] [.long v3] false d137_546 q137_131 rfl rfl rfl (Nat.le_of_ble_eq_true rfl) (Nat.le_of_ble_eq_true rfl) rfl (by decide +kernel) (y_rme (c1 := 4) (s1 := 24) mcs_112 mcs_137 hn (by decide)) (fun v5 M4 => ?_)
    refine yL.eq (y_lload (pc := 549) (x := x15) d137_549 rfl) ?_
    refine yL.eq (y_ladd (pc := 551) d137_551) ?_
    refine yL.eq (y_lcmp (pc := 552) d137_552) ?_
    refine yL.eq (y_lif_lt (pc := 553) (t := 560) d137_553 (by decide)) ?_
    refine yL.ite (fun h6 => ?_) (fun h6 => ?_)
    ·
      refine yL.eq (y_iconst (pc := 560) (v := 0) d137_560 kc_0) ?_
      refine yL.eq (y_istore_n (pc := 561) (ls' := [some (.ref 7), some (.int 0), some (.long x2), none, some (.int x4), some (.int x5), some (.long x6), none, some (.long x8), none, some (.int x10), some (.long x11), none, some (.long x13), none, some (.long x15), none, some (.int x17), some (.int x18), o19]) d137_561 rfl rfl) ?_
      refine yL.eq (y_iinc (pc := 562) (v := 1) (x := x17) (ls' := [some (.ref 7), some (.int 0), some (.long x2), none, some (.int x4), some (.int x5), some (.long x6), none, some (.long x8), none, some (.int x10), some (.long x11), none, some (.long x13), none, some (.long x15), none, some (.int (x17 + 1)), some (.int x18), o19]) d137_562 kc_1 rfl (Nat.le_of_ble_eq_true rfl) rfl) ?_
      refine yL.eq (y_goto (pc := 565) (t := 425) d137_565 (by decide)) ?_
      exact yL.rf
    ·
      refine yL.eq (y_iconst (pc := 556) (v := 1) d137_556 kc_1) ?_
      refine yL.eq (y_goto (pc := 557) (t := 561) d137_557 (by decide)) ?_
      refine yL.eq (y_istore_n (pc := 561) (ls' := [some (.ref 7), some (.int 1), some (.long x2), none, some (.int x4), some (.int x5), some (.long x6), none, some (.long x8), none, some (.int x10), some (.long x11), none, some (.long x13), none, some (.long x15), none, some (.int x17), some (.int x18), o19]) d137_561 rfl rfl) ?_
      refine yL.eq (y_iinc (pc := 562) (v := 1) (x := x17) (ls' := [some (.ref 7), some (.int 1), some (.long x2), none, some (.int x4), some (.int x5), some (.long x6), none, some (.long x8), none, some (.int x10), some (.long x11), none, some (.long x13), none, some (.long x15), none, some (.int (x17 + 1)), some (.int x18), o19]) d137_562 kc_1 rfl (Nat.le_of_ble_eq_true rfl) rfl) ?_
      refine yL.eq (y_goto (pc := 565) (t := 425) d137_565 (by decide)) ?_
      exact yL.rf
