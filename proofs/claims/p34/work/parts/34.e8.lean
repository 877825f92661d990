set_option maxRecDepth 20000 in
set_option maxHeartbeats 4000000 in
theorem e138 {a1 : Int32} {M : yM} {nc ns : Nat} (hn : nc + 1600 ≤ 5000 ∧ ns + 9600 ≤ 30000) : yL (yCj false (yX 135 0 [some (.ref 7), none, none, none, none] [] M 0 0) fun v2 M1 => yCj false (yX 133 0 [some (.ref 7), some (.int 1), none] [] M1 0 0) fun v4 M3 => yCj false (yX 109 0 [some (.ref 7), some (.int 1), none] [] M3 0 0) fun v6 M5 => if v4 = v6 then yCj false (yX 132 0 [some (.ref 7), some (.long a1.toInt64), none, some (.int 6), none] [] M5 0 0) fun v9 M8 => yCj false (yX 132 0 [some (.ref 7), some (.long a1.toInt64), none, some (.int 6), none] [] M8 0 0) fun v11 M10 => if v9 = v11 then yX 138 39 [some (.ref 7), some (.int a1), some (.long v2), none, none, none, none, none, none, none, none, none, none, none, none, none, none, none, none, none, none, none] [] M10 (nc + 404) (ns + 2424) else yX 138 52 [some (.ref 7), some (.int a1), some (.long v2), none, none, none, none, none, none, none, none, none, none, none, none, none, none, none, none, none, none, none] [] M10 (nc + 404) (ns + 2424) else yX 138 52 [some (.ref 7), some (.int a1), some (.long v2), none, none, none, none, none, none, none, none, none, none, none, none, none, none, none, none, none, none, none] [] M5 (nc + 402) (ns + 2412)) (yX 138 0 [some (.ref 7), some (.int a1), none, none, none, none, none, none, none, none, none, none, none, none, none, none, none, none, none, none, none, none] [] M nc ns) := by
  refine yL.eq (y_aload_n (pc := 0) (x := 7) d138_0 rfl) ?_
  refine y_calls_j (pc := 1) (n := 1) (n' := 5) (nc' := nc + 400) (ns' := ns + 2400) [.ref 7] [] false d138_1 q138_133 rfl rfl rfl (Nat.le_of_ble_eq_true rfl) (Nat.le_of_ble_eq_true rfl) rfl (by decide +kernel) (y_rmc mcs_135 mcs_138 hn (by decide)) (fun v2 M1 => ?_)
  refine yL.eq (y_lstore_n (pc := 4) (ls' := [some (.ref 7), some (.int a1), some (.long v2), none, none, none, none, none, none, none, none, none, none, none, none, none, none, none, none, none, none, none]) d138_4 rfl rfl) ?_
  refine yL.eq (y_aload_n (pc := 5) (x := 7) d138_5 rfl) ?_
  refine yL.eq (y_iconst (pc := 6) (v := 1) d138_6 kc_1) ?_
  refine y_calls_j (pc := 7) (n := 2) (n' := 3) (nc' := nc + 401) (ns' := ns + 2406) [.ref 7, .int 1] [] false d138_7 q138_179 rfl rfl rfl (Nat.le_of_ble_eq_true rfl) (Nat.le_of_ble_eq_true rfl) rfl (by decide +kernel) (y_rme (c1 := 401) (s1 := 2406) mcs_133 mcs_138 hn (by decide)) (fun v4 M3 => ?_)
  refine yL.eq (y_aload_n (pc := 10) (x := 7) d138_10 rfl) ?_
  refine yL.eq (y_iconst (pc := 11) (v := 1) d138_11 kc_1) ?_
  refine y_calls_j (pc := 12) (n := 2) (n' := 3) (nc' := nc + 402) (ns' := ns + 2412) [.ref 7, .int 1] [.long v4] false d138_12 q138_117 rfl rfl rfl (Nat.le_of_ble_eq_true rfl) (Nat.le_of_ble_eq_true rfl) rfl (by decide +kernel) (y_rme (c1 := 402) (s1 := 2412) mcs_109 mcs_138 hn (by decide)) (fun v6 M5 => ?_)
  refine yL.eq (y_lcmp (pc := 15) d138_15) ?_
  refine yL.eq (y_lif_ne (pc := 16) (t := 52) d138_16 (by decide)) ?_
  refine yL.ite (fun h7 => ?_) (fun h7 => ?_)
  ·
    refine yL.eq (y_aload_n (pc := 19) (x := 7) d138_19 rfl) ?_
    refine yL.eq (y_iload_n (pc := 20) (x := a1) d138_20 rfl) ?_
    refine yL.eq (y_i2l (pc := 21) d138_21) ?_
    refine yL.eq (y_bipush (pc := 22) (v := 6) d138_22 kb_6) ?_
    refine y_calls_j (pc := 24) (n := 3) (n' := 5) (nc' := nc + 403) (ns' := ns + 2418) [.ref 7, .long a1.toInt64, .int 6] [] false d138_24 q138_176 rfl rfl rfl (Nat.le_of_ble_eq_true rfl) (Nat.le_of_ble_eq_true rfl) rfl (by decide +kernel) (y_rme (c1 := 403) (s1 := 2418) mcs_132 mcs_138 hn (by decide)) (fun v9 M8 => ?_)
    refine yL.eq (y_aload_n (pc := 27) (x := 7) d138_27 rfl) ?_
    refine yL.eq (y_iload_n (pc := 28) (x := a1) d138_28 rfl) ?_
    refine yL.eq (y_i2l (pc := 29) d138_29) ?_
    refine yL.eq (y_bipush (pc := 30) (v := 6) d138_30 kb_6) ?_
    refine y_calls_j (pc := 32) (n := 3) (n' := 5) (nc' := nc + 404) (ns' := ns + 2424) [.ref 7, .long a1.toInt64, .int 6] [.long v9] false d138_32 q138_176 rfl rfl rfl (Nat.le_of_ble_eq_true rfl) (Nat.le_of_ble_eq_true rfl) rfl (by decide +kernel) (y_rme (c1 := 404) (s1 := 2424) mcs_132 mcs_138 hn (by decide)) (fun v11 M10 => ?_)
    refine yL.eq (y_lcmp (pc := 35) d138_35) ?_
    refine yL.eq (y_lif_ne (pc := 36) (t := 52) d138_36 (by decide)) ?_
    refine yL.ite (fun h12 => ?_) (fun h12 => ?_)
    ·
      exact yL.rf
    ·
      exact yL.rf
  ·
    exact yL.rf
set_option maxRecDepth 20000 in
set_option maxHeartbeats 4000000 in
theorem e138_39 {x1 : Int32} {x2 : Int64} {o4 : Option Value} {o5 : Option Value} {o6 : Option Value} {o7 : Option Value} {o8 : Option Value} {o9 : Option Value} {o10 : Option Value} {o11 : Option Value} {o12 : Option Value} {o13 : Option Value} {o14 : Option Value} {o15 : Option Value} {o16 : Option Value} {o17 : Option Value} {o18 : Option Value} {o19 : Option Value} {o20 : Option Value} {o21 : Option Value} {M : yM} {nc ns : Nat} (hn : nc + 1600 ≤ 5000 ∧ ns + 9600 ≤ 30000) : yL (yCj false (yX 135 0 [some (.ref 7), none, none, none, none] [] M 0 0) fun v2 M1 => if v2 = x2 then yCj false (yX 114 0 [some (.ref 7), some (.int (x1 % 4)), none] [] M1 0 0) fun v5 M4 => if v5.toInt32 < 3 then yCj false (yX 127 0 [some (.ref 7), some (.int (x1 % 4)), some (.int 0), none] [] M4 0 0) fun v8 M7 => yCj false (yX 127 0 [some (.ref 7), some (.int (x1 % 4)), some (.int 1), none] [] M7 0 0) fun v10 M9 => yCj false (yX 109 0 [some (.ref 7), some (.int 6), none] [] M9 0 0) fun v12 M11 => if v10 ≤ v12 then yX 138 110 [some (.ref 7), some (.int x1), some (.long x2), none, some (.int 1), some (.int (x1 % 4)), some (.int v5.toInt32), some (.long v8), none, some (.long v10), none, o11, o12, o13, o14, o15, o16, o17, o18, o19, o20, o21] [] M11 (nc + 406) (ns + 2436) else yX 138 175 [some (.ref 7), some (.int x1), some (.long x2), none, some (.int 0), some (.int (x1 % 4)), some (.int v5.toInt32), some (.long v8), none, some (.long v10), none, o11, o12, o13, o14, o15, o16, o17, o18, o19, o20, o21] [] M11 (nc + 406) (ns + 2436) else yX 138 175 [some (.ref 7), some (.int x1), some (.long x2), none, some (.int 1), some (.int (x1 % 4)), some (.int v5.toInt32), o7, o8, o9, o10, o11, o12, o13, o14, o15, o16, o17, o18, o19, o20, o21] [] M4 (nc + 401) (ns + 2406) else yX 138 52 [some (.ref 7), some (.int x1), some (.long x2), none, o4, o5, o6, o7, o8, o9, o10, o11, o12, o13, o14, o15, o16, o17, o18, o19, o20, o21] [] M1 (nc + 400) (ns + 2400)) (yX 138 39 [some (.ref 7), some (.int x1), some (.long x2), none, o4, o5, o6, o7, o8, o9, o10, o11, o12, o13, o14, o15, o16, o17, o18, o19, o20, o21] [] M nc ns) := by
  refine yL.eq (y_aload_n (pc := 39) (x := 7) d138_39 rfl) ?_
  refine y_calls_j (pc := 40) (n := 1) (n' := 5) (nc' := nc + 400) (ns' := ns + 2400) [.ref 7] [] false d138_40 q138_133 rfl rfl rfl (Nat.le_of_ble_eq_true rfl) (Nat.le_of_ble_eq_true rfl) rfl (by decide +kernel) (y_rmc mcs_135 mcs_138 hn (by decide)) (fun v2 M1 => ?_)
  refine yL.eq (y_lload_n (pc := 43) (x := x2) d138_43 rfl) ?_
  refine yL.eq (y_lcmp (pc := 44) d138_44) ?_
  refine yL.eq (y_lif_ne (pc := 45) (t := 52) d138_45 (by decide)) ?_
  refine yL.ite (fun h3 => ?_) (fun h3 => ?_)
  ·
    refine yL.eq (y_iconst (pc := 48) (v := 1) d138_48 kc_1) ?_
    refine yL.eq (y_goto (pc := 49) (t := 53) d138_49 (by decide)) ?_
    refine yL.eq (y_istore (pc := 53) (ls' := [some (.ref 7), some (.int x1), some (.long x2), none, some (.int 1), o5, o6, o7, o8, o9, o10, o11, o12, o13, o14, o15, o16, o17, o18, o19, o20, o21]) d138_53 rfl rfl) ?_
    refine yL.eq (y_iload_n (pc := 55) (x := x1) d138_55 rfl) ?_
    refine yL.eq (y_iconst (pc := 56) (v := 4) d138_56 kc_4) ?_
    refine yL.eq (y_imodc (pc := 57) d138_57 nzI_4) ?_
    refine yL.eq (y_istore (pc := 58) (ls' := [some (.ref 7), some (.int x1), some (.long x2), none, some (.int 1), some (.int (x1 % 4)), o6, o7, o8, o9, o10, o11, o12, o13, o14, o15, o16, o17, o18, o19, o20, o21]) d138_58 rfl rfl) ?_
    refine yL.eq (y_aload_n (pc := 60) (x := 7) d138_60 rfl) ?_
    refine yL.eq (y_iload (pc := 61) (x := (x1 % 4)) d138_61 rfl) ?_
    refine y_calls_j (pc := 63) (n := 2) (n' := 3) (nc' := nc + 401) (ns' := ns + 2406) [.ref 7, .int (x1 % 4)] [] false d138_63 q138_126 rfl rfl rfl (Nat.le_of_ble_eq_true rfl) (Nat.le_of_ble_eq_true rfl) rfl (by decide +kernel) (y_rme (c1 := 401) (s1 := 2406) mcs_114 mcs_138 hn (by decide)) (fun v5 M4 => ?_)
    refine yL.eq (y_l2i (pc := 66) d138_66) ?_
    refine yL.eq (y_istore (pc := 67) (ls' := [some (.ref 7), some (.int x1), some (.long x2), none, some (.int 1), some (.int (x1 % 4)), some (.int v5.toInt32), o7, o8, o9, o10, o11, o12, o13, o14, o15, o16, o17, o18, o19, o20, o21]) d138_67 rfl rfl) ?_
    refine yL.eq (y_iload (pc := 69) (x := v5.toInt32) d138_69 rfl) ?_
    refine yL.eq (y_iconst (pc := 71) (v := 3) d138_71 kc_3) ?_
    refine yL.eq (y_icmp_ge (pc := 72) (t := 175) d138_72 (by decide)) ?_
    refine yL.ite (fun h6 => ?_) (fun h6 => ?_)
    ·
      refine yL.eq (y_iload (pc := 75) (x := 1) d138_75 rfl) ?_
      refine yL.eq (y_if_eq (pc := 77) (t := 175) d138_77 (by decide)) ?_
      refine yL.eq (if_neg cn_Int32_1_eq_0) ?_
      refine yL.eq (y_aload_n (pc := 80) (x := 7) d138_80 rfl) ?_
      refine yL.eq (y_iload (pc := 81) (x := (x1 % 4)) d138_81 rfl) ?_
      refine yL.eq (y_iconst (pc := 83) (v := 0) d138_83 kc_0) ?_
      refine y_calls_j (pc := 84) (n := 3) (n' := 4) (nc' := nc + 403) (ns' := ns + 2418) [.ref 7, .int (x1 % 4), .int 0] [] false d138_84 q138_162 rfl rfl rfl (Nat.le_of_ble_eq_true rfl) (Nat.le_of_ble_eq_true rfl) rfl (by decide +kernel) (y_rme (c1 := 403) (s1 := 2418) mcs_127 mcs_138 hn (by decide)) (fun v8 M7 => ?_)
      refine yL.eq (y_lstore (pc := 87) (ls' := [some (.ref 7), some (.int x1), some (.long x2), none, some (.int 1), some (.int (x1 % 4)), some (.int v5.toInt32), some (.long v8), none, o9, o10, o11, o12, o13, o14, o15, o16, o17, o18, o19, o20, o21]) d138_87 rfl rfl) ?_
      refine yL.eq (y_aload_n (pc := 89) (x := 7) d138_89 rfl) ?_
      refine yL.eq (y_iload (pc := 90) (x := (x1 % 4)) d138_90 rfl) ?_
      refine yL.eq (y_iconst (pc := 92) (v := 1) d138_92 kc_1) ?_
      refine y_calls_j (pc := 93) (n := 3) (n' := 4) (nc' := nc + 405) (ns' := ns + 2430) [.ref 7, .int (x1 % 4), .int 1] [] false d138_93 q138_162 rfl rfl rfl (Nat.le_of_ble_eq_true rfl) (Nat.le_of_ble_eq_true rfl) rfl (by decide +kernel) (y_rme (c1 := 405) (s1 := 2430) mcs_127 mcs_138 hn (by decide)) (fun v10 M9 => ?_)
      refine yL.eq (y_lstore (pc := 96) (ls' := [some (.ref 7), some (.int x1), some (.long x2), none, some (.int 1), some (.int (x1 % 4)), some (.int v5.toInt32), some (.long v8), none, some (.long v10), none, o11, o12, o13, o14, o15, o16, o17, o18, o19, o20, o21]) d138_96 rfl rfl) ?_
      refine yL.eq (y_lload (pc := 98) (x := v10) d138_98 rfl) ?_
      refine yL.eq (y_aload_n (pc := 100) (x := 7) d138_100 rfl) ?_
      refine yL.eq (y_bipush (pc := 101) (v := 6) d138_101 kb_6) ?_
      refine y_calls_j (pc := 103) (n := 2) (n' := 3) (nc' := nc + 406) (ns' := ns + 2436) [.ref 7, .int 6] [.long v10] false d138_103 q138_117 rfl rfl rfl (Nat.le_of_ble_eq_true rfl) (Nat.le_of_ble_eq_true rfl) rfl (by decide +kernel) (y_rme (c1 := 406) (s1 := 2436) mcs_109 mcs_138 hn (by decide)) (fun v12 M11 => ?_)
      refine yL.eq (y_lcmp (pc := 106) d138_106) ?_
      refine yL.eq (y_lif_gt (pc := 107) (t := 172) d138_107 (by decide)) ?_
      refine yL.ite (fun h13 => ?_) (fun h13 => ?_)
      ·
        exact yL.rf
      ·
        refine yL.eq (y_iconst (pc := 172) (v := 0) d138_172 kc_0) ?_
        refine yL.eq (y_istore (pc := 173) (ls' := [some (.ref 7), some (.int x1), some (.long x2), none, some (.int 0), some (.int (x1 % 4)), some (.int v5.toInt32), some (.long v8), none, some (.long v10), none, o11, o12, o13, o14, o15, o16, o17, o18, o19, o20, o21]) d138_173 rfl rfl) ?_
        exact yL.rf
    ·
      exact yL.rf
  ·
    exact yL.rf
set_option maxRecDepth 20000 in
set_option maxHeartbeats 4000000 in
theorem e138_52 {x1 : Int32} {x2 : Int64} {o4 : Option Value} {o5 : Option Value} {o6 : Option Value} {o7 : Option Value} {o8 : Option Value} {o9 : Option Value} {o10 : Option Value} {o11 : Option Value} {o12 : Option Value} {o13 : Option Value} {o14 : Option Value} {o15 : Option Value} {o16 : Option Value} {o17 : Option Value} {o18 : Option Value} {o19 : Option Value} {o20 : Option Value} {o21 : Option Value} {M : yM} {nc ns : Nat} (hn : nc + 1600 ≤ 5000 ∧ ns + 9600 ≤ 30000) : yL (yCj false (yX 114 0 [some (.ref 7), some (.int (x1 % 4)), none] [] M 0 0) fun v2 M1 => if v2.toInt32 < 3 then yX 138 175 [some (.ref 7), some (.int x1), some (.long x2), none, some (.int 0), some (.int (x1 % 4)), some (.int v2.toInt32), o7, o8, o9, o10, o11, o12, o13, o14, o15, o16, o17, o18, o19, o20, o21] [] M1 (nc + 1) (ns + 6) else yX 138 175 [some (.ref 7), some (.int x1), some (.long x2), none, some (.int 0), some (.int (x1 % 4)), some (.int v2.toInt32), o7, o8, o9, o10, o11, o12, o13, o14, o15, o16, o17, o18, o19, o20, o21] [] M1 (nc + 1) (ns + 6)) (yX 138 52 [some (.ref 7), some (.int x1), some (.long x2), none, o4, o5, o6, o7, o8, o9, o10, o11, o12, o13, o14, o15, o16, o17, o18, o19, o20, o21] [] M nc ns) := by
  refine yL.eq (y_iconst (pc := 52) (v := 0) d138_52 kc_0) ?_
  refine yL.eq (y_istore (pc := 53) (ls' := [some (.ref 7), some (.int x1), some (.long x2), none, some (.int 0), o5, o6, o7, o8, o9, o10, o11, o12, o13, o14, o15, o16, o17, o18, o19, o20, o21]) d138_53 rfl rfl) ?_
  refine yL.eq (y_iload_n (pc := 55) (x := x1) d138_55 rfl) ?_
  refine yL.eq (y_iconst (pc := 56) (v := 4) d138_56 kc_4) ?_
  refine yL.eq (y_imodc (pc := 57) d138_57 nzI_4) ?_
  refine yL.eq (y_istore (pc := 58) (ls' := [some (.ref 7), some (.int x1), some (.long x2), none, some (.int 0), some (.int (x1 % 4)), o6, o7, o8, o9, o10, o11, o12, o13, o14, o15, o16, o17, o18, o19, o20, o21]) d138_58 rfl rfl) ?_
  refine yL.eq (y_aload_n (pc := 60) (x := 7) d138_60 rfl) ?_
  refine yL.eq (y_iload (pc := 61) (x := (x1 % 4)) d138_61 rfl) ?_
  refine y_calls_j (pc := 63) (n := 2) (n' := 3) (nc' := nc + 1) (ns' := ns + 6) [.ref 7, .int (x1 % 4)] [] false d138_63 q138_126 rfl rfl rfl (Nat.le_of_ble_eq_true rfl) (Nat.le_of_ble_eq_true rfl) rfl (by decide +kernel) (y_rmc mcs_114 mcs_138 hn (by decide)) (fun v2 M1 => ?_)
  refine yL.eq (y_l2i (pc := 66) d138_66) ?_
  refine yL.eq (y_istore (pc := 67) (ls' := [some (.ref 7), some (.int x1), some (.long x2), none, some (.int 0), some (.int (x1 % 4)), some (.int v2.toInt32), o7, o8, o9, o10, o11, o12, o13, o14, o15, o16, o17, o18, o19, o20, o21]) d138_67 rfl rfl) ?_
  refine yL.eq (y_iload (pc := 69) (x := v2.toInt32) d138_69 rfl) ?_
  refine yL.eq (y_iconst (pc := 71) (v := 3) d138_71 kc_3) ?_
  refine yL.eq (y_icmp_ge (pc := 72) (t := 175) d138_72 (by decide)) ?_
  refine yL.ite (fun h3 => ?_) (fun h3 => ?_)
  ·
    refine yL.eq (y_iload (pc := 75) (x := 0) d138_75 rfl) ?_
    refine yL.eq (y_if_eq (pc := 77) (t := 175) d138_77 (by decide)) ?_
    refine yL.eq (if_pos cp_Int32_0_eq_0) ?_
    exact yL.rf
  ·
    exact yL.rf
set_option maxRecDepth 20000 in
set_option maxHeartbeats 4000000 in
theorem e138_110 {x1 : Int32} {x2 : Int64} {o4 : Option Value} {x5 : Int32} {x6 : Int32} {x7 : Int64} {x9 : Int64} {o11 : Option Value} {o12 : Option Value} {o13 : Option Value} {o14 : Option Value} {o15 : Option Value} {o16 : Option Value} {o17 : Option Value} {o18 : Option Value} {o19 : Option Value} {o20 : Option Value} {o21 : Option Value} {M : yM} {nc ns : Nat} (hn : nc + 1600 ≤ 5000 ∧ ns + 9600 ≤ 30000) : yL (yCj false (yX 124 0 [some (.ref 7), some (.int x5), some (.int (x6 + 1)), none] [] M 0 0) fun v2 M1 => if v2 = x6.toInt64 then yCj false (yX 109 0 [some (.ref 7), some (.int 5), none] [] M1 0 0) fun v5 M4 => if v5 = x7 then yCj false (yX 109 0 [some (.ref 7), some (.int 6), none] [] M4 0 0) fun v8 M7 => if v8 = x9 then yCj false (yX 126 0 [some (.ref 7), none] [] M7 0 0) fun v11 M10 => if v11 < 0 then yX 138 175 [some (.ref 7), some (.int x1), some (.long x2), none, some (.int 0), some (.int x5), some (.int x6), some (.long x7), none, some (.long x9), none, o11, o12, o13, o14, o15, o16, o17, o18, o19, o20, o21] [] M10 (nc + 6) (ns + 36) else yCj false (yX 135 0 [some (.ref 7), none, none, none, none] [] M10 0 0) fun v14 M13 => if v14 = x2 then yX 138 168 [some (.ref 7), some (.int x1), some (.long x2), none, o4, some (.int x5), some (.int x6), some (.long x7), none, some (.long x9), none, o11, o12, o13, o14, o15, o16, o17, o18, o19, o20, o21] [] M13 (nc + 406) (ns + 2436) else yX 138 175 [some (.ref 7), some (.int x1), some (.long x2), none, some (.int 0), some (.int x5), some (.int x6), some (.long x7), none, some (.long x9), none, o11, o12, o13, o14, o15, o16, o17, o18, o19, o20, o21] [] M13 (nc + 406) (ns + 2436) else yX 138 175 [some (.ref 7), some (.int x1), some (.long x2), none, some (.int 0), some (.int x5), some (.int x6), some (.long x7), none, some (.long x9), none, o11, o12, o13, o14, o15, o16, o17, o18, o19, o20, o21] [] M7 (nc + 5) (ns + 30) else yX 138 175 [some (.ref 7), some (.int x1), some (.long x2), none, some (.int 0), some (.int x5), some (.int x6), some (.long x7), none, some (.long x9), none, o11, o12, o13, o14, o15, o16, o17, o18, o19, o20, o21] [] M4 (nc + 4) (ns + 24) else yX 138 175 [some (.ref 7), some (.int x1), some (.long x2), none, some (.int 0), some (.int x5), some (.int x6), some (.long x7), none, some (.long x9), none, o11, o12, o13, o14, o15, o16, o17, o18, o19, o20, o21] [] M1 (nc + 3) (ns + 18)) (yX 138 110 [some (.ref 7), some (.int x1), some (.long x2), none, o4, some (.int x5), some (.int x6), some (.long x7), none, some (.long x9), none, o11, o12, o13, o14, o15, o16, o17, o18, o19, o20, o21] [] M nc ns) := by
  refine yL.eq (y_aload_n (pc := 110) (x := 7) d138_110 rfl) ?_
  refine yL.eq (y_iload (pc := 111) (x := x5) d138_111 rfl) ?_
  refine yL.eq (y_iload (pc := 113) (x := x6) d138_113 rfl) ?_
  refine yL.eq (y_iconst (pc := 115) (v := 1) d138_115 kc_1) ?_
  refine yL.eq (y_iadd (pc := 116) d138_116) ?_
  refine y_calls_j (pc := 117) (n := 3) (n' := 4) (nc' := nc + 3) (ns' := ns + 18) [.ref 7, .int x5, .int (x6 + 1)] [] false d138_117 q138_158 rfl rfl rfl (Nat.le_of_ble_eq_true rfl) (Nat.le_of_ble_eq_true rfl) rfl (by decide +kernel) (y_rmc mcs_124 mcs_138 hn (by decide)) (fun v2 M1 => ?_)
  refine yL.eq (y_iload (pc := 120) (x := x6) d138_120 rfl) ?_
  refine yL.eq (y_i2l (pc := 122) d138_122) ?_
  refine yL.eq (y_lcmp (pc := 123) d138_123) ?_
  refine yL.eq (y_lif_ne (pc := 124) (t := 172) d138_124 (by decide)) ?_
  refine yL.ite (fun h3 => ?_) (fun h3 => ?_)
  ·
    refine yL.eq (y_aload_n (pc := 127) (x := 7) d138_127 rfl) ?_
    refine yL.eq (y_iconst (pc := 128) (v := 5) d138_128 kc_5) ?_
    refine y_calls_j (pc := 129) (n := 2) (n' := 3) (nc' := nc + 4) (ns' := ns + 24) [.ref 7, .int 5] [] false d138_129 q138_117 rfl rfl rfl (Nat.le_of_ble_eq_true rfl) (Nat.le_of_ble_eq_true rfl) rfl (by decide +kernel) (y_rme (c1 := 4) (s1 := 24) mcs_109 mcs_138 hn (by decide)) (fun v5 M4 => ?_)
    refine yL.eq (y_lload (pc := 132) (x := x7) d138_132 rfl) ?_
    refine yL.eq (y_lcmp (pc := 134) d138_134) ?_
    refine yL.eq (y_lif_ne (pc := 135) (t := 172) d138_135 (by decide)) ?_
    refine yL.ite (fun h6 => ?_) (fun h6 => ?_)
    ·
      refine yL.eq (y_aload_n (pc := 138) (x := 7) d138_138 rfl) ?_
      refine yL.eq (y_bipush (pc := 139) (v := 6) d138_139 kb_6) ?_
      refine y_calls_j (pc := 141) (n := 2) (n' := 3) (nc' := nc + 5) (ns' := ns + 30) [.ref 7, .int 6] [] false d138_141 q138_117 rfl rfl rfl (Nat.le_of_ble_eq_true rfl) (Nat.le_of_ble_eq_true rfl) rfl (by decide +kernel) (y_rme (c1 := 5) (s1 := 30) mcs_109 mcs_138 hn (by decide)) (fun v8 M7 => ?_)
      refine yL.eq (y_lload (pc := 144) (x := x9) d138_144 rfl) ?_
      refine yL.eq (y_lcmp (pc := 146) d138_146) ?_
      refine yL.eq (y_lif_ne (pc := 147) (t := 172) d138_147 (by decide)) ?_
      refine yL.ite (fun h9 => ?_) (fun h9 => ?_)
      ·
        refine yL.eq (y_aload_n (pc := 150) (x := 7) d138_150 rfl) ?_
        refine y_calls_j (pc := 151) (n := 1) (n' := 2) (nc' := nc + 6) (ns' := ns + 36) [.ref 7] [] false d138_151 q138_205 rfl rfl rfl (Nat.le_of_ble_eq_true rfl) (Nat.le_of_ble_eq_true rfl) rfl (by decide +kernel) (y_rme (c1 := 6) (s1 := 36) mcs_126 mcs_138 hn (by decide)) (fun v11 M10 => ?_)
        refine yL.eq (y_lconst (pc := 154) (v := 0) d138_154 kl_0) ?_
        refine yL.eq (y_lcmp (pc := 155) d138_155) ?_
        refine yL.eq (y_lif_lt (pc := 156) (t := 172) d138_156 (by decide)) ?_
        refine yL.ite (fun h12 => ?_) (fun h12 => ?_)
        ·
          refine yL.eq (y_iconst (pc := 172) (v := 0) d138_172 kc_0) ?_
          refine yL.eq (y_istore (pc := 173) (ls' := [some (.ref 7), some (.int x1), some (.long x2), none, some (.int 0), some (.int x5), some (.int x6), some (.long x7), none, some (.long x9), none, o11, o12, o13, o14, o15, o16, o17, o18, o19, o20, o21]) d138_173 rfl rfl) ?_
          exact yL.rf
        ·
          refine yL.eq (y_aload_n (pc := 159) (x := 7) d138_159 rfl) ?_
          refine y_calls_j (pc := 160) (n := 1) (n' := 5) (nc' := nc + 406) (ns' := ns + 2436) [.ref 7] [] false d138_160 q138_133 rfl rfl rfl (Nat.le_of_ble_eq_true rfl) (Nat.le_of_ble_eq_true rfl) rfl (by decide +kernel) (y_rme (c1 := 406) (s1 := 2436) mcs_135 mcs_138 hn (by decide)) (fun v14 M13 => ?_)
          refine yL.eq (y_lload_n (pc := 163) (x := x2) d138_163 rfl) ?_
          refine yL.eq (y_lcmp (pc := 164) d138_164) ?_
          refine yL.eq (y_lif_ne (pc := 165) (t := 172) d138_165 (by decide)) ?_
          refine yL.ite (fun h15 => ?_) (fun h15 => ?_)
          ·
            exact yL.rf
          ·
            refine yL.eq (y_iconst (pc := 172) (v := 0) d138_172 kc_0) ?_
            refine yL.eq (y_istore (pc := 173) (ls' := [some (.ref 7), some (.int x1), some (.long x2), none, some (.int 0), some (.int x5), some (.int x6), some (.long x7), none, some (.long x9), none, o11, o12, o13, o14, o15, o16, o17, o18, o19, o20, o21]) d138_173 rfl rfl) ?_
            exact yL.rf
      ·
        refine yL.eq (y_iconst (pc := 172) (v := 0) d138_172 kc_0) ?_
        refine yL.eq (y_istore (pc := 173) (ls' := [some (.ref 7), some (.int x1), some (.long x2), none, some (.int 0), some (.int x5), some (.int x6), some (.long x7), none, some (.long x9), none, o11, o12, o13, o14, o15, o16, o17, o18, o19, o20, o21]) d138_173 rfl rfl) ?_
        exact yL.rf
    ·
      refine yL.eq (y_iconst (pc := 172) (v := 0) d138_172 kc_0) ?_
      refine yL.eq (y_istore (pc := 173) (ls' := [some (.ref 7), some (.int x1), some (.long x2), none, some (.int 0), some (.int x5), some (.int x6), some (.long x7), none, some (.long x9), none, o11, o12, o13, o14, o15, o16, o17, o18, o19, o20, o21]) d138_173 rfl rfl) ?_
      exact yL.rf
  ·
    refine yL.eq (y_iconst (pc := 172) (v := 0) d138_172 kc_0) ?_
    refine yL.eq (y_istore (pc := 173) (ls' := [some (.ref 7), some (.int x1), some (.long x2), none, some (.int 0), some (.int x5), some (.int x6), some (.long x7), none, some (.long x9), none, o11, o12, o13, o14, o15, o16, o17, o18, o19, o20, o21]) d138_173 rfl rfl) ?_
    exact yL.rf
set_option maxRecDepth 20000 in
set_option maxHeartbeats 4000000 in
theorem e138_175 {x1 : Int32} {x2 : Int64} {x4 : Int32} {o5 : Option Value} {o6 : Option Value} {o7 : Option Value} {o8 : Option Value} {o9 : Option Value} {o10 : Option Value} {o11 : Option Value} {o12 : Option Value} {o13 : Option Value} {o14 : Option Value} {o15 : Option Value} {o16 : Option Value} {o17 : Option Value} {o18 : Option Value} {o19 : Option Value} {o20 : Option Value} {o21 : Option Value} {M : yM} {nc ns : Nat} (hn : nc + 1600 ≤ 5000 ∧ ns + 9600 ≤ 30000) : yL (yCj false (yX 128 0 [some (.ref 7), some (.int (1 + (x1 % 24))), some (.int 0), none] [] M 0 0) fun v2 M1 => yCj false (yX 128 0 [some (.ref 7), some (.int (1 + (x1 % 24))), some (.int 1), none] [] M1 0 0) fun v4 M3 => if (1 + (x1 % 24)) = 0 then none else yCj false (yX 130 0 [some (.ref 7), some (.int (1 + ((x1 / 24) % (1 + (x1 % 24))))), some (.int (1 + (x1 % 24))), none] [] M3 0 0) fun v7 M6 => if x4 = 0 then yX 138 307 [some (.ref 7), some (.int x1), some (.long x2), none, some (.int x4), o5, (xUn o6), some (.int (1 + (x1 % 24))), some (.long v2), none, some (.long v4), none, some (.int (1 + ((x1 / 24) % (1 + (x1 % 24))))), some (.int v7.toInt32), o14, o15, o16, o17, o18, o19, o20, o21] [] M6 (nc + 3) (ns + 18) else yCi false (yX 106 0 [some (.long v7.toInt32.toInt64), none, some (.long ((1 + ((x1 / 24) % (1 + (x1 % 24)))).toInt64)), none, some (.long ((1 + (x1 % 24)).toInt64)), none] [] M6 0 0) fun v10 M9 => if v10 = 0 then yX 138 307 [some (.ref 7), some (.int x1), some (.long x2), none, some (.int x4), o5, (xUn o6), some (.int (1 + (x1 % 24))), some (.long v2), none, some (.long v4), none, some (.int (1 + ((x1 / 24) % (1 + (x1 % 24))))), some (.int v7.toInt32), o14, o15, o16, o17, o18, o19, o20, o21] [] M9 (nc + 3) (ns + 18) else yCj false (yX 128 0 [some (.ref 7), some (.int v7.toInt32), some (.int 1), none] [] M9 0 0) fun v13 M12 => if v13 ≤ v4 then yX 138 256 [some (.ref 7), some (.int x1), some (.long x2), none, some (.int x4), o5, (xUn o6), some (.int (1 + (x1 % 24))), some (.long v2), none, some (.long v4), none, some (.int (1 + ((x1 / 24) % (1 + (x1 % 24))))), some (.int v7.toInt32), o14, o15, o16, o17, o18, o19, o20, o21] [] M12 (nc + 4) (ns + 24) else yX 138 307 [some (.ref 7), some (.int x1), some (.long x2), none, some (.int x4), o5, (xUn o6), some (.int (1 + (x1 % 24))), some (.long v2), none, some (.long v4), none, some (.int (1 + ((x1 / 24) % (1 + (x1 % 24))))), some (.int v7.toInt32), o14, o15, o16, o17, o18, o19, o20, o21] [] M12 (nc + 4) (ns + 24)) (yX 138 175 [some (.ref 7), some (.int x1), some (.long x2), none, some (.int x4), o5, o6, o7, o8, o9, o10, o11, o12, o13, o14, o15, o16, o17, o18, o19, o20, o21] [] M nc ns) := by
  refine yL.eq (y_iconst (pc := 175) (v := 1) d138_175 kc_1) ?_
  refine yL.eq (y_iload_n (pc := 176) (x := x1) d138_176 rfl) ?_
  refine yL.eq (y_bipush (pc := 177) (v := 24) d138_177 kb_24) ?_
  refine yL.eq (y_imodc (pc := 179) d138_179 nzI_24) ?_
  refine yL.eq (y_iadd (pc := 180) d138_180) ?_
  refine yL.eq (y_istore (pc := 181) (ls' := [some (.ref 7), some (.int x1), some (.long x2), none, some (.int x4), o5, (xUn o6), some (.int (1 + (x1 % 24))), o8, o9, o10, o11, o12, o13, o14, o15, o16, o17, o18, o19, o20, o21]) d138_181 rfl rfl) ?_
  refine yL.eq (y_aload_n (pc := 183) (x := 7) d138_183 rfl) ?_
  refine yL.eq (y_iload (pc := 184) (x := (1 + (x1 % 24))) d138_184 rfl) ?_
  refine yL.eq (y_iconst (pc := 186) (v := 0) d138_186 kc_0) ?_
  refine y_calls_j (pc := 187) (n := 3) (n' := 4) (nc' := nc + 1) (ns' := ns + 6) [.ref 7, .int (1 + (x1 % 24)), .int 0] [] false d138_187 q138_164 rfl rfl rfl (Nat.le_of_ble_eq_true rfl) (Nat.le_of_ble_eq_true rfl) rfl (by decide +kernel) (y_rmc mcs_128 mcs_138 hn (by decide)) (fun v2 M1 => ?_)
  refine yL.eq (y_lstore (pc := 190) (ls' := [some (.ref 7), some (.int x1), some (.long x2), none, some (.int x4), o5, (xUn o6), some (.int (1 + (x1 % 24))), some (.long v2), none, o10, o11, o12, o13, o14, o15, o16, o17, o18, o19, o20, o21]) d138_190 rfl rfl) ?_
  refine yL.eq (y_aload_n (pc := 192) (x := 7) d138_192 rfl) ?_
  refine yL.eq (y_iload (pc := 193) (x := (1 + (x1 % 24))) d138_193 rfl) ?_
  refine yL.eq (y_iconst (pc := 195) (v := 1) d138_195 kc_1) ?_
  refine y_calls_j (pc := 196) (n := 3) (n' := 4) (nc' := nc + 2) (ns' := ns + 12) [.ref 7, .int (1 + (x1 % 24)), .int 1] [] false d138_196 q138_164 rfl rfl rfl (Nat.le_of_ble_eq_true rfl) (Nat.le_of_ble_eq_true rfl) rfl (by decide +kernel) (y_rme (c1 := 2) (s1 := 12) mcs_128 mcs_138 hn (by decide)) (fun v4 M3 => ?_)
  refine yL.eq (y_lstore (pc := 199) (ls' := [some (.ref 7), some (.int x1), some (.long x2), none, some (.int x4), o5, (xUn o6), some (.int (1 + (x1 % 24))), some (.long v2), none, some (.long v4), none, o12, o13, o14, o15, o16, o17, o18, o19, o20, o21]) d138_199 rfl rfl) ?_
  refine yL.eq (y_iconst (pc := 201) (v := 1) d138_201 kc_1) ?_
  refine yL.eq (y_iload_n (pc := 202) (x := x1) d138_202 rfl) ?_
  refine yL.eq (y_bipush (pc := 203) (v := 24) d138_203 kb_24) ?_
  refine yL.eq (y_idivc (pc := 205) d138_205 nzI_24) ?_
  refine yL.eq (y_iload (pc := 206) (x := (1 + (x1 % 24))) d138_206 rfl) ?_
  refine yL.eq (y_imod (pc := 208) d138_208) ?_
  refine yL.gn (fun h5 => ?_)
  refine yL.eq (y_iadd (pc := 209) d138_209) ?_
  refine yL.eq (y_istore (pc := 210) (ls' := [some (.ref 7), some (.int x1), some (.long x2), none, some (.int x4), o5, (xUn o6), some (.int (1 + (x1 % 24))), some (.long v2), none, some (.long v4), none, some (.int (1 + ((x1 / 24) % (1 + (x1 % 24))))), o13, o14, o15, o16, o17, o18, o19, o20, o21]) d138_210 rfl rfl) ?_
  refine yL.eq (y_aload_n (pc := 212) (x := 7) d138_212 rfl) ?_
  refine yL.eq (y_iload (pc := 213) (x := (1 + ((x1 / 24) % (1 + (x1 % 24))))) d138_213 rfl) ?_
  refine yL.eq (y_iload (pc := 215) (x := (1 + (x1 % 24))) d138_215 rfl) ?_
  refine y_calls_j (pc := 217) (n := 3) (n' := 4) (nc' := nc + 3) (ns' := ns + 18) [.ref 7, .int (1 + ((x1 / 24) % (1 + (x1 % 24)))), .int (1 + (x1 % 24))] [] false d138_217 q138_168 rfl rfl rfl (Nat.le_of_ble_eq_true rfl) (Nat.le_of_ble_eq_true rfl) rfl (by decide +kernel) (y_rme (c1 := 3) (s1 := 18) mcs_130 mcs_138 hn (by decide)) (fun v7 M6 => ?_)
  refine yL.eq (y_l2i (pc := 220) d138_220) ?_
  refine yL.eq (y_istore (pc := 221) (ls' := [some (.ref 7), some (.int x1), some (.long x2), none, some (.int x4), o5, (xUn o6), some (.int (1 + (x1 % 24))), some (.long v2), none, some (.long v4), none, some (.int (1 + ((x1 / 24) % (1 + (x1 % 24))))), some (.int v7.toInt32), o14, o15, o16, o17, o18, o19, o20, o21]) d138_221 rfl rfl) ?_
  refine yL.eq (y_iload (pc := 223) (x := x4) d138_223 rfl) ?_
  refine yL.eq (y_if_eq (pc := 225) (t := 307) d138_225 (by decide)) ?_
  refine yL.ite (fun h8 => ?_) (fun h8 => ?_)
  ·
    exact yL.rf
  ·
    refine yL.eq (y_iload (pc := 228) (x := v7.toInt32) d138_228 rfl) ?_
    refine yL.eq (y_i2l (pc := 230) d138_230) ?_
    refine yL.eq (y_iload (pc := 231) (x := (1 + ((x1 / 24) % (1 + (x1 % 24))))) d138_231 rfl) ?_
    refine yL.eq (y_i2l (pc := 233) d138_233) ?_
    refine yL.eq (y_iload (pc := 234) (x := (1 + (x1 % 24))) d138_234 rfl) ?_
    refine yL.eq (y_i2l (pc := 236) d138_236) ?_
    refine y_calls_i (pc := 237) (n := 3) (n' := 6) (nc' := nc + 3) (ns' := ns + 18) [.long v7.toInt32.toInt64, .long ((1 + ((x1 / 24) % (1 + (x1 % 24)))).toInt64), .long ((1 + (x1 % 24)).toInt64)] [] false d138_237 q138_195 rfl rfl rfl (Nat.le_of_ble_eq_true rfl) (Nat.le_of_ble_eq_true rfl) rfl (by decide +kernel) (y_rmd mcs_106 mcs_138 hn (by decide)) (fun v10 M9 => ?_)
    refine yL.eq (y_if_eq (pc := 240) (t := 307) d138_240 (by decide)) ?_
    refine yL.ite (fun h11 => ?_) (fun h11 => ?_)
    ·
      exact yL.rf
    ·
      refine yL.eq (y_aload_n (pc := 243) (x := 7) d138_243 rfl) ?_
      refine yL.eq (y_iload (pc := 244) (x := v7.toInt32) d138_244 rfl) ?_
      refine yL.eq (y_iconst (pc := 246) (v := 1) d138_246 kc_1) ?_
      refine y_calls_j (pc := 247) (n := 3) (n' := 4) (nc' := nc + 4) (ns' := ns + 24) [.ref 7, .int v7.toInt32, .int 1] [] false d138_247 q138_164 rfl rfl rfl (Nat.le_of_ble_eq_true rfl) (Nat.le_of_ble_eq_true rfl) rfl (by decide +kernel) (y_rme (c1 := 4) (s1 := 24) mcs_128 mcs_138 hn (by decide)) (fun v13 M12 => ?_)
      refine yL.eq (y_lload (pc := 250) (x := v4) d138_250 rfl) ?_
      refine yL.eq (y_lcmp (pc := 252) d138_252) ?_
      refine yL.eq (y_lif_gt (pc := 253) (t := 307) d138_253 (by decide)) ?_
      refine yL.ite (fun h14 => ?_) (fun h14 => ?_)
      ·
        exact yL.rf
      ·
        exact yL.rf
set_option maxRecDepth 20000 in
set_option maxHeartbeats 4000000 in
theorem e138_168 {x1 : Int32} {x2 : Int64} {o4 : Option Value} {o5 : Option Value} {o6 : Option Value} {o7 : Option Value} {o8 : Option Value} {o9 : Option Value} {o10 : Option Value} {o11 : Option Value} {o12 : Option Value} {o13 : Option Value} {o14 : Option Value} {o15 : Option Value} {o16 : Option Value} {o17 : Option Value} {o18 : Option Value} {o19 : Option Value} {o20 : Option Value} {o21 : Option Value} {M : yM} {nc ns : Nat} (hn : nc + 1600 ≤ 5000 ∧ ns + 9600 ≤ 30000) : yL (yX 138 175 [some (.ref 7), some (.int x1), some (.long x2), none, some (.int 1), o5, o6, o7, o8, o9, o10, o11, o12, o13, o14, o15, o16, o17, o18, o19, o20, o21] [] M nc ns) (yX 138 168 [some (.ref 7), some (.int x1), some (.long x2), none, o4, o5, o6, o7, o8, o9, o10, o11, o12, o13, o14, o15, o16, o17, o18, o19, o20, o21] [] M nc ns) := by
  refine yL.eq (y_iconst (pc := 168) (v := 1) d138_168 kc_1) ?_
  refine yL.eq (y_goto (pc := 169) (t := 173) d138_169 (by decide)) ?_
  refine yL.eq (y_istore (pc := 173) (ls' := [some (.ref 7), some (.int x1), some (.long x2), none, some (.int 1), o5, o6, o7, o8, o9, o10, o11, o12, o13, o14, o15, o16, o17, o18, o19, o20, o21]) d138_173 rfl rfl) ?_
  exact yL.rf
set_option maxRecDepth 20000 in
set_option maxHeartbeats 4000000 in
theorem e138_307 {x1 : Int32} {x2 : Int64} {o4 : Option Value} {o5 : Option Value} {o6 : Option Value} {o7 : Option Value} {o8 : Option Value} {o9 : Option Value} {o10 : Option Value} {o11 : Option Value} {o12 : Option Value} {o13 : Option Value} {o14 : Option Value} {o15 : Option Value} {o16 : Option Value} {o17 : Option Value} {o18 : Option Value} {o19 : Option Value} {o20 : Option Value} {o21 : Option Value} {M : yM} {nc ns : Nat} (hn : nc + 1600 ≤ 5000 ∧ ns + 9600 ≤ 30000) : yL (yCj false (yX 109 0 [some (.ref 7), some (.int 1), none] [] M 0 0) fun v2 M1 => if v2.toInt32 ≤ 0 then yX 138 515 [some (.ref 7), some (.int x1), some (.long x2), none, some (.int 0), o5, o6, o7, o8, o9, o10, o11, o12, (xUn o13), some (.int v2.toInt32), o15, o16, o17, o18, o19, o20, o21] [] M1 (nc + 1) (ns + 6) else yX 138 515 [some (.ref 7), some (.int x1), some (.long x2), none, some (.int 0), o5, o6, o7, o8, o9, o10, o11, o12, (xUn o13), some (.int v2.toInt32), o15, o16, o17, o18, o19, o20, o21] [] M1 (nc + 1) (ns + 6)) (yX 138 307 [some (.ref 7), some (.int x1), some (.long x2), none, o4, o5, o6, o7, o8, o9, o10, o11, o12, o13, o14, o15, o16, o17, o18, o19, o20, o21] [] M nc ns) := by
  refine yL.eq (y_iconst (pc := 307) (v := 0) d138_307 kc_0) ?_
  refine yL.eq (y_istore (pc := 308) (ls' := [some (.ref 7), some (.int x1), some (.long x2), none, some (.int 0), o5, o6, o7, o8, o9, o10, o11, o12, o13, o14, o15, o16, o17, o18, o19, o20, o21]) d138_308 rfl rfl) ?_
  refine yL.eq (y_aload_n (pc := 310) (x := 7) d138_310 rfl) ?_
  refine yL.eq (y_iconst (pc := 311) (v := 1) d138_311 kc_1) ?_
  refine y_calls_j (pc := 312) (n := 2) (n' := 3) (nc' := nc + 1) (ns' := ns + 6) [.ref 7, .int 1] [] false d138_312 q138_117 rfl rfl rfl (Nat.le_of_ble_eq_true rfl) (Nat.le_of_ble_eq_true rfl) rfl (by decide +kernel) (y_rmc mcs_109 mcs_138 hn (by decide)) (fun v2 M1 => ?_)
  refine yL.eq (y_l2i (pc := 315) d138_315) ?_
  refine yL.eq (y_istore (pc := 316) (ls' := [some (.ref 7), some (.int x1), some (.long x2), none, some (.int 0), o5, o6, o7, o8, o9, o10, o11, o12, (xUn o13), some (.int v2.toInt32), o15, o16, o17, o18, o19, o20, o21]) d138_316 rfl rfl) ?_
  refine yL.eq (y_iload (pc := 318) (x := v2.toInt32) d138_318 rfl) ?_
  refine yL.eq (y_if_le (pc := 320) (t := 515) d138_320 (by decide)) ?_
  refine yL.ite (fun h3 => ?_) (fun h3 => ?_)
  ·
    exact yL.rf
  ·
    refine yL.eq (y_iload (pc := 323) (x := 0) d138_323 rfl) ?_
    refine yL.eq (y_if_eq (pc := 325) (t := 515) d138_325 (by decide)) ?_
    refine yL.eq (if_pos cp_Int32_0_eq_0) ?_
    exact yL.rf
set_option maxRecDepth 20000 in
set_option maxHeartbeats 4000000 in
theorem e138_256 {x1 : Int32} {x2 : Int64} {o4 : Option Value} {o5 : Option Value} {o6 : Option Value} {x7 : Int32} {x8 : Int64} {o10 : Option Value} {o11 : Option Value} {o12 : Option Value} {o13 : Option Value} {o14 : Option Value} {o15 : Option Value} {o16 : Option Value} {o17 : Option Value} {o18 : Option Value} {o19 : Option Value} {o20 : Option Value} {o21 : Option Value} {M : yM} {nc ns : Nat} (hn : nc + 1600 ≤ 5000 ∧ ns + 9600 ≤ 30000) : yL (yCj false (yX 109 0 [some (.ref 7), some (.int 2), none] [] M 0 0) fun v2 M1 => yCj false (yX 119 0 [some (.ref 7), some (.int v2.toInt32), some (.int x7), none] [] M1 0 0) fun v4 M3 => if v4 = x8 then yCj false (yX 109 0 [some (.ref 7), some (.int 4), none] [] M3 0 0) fun v7 M6 => if v7 = x8 then yCj false (yX 126 0 [some (.ref 7), none] [] M6 0 0) fun v10 M9 => if v10 < 0 then yX 138 307 [some (.ref 7), some (.int x1), some (.long x2), none, o4, o5, o6, some (.int x7), some (.long x8), none, o10, o11, o12, o13, o14, o15, o16, o17, o18, o19, o20, o21] [] M9 (nc + 6) (ns + 36) else yCj false (yX 135 0 [some (.ref 7), none, none, none, none] [] M9 0 0) fun v13 M12 => if v13 = x2 then yX 138 303 [some (.ref 7), some (.int x1), some (.long x2), none, o4, o5, o6, some (.int x7), some (.long x8), none, o10, o11, o12, o13, o14, o15, o16, o17, o18, o19, o20, o21] [] M12 (nc + 406) (ns + 2436) else yX 138 307 [some (.ref 7), some (.int x1), some (.long x2), none, o4, o5, o6, some (.int x7), some (.long x8), none, o10, o11, o12, o13, o14, o15, o16, o17, o18, o19, o20, o21] [] M12 (nc + 406) (ns + 2436) else yX 138 307 [some (.ref 7), some (.int x1), some (.long x2), none, o4, o5, o6, some (.int x7), some (.long x8), none, o10, o11, o12, o13, o14, o15, o16, o17, o18, o19, o20, o21] [] M6 (nc + 5) (ns + 30) else yX 138 307 [some (.ref 7), some (.int x1), some (.long x2), none, o4, o5, o6, some (.int x7), some (.long x8), none, o10, o11, o12, o13, o14, o15, o16, o17, o18, o19, o20, o21] [] M3 (nc + 4) (ns + 24)) (yX 138 256 [some (.ref 7), some (.int x1), some (.long x2), none, o4, o5, o6, some (.int x7), some (.long x8), none, o10, o11, o12, o13, o14, o15, o16, o17, o18, o19, o20, o21] [] M nc ns) := by
  refine yL.eq (y_aload_n (pc := 256) (x := 7) d138_256 rfl) ?_
  refine yL.eq (y_aload_n (pc := 257) (x := 7) d138_257 rfl) ?_
  refine yL.eq (y_iconst (pc := 258) (v := 2) d138_258 kc_2) ?_
  refine y_calls_j (pc := 259) (n := 2) (n' := 3) (nc' := nc + 1) (ns' := ns + 6) [.ref 7, .int 2] [.ref 7] false d138_259 q138_117 rfl rfl rfl (Nat.le_of_ble_eq_true rfl) (Nat.le_of_ble_eq_true rfl) rfl (by decide +kernel) (y_rmc mcs_109 mcs_138 hn (by decide)) (fun v2 M1 => ?_)
  refine yL.eq (y_l2i (pc := 262) d138_262) ?_
  refine yL.eq (y_iload (pc := 263) (x := x7) d138_263 rfl) ?_
  refine y_calls_j (pc := 265) (n := 3) (n' := 4) (nc' := nc + 4) (ns' := ns + 24) [.ref 7, .int v2.toInt32, .int x7] [] false d138_265 q138_154 rfl rfl rfl (Nat.le_of_ble_eq_true rfl) (Nat.le_of_ble_eq_true rfl) rfl (by decide +kernel) (y_rme (c1 := 4) (s1 := 24) mcs_119 mcs_138 hn (by decide)) (fun v4 M3 => ?_)
  refine yL.eq (y_lload (pc := 268) (x := x8) d138_268 rfl) ?_
  refine yL.eq (y_lcmp (pc := 270) d138_270) ?_
  refine yL.eq (y_lif_ne (pc := 271) (t := 307) d138_271 (by decide)) ?_
  refine yL.ite (fun h5 => ?_) (fun h5 => ?_)
  ·
    refine yL.eq (y_aload_n (pc := 274) (x := 7) d138_274 rfl) ?_
    refine yL.eq (y_iconst (pc := 275) (v := 4) d138_275 kc_4) ?_
    refine y_calls_j (pc := 276) (n := 2) (n' := 3) (nc' := nc + 5) (ns' := ns + 30) [.ref 7, .int 4] [] false d138_276 q138_117 rfl rfl rfl (Nat.le_of_ble_eq_true rfl) (Nat.le_of_ble_eq_true rfl) rfl (by decide +kernel) (y_rme (c1 := 5) (s1 := 30) mcs_109 mcs_138 hn (by decide)) (fun v7 M6 => ?_)
    refine yL.eq (y_lload (pc := 279) (x := x8) d138_279 rfl) ?_
    refine yL.eq (y_lcmp (pc := 281) d138_281) ?_
    refine yL.eq (y_lif_ne (pc := 282) (t := 307) d138_282 (by decide)) ?_
    refine yL.ite (fun h8 => ?_) (fun h8 => ?_)
    ·
      refine yL.eq (y_aload_n (pc := 285) (x := 7) d138_285 rfl) ?_
      refine y_calls_j (pc := 286) (n := 1) (n' := 2) (nc' := nc + 6) (ns' := ns + 36) [.ref 7] [] false d138_286 q138_205 rfl rfl rfl (Nat.le_of_ble_eq_true rfl) (Nat.le_of_ble_eq_true rfl) rfl (by decide +kernel) (y_rme (c1 := 6) (s1 := 36) mcs_126 mcs_138 hn (by decide)) (fun v10 M9 => ?_)
      refine yL.eq (y_lconst (pc := 289) (v := 0) d138_289 kl_0) ?_
      refine yL.eq (y_lcmp (pc := 290) d138_290) ?_
      refine yL.eq (y_lif_lt (pc := 291) (t := 307) d138_291 (by decide)) ?_
      refine yL.ite (fun h11 => ?_) (fun h11 => ?_)
      ·
        exact yL.rf
      ·
        refine yL.eq (y_aload_n (pc := 294) (x := 7) d138_294 rfl) ?_
        refine y_calls_j (pc := 295) (n := 1) (n' := 5) (nc' := nc + 406) (ns' := ns + 2436) [.ref 7] [] false d138_295 q138_133 rfl rfl rfl (Nat.le_of_ble_eq_true rfl) (Nat.le_of_ble_eq_true rfl) rfl (by decide +kernel) (y_rme (c1 := 406) (s1 := 2436) mcs_135 mcs_138 hn (by decide)) (fun v13 M12 => ?_)
        refine yL.eq (y_lload_n (pc := 298) (x := x2) d138_298 rfl) ?_
        refine yL.eq (y_lcmp (pc := 299) d138_299) ?_
        refine yL.eq (y_lif_ne (pc := 300) (t := 307) d138_300 (by decide)) ?_
        refine yL.ite (fun h14 => ?_) (fun h14 => ?_)
        ·
          exact yL.rf
        ·
          exact yL.rf
    ·
      exact yL.rf
  ·
    exact yL.rf
set_option maxRecDepth 20000 in
set_option maxHeartbeats 4000000 in
theorem e138_515 {o1 : Option Value} {x2 : Int64} {x4 : Int32} {o5 : Option Value} {o6 : Option Value} {o7 : Option Value} {o8 : Option Value} {o9 : Option Value} {o10 : Option Value} {o11 : Option Value} {o12 : Option Value} {o13 : Option Value} {o14 : Option Value} {o15 : Option Value} {o16 : Option Value} {o17 : Option Value} {o18 : Option Value} {o19 : Option Value} {o20 : Option Value} {o21 : Option Value} {M : yM} {nc ns : Nat} (hn : nc + 1600 ≤ 5000 ∧ ns + 9600 ≤ 30000) : yL (yCi false (yX 83 0 [some (.ref 7), none, none, none, none, none, none, none] [] M 0 0) fun v2 M1 => yCj false (yX 115 0 [some (.ref 7), some (.int 4), none] [] M1 0 0) fun v4 M3 => yCj false (yX 109 0 [some (.ref 7), some (.int 6), none] [] M3 0 0) fun v6 M5 => yCj false (yX 109 0 [some (.ref 7), some (.int 5), none] [] M5 0 0) fun v8 M7 => yX 138 543 [some (.ref 7), o1, some (.long x2), none, some (.int x4), o5, o6, o7, o8, o9, o10, o11, o12, o13, (xUn o14), some (.int v2), some (.long v4), none, some (.long v6), none, some (.long v8), none] [] M7 (nc + 3) (ns + 18)) (yX 138 515 [some (.ref 7), o1, some (.long x2), none, some (.int x4), o5, o6, o7, o8, o9, o10, o11, o12, o13, o14, o15, o16, o17, o18, o19, o20, o21] [] M nc ns) := by
  refine yL.eq (y_aload_n (pc := 515) (x := 7) d138_515 rfl) ?_
  refine y_callv_i (pc := 516) (n := 1) (n' := 8) (nc' := nc) (ns' := ns) [] [] false d138_516 q138_207 mk_83 s_t_7 rfl rfl (Nat.le_of_ble_eq_true rfl) (Nat.le_of_ble_eq_true rfl) rfl (by decide +kernel) (y_rm0 mcs_83 mcs_138 hn) (fun v2 M1 => ?_)
  refine yL.eq (y_istore (pc := 519) (ls' := [some (.ref 7), o1, some (.long x2), none, some (.int x4), o5, o6, o7, o8, o9, o10, o11, o12, o13, (xUn o14), some (.int v2), o16, o17, o18, o19, o20, o21]) d138_519 rfl rfl) ?_
  refine yL.eq (y_aload_n (pc := 521) (x := 7) d138_521 rfl) ?_
  refine yL.eq (y_iconst (pc := 522) (v := 4) d138_522 kc_4) ?_
  refine y_calls_j (pc := 523) (n := 2) (n' := 3) (nc' := nc + 1) (ns' := ns + 6) [.ref 7, .int 4] [] false d138_523 q138_122 rfl rfl rfl (Nat.le_of_ble_eq_true rfl) (Nat.le_of_ble_eq_true rfl) rfl (by decide +kernel) (y_rmc mcs_115 mcs_138 hn (by decide)) (fun v4 M3 => ?_)
  refine yL.eq (y_lstore (pc := 526) (ls' := [some (.ref 7), o1, some (.long x2), none, some (.int x4), o5, o6, o7, o8, o9, o10, o11, o12, o13, (xUn o14), some (.int v2), some (.long v4), none, o18, o19, o20, o21]) d138_526 rfl rfl) ?_
  refine yL.eq (y_aload_n (pc := 528) (x := 7) d138_528 rfl) ?_
  refine yL.eq (y_bipush (pc := 529) (v := 6) d138_529 kb_6) ?_
  refine y_calls_j (pc := 531) (n := 2) (n' := 3) (nc' := nc + 2) (ns' := ns + 12) [.ref 7, .int 6] [] false d138_531 q138_117 rfl rfl rfl (Nat.le_of_ble_eq_true rfl) (Nat.le_of_ble_eq_true rfl) rfl (by decide +kernel) (y_rme (c1 := 2) (s1 := 12) mcs_109 mcs_138 hn (by decide)) (fun v6 M5 => ?_)
  refine yL.eq (y_lstore (pc := 534) (ls' := [some (.ref 7), o1, some (.long x2), none, some (.int x4), o5, o6, o7, o8, o9, o10, o11, o12, o13, (xUn o14), some (.int v2), some (.long v4), none, some (.long v6), none, o20, o21]) d138_534 rfl rfl) ?_
  refine yL.eq (y_aload_n (pc := 536) (x := 7) d138_536 rfl) ?_
  refine yL.eq (y_iconst (pc := 537) (v := 5) d138_537 kc_5) ?_
  refine y_calls_j (pc := 538) (n := 2) (n' := 3) (nc' := nc + 3) (ns' := ns + 18) [.ref 7, .int 5] [] false d138_538 q138_117 rfl rfl rfl (Nat.le_of_ble_eq_true rfl) (Nat.le_of_ble_eq_true rfl) rfl (by decide +kernel) (y_rme (c1 := 3) (s1 := 18) mcs_109 mcs_138 hn (by decide)) (fun v8 M7 => ?_)
  refine yL.eq (y_lstore (pc := 541) (ls' := [some (.ref 7), o1, some (.long x2), none, some (.int x4), o5, o6, o7, o8, o9, o10, o11, o12, o13, (xUn o14), some (.int v2), some (.long v4), none, some (.long v6), none, some (.long v8), none]) d138_541 rfl rfl) ?_
  exact yL.rf
set_option maxRecDepth 20000 in
set_option maxHeartbeats 4000000 in
theorem e138_303 {x1 : Int32} {x2 : Int64} {o4 : Option Value} {o5 : Option Value} {o6 : Option Value} {o7 : Option Value} {o8 : Option Value} {o9 : Option Value} {o10 : Option Value} {o11 : Option Value} {o12 : Option Value} {o13 : Option Value} {o14 : Option Value} {o15 : Option Value} {o16 : Option Value} {o17 : Option Value} {o18 : Option Value} {o19 : Option Value} {o20 : Option Value} {o21 : Option Value} {M : yM} {nc ns : Nat} (hn : nc + 1600 ≤ 5000 ∧ ns + 9600 ≤ 30000) : yL (yCj false (yX 109 0 [some (.ref 7), some (.int 1), none] [] M 0 0) fun v2 M1 => if v2.toInt32 ≤ 0 then yX 138 515 [some (.ref 7), some (.int x1), some (.long x2), none, some (.int 1), o5, o6, o7, o8, o9, o10, o11, o12, (xUn o13), some (.int v2.toInt32), o15, o16, o17, o18, o19, o20, o21] [] M1 (nc + 1) (ns + 6) else if v2.toInt32 = 0 then none else yCj false (yX 129 0 [some (.ref 7), some (.int (x1 % v2.toInt32)), none] [] M1 0 0) fun v6 M5 => yCj false (yX 112 0 [some (.ref 7), some (.int (x1 % v2.toInt32)), some (.int 0), none] [] M5 0 0) fun v8 M7 => yCj false (yX 109 0 [some (.ref 7), some (.int 5), none] [] M7 0 0) fun v10 M9 => if v6.toInt32 < 0 then yX 138 420 [some (.ref 7), some (.int x1), some (.long x2), none, some (.int 1), o5, o6, o7, o8, o9, o10, o11, o12, (xUn o13), some (.int v2.toInt32), some (.int (x1 % v2.toInt32)), some (.int v6.toInt32), some (.int v8.toInt32), some (.long v10), none, o20, o21] [] M9 (nc + 5) (ns + 30) else if (v8.toInt32 + v6.toInt32) ≤ 90 then yCj false (yX 121 0 [some (.ref 7), some (.int (x1 % v2.toInt32)), some (.int (v8.toInt32 + v6.toInt32)), none] [] M9 0 0) fun v14 M13 => if v14 = v8.toInt32.toInt64 then yX 138 393 [some (.ref 7), some (.int x1), some (.long x2), none, some (.int 1), o5, o6, o7, o8, o9, o10, o11, o12, (xUn o13), some (.int v2.toInt32), some (.int (x1 % v2.toInt32)), some (.int v6.toInt32), some (.int v8.toInt32), some (.long v10), none, o20, o21] [] M13 (nc + 8) (ns + 48) else yX 138 420 [some (.ref 7), some (.int x1), some (.long x2), none, some (.int 0), o5, o6, o7, o8, o9, o10, o11, o12, (xUn o13), some (.int v2.toInt32), some (.int (x1 % v2.toInt32)), some (.int v6.toInt32), some (.int v8.toInt32), some (.long v10), none, o20, o21] [] M13 (nc + 8) (ns + 48) else yX 138 420 [some (.ref 7), some (.int x1), some (.long x2), none, some (.int 1), o5, o6, o7, o8, o9, o10, o11, o12, (xUn o13), some (.int v2.toInt32), some (.int (x1 % v2.toInt32)), some (.int v6.toInt32), some (.int v8.toInt32), some (.long v10), none, o20, o21] [] M9 (nc + 5) (ns + 30)) (yX 138 303 [some (.ref 7), some (.int x1), some (.long x2), none, o4, o5, o6, o7, o8, o9, o10, o11, o12, o13, o14, o15, o16, o17, o18, o19, o20, o21] [] M nc ns) := by
  refine yL.eq (y_iconst (pc := 303) (v := 1) d138_303 kc_1) ?_
  refine yL.eq (y_goto (pc := 304) (t := 308) d138_304 (by decide)) ?_
  refine yL.eq (y_istore (pc := 308) (ls' := [some (.ref 7), some (.int x1), some (.long x2), none, some (.int 1), o5, o6, o7, o8, o9, o10, o11, o12, o13, o14, o15, o16, o17, o18, o19, o20, o21]) d138_308 rfl rfl) ?_
  refine yL.eq (y_aload_n (pc := 310) (x := 7) d138_310 rfl) ?_
  refine yL.eq (y_iconst (pc := 311) (v := 1) d138_311 kc_1) ?_
  refine y_calls_j (pc := 312) (n := 2) (n' := 3) (nc' := nc + 1) (ns' := ns + 6) [.ref 7, .int 1] [] false d138_312 q138_117 rfl rfl rfl (Nat.le_of_ble_eq_true rfl) (Nat.le_of_ble_eq_true rfl) rfl (by decide +kernel) (y_rmc mcs_109 mcs_138 hn (by decide)) (fun v2 M1 => ?_)
  refine yL.eq (y_l2i (pc := 315) d138_315) ?_
  refine yL.eq (y_istore (pc := 316) (ls' := [some (.ref 7), some (.int x1), some (.long x2), none, some (.int 1), o5, o6, o7, o8, o9, o10, o11, o12, (xUn o13), some (.int v2.toInt32), o15, o16, o17, o18, o19, o20, o21]) d138_316 rfl rfl) ?_
  refine yL.eq (y_iload (pc := 318) (x := v2.toInt32) d138_318 rfl) ?_
  refine yL.eq (y_if_le (pc := 320) (t := 515) d138_320 (by decide)) ?_
  refine yL.ite (fun h3 => ?_) (fun h3 => ?_)
  ·
    exact yL.rf
  ·
    refine yL.eq (y_iload (pc := 323) (x := 1) d138_323 rfl) ?_
    refine yL.eq (y_if_eq (pc := 325) (t := 515) d138_325 (by decide)) ?_
    refine yL.eq (if_neg cn_Int32_1_eq_0) ?_
    refine yL.eq (y_iload_n (pc := 328) (x := x1) d138_328 rfl) ?_
    refine yL.eq (y_iload (pc := 329) (x := v2.toInt32) d138_329 rfl) ?_
    refine yL.eq (y_imod (pc := 331) d138_331) ?_
    refine yL.gn (fun h4 => ?_)
    refine yL.eq (y_istore (pc := 332) (ls' := [some (.ref 7), some (.int x1), some (.long x2), none, some (.int 1), o5, o6, o7, o8, o9, o10, o11, o12, (xUn o13), some (.int v2.toInt32), some (.int (x1 % v2.toInt32)), o16, o17, o18, o19, o20, o21]) d138_332 rfl rfl) ?_
    refine yL.eq (y_aload_n (pc := 334) (x := 7) d138_334 rfl) ?_
    refine yL.eq (y_iload (pc := 335) (x := (x1 % v2.toInt32)) d138_335 rfl) ?_
    refine y_calls_j (pc := 337) (n := 2) (n' := 3) (nc' := nc + 2) (ns' := ns + 12) [.ref 7, .int (x1 % v2.toInt32)] [] false d138_337 q138_166 rfl rfl rfl (Nat.le_of_ble_eq_true rfl) (Nat.le_of_ble_eq_true rfl) rfl (by decide +kernel) (y_rme (c1 := 2) (s1 := 12) mcs_129 mcs_138 hn (by decide)) (fun v6 M5 => ?_)
    refine yL.eq (y_l2i (pc := 340) d138_340) ?_
    refine yL.eq (y_istore (pc := 341) (ls' := [some (.ref 7), some (.int x1), some (.long x2), none, some (.int 1), o5, o6, o7, o8, o9, o10, o11, o12, (xUn o13), some (.int v2.toInt32), some (.int (x1 % v2.toInt32)), some (.int v6.toInt32), o17, o18, o19, o20, o21]) d138_341 rfl rfl) ?_
    refine yL.eq (y_aload_n (pc := 343) (x := 7) d138_343 rfl) ?_
    refine yL.eq (y_iload (pc := 344) (x := (x1 % v2.toInt32)) d138_344 rfl) ?_
    refine yL.eq (y_iconst (pc := 346) (v := 0) d138_346 kc_0) ?_
    refine y_calls_j (pc := 347) (n := 3) (n' := 4) (nc' := nc + 4) (ns' := ns + 24) [.ref 7, .int (x1 % v2.toInt32), .int 0] [] false d138_347 q138_131 rfl rfl rfl (Nat.le_of_ble_eq_true rfl) (Nat.le_of_ble_eq_true rfl) rfl (by decide +kernel) (y_rme (c1 := 4) (s1 := 24) mcs_112 mcs_138 hn (by decide)) (fun v8 M7 => ?_)
    refine yL.eq (y_l2i (pc := 350) d138_350) ?_
    refine yL.eq (y_istore (pc := 351) (ls' := [some (.ref 7), some (.int x1), some (.long x2), none, some (.int 1), o5, o6, o7, o8, o9, o10, o11, o12, (xUn o13), some (.int v2.toInt32), some (.int (x1 % v2.toInt32)), some (.int v6.toInt32), some (.int v8.toInt32), o18, o19, o20, o21]) d138_351 rfl rfl) ?_
    refine yL.eq (y_aload_n (pc := 353) (x := 7) d138_353 rfl) ?_
    refine yL.eq (y_iconst (pc := 354) (v := 5) d138_354 kc_5) ?_
    refine y_calls_j (pc := 355) (n := 2) (n' := 3) (nc' := nc + 5) (ns' := ns + 30) [.ref 7, .int 5] [] false d138_355 q138_117 rfl rfl rfl (Nat.le_of_ble_eq_true rfl) (Nat.le_of_ble_eq_true rfl) rfl (by decide +kernel) (y_rme (c1 := 5) (s1 := 30) mcs_109 mcs_138 hn (by decide)) (fun v10 M9 => ?_)
    refine yL.eq (y_lstore (pc := 358) (ls' := [some (.ref 7), some (.int x1), some (.long x2), none, some (.int 1), o5, o6, o7, o8, o9, o10, o11, o12, (xUn o13), some (.int v2.toInt32), some (.int (x1 % v2.toInt32)), some (.int v6.toInt32), some (.int v8.toInt32), some (.long v10), none, o20, o21]) d138_358 rfl rfl) ?_
    refine yL.eq (y_iload (pc := 360) (x := v6.toInt32) d138_360 rfl) ?_
    refine yL.eq (y_if_lt (pc := 362) (t := 420) d138_362 (by decide)) ?_
    refine yL.ite (fun h11 => ?_) (fun h11 => ?_)
    ·
      exact yL.rf
    ·
      refine yL.eq (y_iload (pc := 365) (x := v8.toInt32) d138_365 rfl) ?_
      refine yL.eq (y_iload (pc := 367) (x := v6.toInt32) d138_367 rfl) ?_
      refine yL.eq (y_iadd (pc := 369) d138_369) ?_
      refine yL.eq (y_bipush (pc := 370) (v := 90) d138_370 kb_90) ?_
      refine yL.eq (y_icmp_gt (pc := 372) (t := 420) d138_372 (by decide)) ?_
      refine yL.ite (fun h12 => ?_) (fun h12 => ?_)
      ·
        refine yL.eq (y_aload_n (pc := 375) (x := 7) d138_375 rfl) ?_
        refine yL.eq (y_iload (pc := 376) (x := (x1 % v2.toInt32)) d138_376 rfl) ?_
        refine yL.eq (y_iload (pc := 378) (x := v8.toInt32) d138_378 rfl) ?_
        refine yL.eq (y_iload (pc := 380) (x := v6.toInt32) d138_380 rfl) ?_
        refine yL.eq (y_iadd (pc := 382) d138_382) ?_
        refine y_calls_j (pc := 383) (n := 3) (n' := 4) (nc' := nc + 8) (ns' := ns + 48) [.ref 7, .int (x1 % v2.toInt32), .int (v8.toInt32 + v6.toInt32)] [] false d138_383 q138_141 rfl rfl rfl (Nat.le_of_ble_eq_true rfl) (Nat.le_of_ble_eq_true rfl) rfl (by decide +kernel) (y_rme (c1 := 8) (s1 := 48) mcs_121 mcs_138 hn (by decide)) (fun v14 M13 => ?_)
        refine yL.eq (y_iload (pc := 386) (x := v8.toInt32) d138_386 rfl) ?_
        refine yL.eq (y_i2l (pc := 388) d138_388) ?_
        refine yL.eq (y_lcmp (pc := 389) d138_389) ?_
        refine yL.eq (y_lif_ne (pc := 390) (t := 417) d138_390 (by decide)) ?_
        refine yL.ite (fun h15 => ?_) (fun h15 => ?_)
        ·
          exact yL.rf
        ·
          refine yL.eq (y_iconst (pc := 417) (v := 0) d138_417 kc_0) ?_
          refine yL.eq (y_istore (pc := 418) (ls' := [some (.ref 7), some (.int x1), some (.long x2), none, some (.int 0), o5, o6, o7, o8, o9, o10, o11, o12, (xUn o13), some (.int v2.toInt32), some (.int (x1 % v2.toInt32)), some (.int v6.toInt32), some (.int v8.toInt32), some (.long v10), none, o20, o21]) d138_418 rfl rfl) ?_
          exact yL.rf
      ·
        exact yL.rf
set_option maxRecDepth 20000 in
set_option maxHeartbeats 4000000 in
theorem e138_543 {o1 : Option Value} {x2 : Int64} {x4 : Int32} {o5 : Option Value} {o6 : Option Value} {o7 : Option Value} {o8 : Option Value} {o9 : Option Value} {o10 : Option Value} {o11 : Option Value} {o12 : Option Value} {o13 : Option Value} {o14 : Option Value} {x15 : Int32} {x16 : Int64} {x18 : Int64} {x20 : Int64} {M : yM} {nc ns : Nat} (hn : nc + 1600 ≤ 5000 ∧ ns + 9600 ≤ 30000) : yL (if x4 = 0 then yX 138 622 [some (.ref 7), o1, some (.long x2), none, some (.int x4), o5, o6, o7, o8, o9, o10, o11, o12, o13, o14, some (.int x15), some (.long x16), none, some (.long x18), none, some (.long x20), none] [] M nc ns else yCi false (yX 106 0 [some (.long x15.toInt64), none, some (.long 0), none, some (.long 3), none] [] M 0 0) fun v3 M2 => if v3 = 0 then yX 138 622 [some (.ref 7), o1, some (.long x2), none, some (.int x4), o5, o6, o7, o8, o9, o10, o11, o12, o13, o14, some (.int x15), some (.long x16), none, some (.long x18), none, some (.long x20), none] [] M2 nc ns else yCj false (yX 125 0 [some (.ref 7), some (.int 4), some (.int x15), none] [] M2 0 0) fun v6 M5 => if v6 = x16 then yCj false (yX 109 0 [some (.ref 7), some (.int 6), none] [] M5 0 0) fun v9 M8 => if v9 < x18 then yX 138 609 [some (.ref 7), o1, some (.long x2), none, some (.int x4), o5, o6, o7, o8, o9, o10, o11, o12, o13, o14, some (.int x15), some (.long x16), none, some (.long x18), none, some (.long x20), none] [] M8 (nc + 4) (ns + 24) else yCj false (yX 109 0 [some (.ref 7), some (.int 6), none] [] M8 0 0) fun v12 M11 => if v12 = x18 then yCj false (yX 109 0 [some (.ref 7), some (.int 5), none] [] M11 0 0) fun v15 M14 => if v15 ≤ x20 then yX 138 609 [some (.ref 7), o1, some (.long x2), none, some (.int x4), o5, o6, o7, o8, o9, o10, o11, o12, o13, o14, some (.int x15), some (.long x16), none, some (.long x18), none, some (.long x20), none] [] M14 (nc + 6) (ns + 36) else yX 138 622 [some (.ref 7), o1, some (.long x2), none, some (.int x4), o5, o6, o7, o8, o9, o10, o11, o12, o13, o14, some (.int x15), some (.long x16), none, some (.long x18), none, some (.long x20), none] [] M14 (nc + 6) (ns + 36) else yX 138 622 [some (.ref 7), o1, some (.long x2), none, some (.int x4), o5, o6, o7, o8, o9, o10, o11, o12, o13, o14, some (.int x15), some (.long x16), none, some (.long x18), none, some (.long x20), none] [] M11 (nc + 5) (ns + 30) else yX 138 622 [some (.ref 7), o1, some (.long x2), none, some (.int x4), o5, o6, o7, o8, o9, o10, o11, o12, o13, o14, some (.int x15), some (.long x16), none, some (.long x18), none, some (.long x20), none] [] M5 (nc + 3) (ns + 18)) (yX 138 543 [some (.ref 7), o1, some (.long x2), none, some (.int x4), o5, o6, o7, o8, o9, o10, o11, o12, o13, o14, some (.int x15), some (.long x16), none, some (.long x18), none, some (.long x20), none] [] M nc ns) := by
  refine yL.eq (y_iload (pc := 543) (x := x4) d138_543 rfl) ?_
  refine yL.eq (y_if_eq (pc := 545) (t := 622) d138_545 (by decide)) ?_
  refine yL.ite (fun h1 => ?_) (fun h1 => ?_)
  ·
    exact yL.rf
  ·
    refine yL.eq (y_iload (pc := 548) (x := x15) d138_548 rfl) ?_
    refine yL.eq (y_i2l (pc := 550) d138_550) ?_
    refine yL.eq (y_lconst (pc := 551) (v := 0) d138_551 kl_0) ?_
    refine yL.eq (y_ldc2_w (pc := 552) (v := 3) d138_552 q138_210) ?_
    refine y_calls_i (pc := 555) (n := 3) (n' := 6) (nc' := nc) (ns' := ns) [.long x15.toInt64, .long 0, .long 3] [] false d138_555 q138_195 rfl rfl rfl (Nat.le_of_ble_eq_true rfl) (Nat.le_of_ble_eq_true rfl) rfl (by decide +kernel) (y_rm0 mcs_106 mcs_138 hn) (fun v3 M2 => ?_)
    refine yL.eq (y_if_eq (pc := 558) (t := 622) d138_558 (by decide)) ?_
    refine yL.ite (fun h4 => ?_) (fun h4 => ?_)
    ·
      exact yL.rf
    ·
      refine yL.eq (y_aload_n (pc := 561) (x := 7) d138_561 rfl) ?_
      refine yL.eq (y_iconst (pc := 562) (v := 4) d138_562 kc_4) ?_
      refine yL.eq (y_iload (pc := 563) (x := x15) d138_563 rfl) ?_
      refine y_calls_j (pc := 565) (n := 3) (n' := 4) (nc' := nc + 3) (ns' := ns + 18) [.ref 7, .int 4, .int x15] [] false d138_565 q138_160 rfl rfl rfl (Nat.le_of_ble_eq_true rfl) (Nat.le_of_ble_eq_true rfl) rfl (by decide +kernel) (y_rmc mcs_125 mcs_138 hn (by decide)) (fun v6 M5 => ?_)
      refine yL.eq (y_lload (pc := 568) (x := x16) d138_568 rfl) ?_
      refine yL.eq (y_lcmp (pc := 570) d138_570) ?_
      refine yL.eq (y_lif_ne (pc := 571) (t := 622) d138_571 (by decide)) ?_
      refine yL.ite (fun h7 => ?_) (fun h7 => ?_)
      ·
        refine yL.eq (y_aload_n (pc := 574) (x := 7) d138_574 rfl) ?_
        refine yL.eq (y_bipush (pc := 575) (v := 6) d138_575 kb_6) ?_
        refine y_calls_j (pc := 577) (n := 2) (n' := 3) (nc' := nc + 4) (ns' := ns + 24) [.ref 7, .int 6] [] false d138_577 q138_117 rfl rfl rfl (Nat.le_of_ble_eq_true rfl) (Nat.le_of_ble_eq_true rfl) rfl (by decide +kernel) (y_rme (c1 := 4) (s1 := 24) mcs_109 mcs_138 hn (by decide)) (fun v9 M8 => ?_)
        refine yL.eq (y_lload (pc := 580) (x := x18) d138_580 rfl) ?_
        refine yL.eq (y_lcmp (pc := 582) d138_582) ?_
        refine yL.eq (y_lif_lt (pc := 583) (t := 609) d138_583 (by decide)) ?_
        refine yL.ite (fun h10 => ?_) (fun h10 => ?_)
        ·
          exact yL.rf
        ·
          refine yL.eq (y_aload_n (pc := 586) (x := 7) d138_586 rfl) ?_
          refine yL.eq (y_bipush (pc := 587) (v := 6) d138_587 kb_6) ?_
          refine y_calls_j (pc := 589) (n := 2) (n' := 3) (nc' := nc + 5) (ns' := ns + 30) [.ref 7, .int 6] [] false d138_589 q138_117 rfl rfl rfl (Nat.le_of_ble_eq_true rfl) (Nat.le_of_ble_eq_true rfl) rfl (by decide +kernel) (y_rme (c1 := 5) (s1 := 30) mcs_109 mcs_138 hn (by decide)) (fun v12 M11 => ?_)
          refine yL.eq (y_lload (pc := 592) (x := x18) d138_592 rfl) ?_
          refine yL.eq (y_lcmp (pc := 594) d138_594) ?_
          refine yL.eq (y_lif_ne (pc := 595) (t := 622) d138_595 (by decide)) ?_
          refine yL.ite (fun h13 => ?_) (fun h13 => ?_)
          ·
            refine yL.eq (y_aload_n (pc := 598) (x := 7) d138_598 rfl) ?_
            refine yL.eq (y_iconst (pc := 599) (v := 5) d138_599 kc_5) ?_
            refine y_calls_j (pc := 600) (n := 2) (n' := 3) (nc' := nc + 6) (ns' := ns + 36) [.ref 7, .int 5] [] false d138_600 q138_117 rfl rfl rfl (Nat.le_of_ble_eq_true rfl) (Nat.le_of_ble_eq_true rfl) rfl (by decide +kernel) (y_rme (c1 := 6) (s1 := 36) mcs_109 mcs_138 hn (by decide)) (fun v15 M14 => ?_)
            refine yL.eq (y_lload (pc := 603) (x := x20) d138_603 rfl) ?_
            refine yL.eq (y_lcmp (pc := 605) d138_605) ?_
            refine yL.eq (y_lif_gt (pc := 606) (t := 622) d138_606 (by decide)) ?_
            refine yL.ite (fun h16 => ?_) (fun h16 => ?_)
            ·
              exact yL.rf
            ·
              exact yL.rf
          ·
            exact yL.rf
      ·
        exact yL.rf
set_option maxRecDepth 20000 in
set_option maxHeartbeats 4000000 in
theorem e138_420 {o1 : Option Value} {x2 : Int64} {x4 : Int32} {o5 : Option Value} {o6 : Option Value} {o7 : Option Value} {o8 : Option Value} {o9 : Option Value} {o10 : Option Value} {o11 : Option Value} {o12 : Option Value} {o13 : Option Value} {o14 : Option Value} {x15 : Int32} {x16 : Int32} {x17 : Int32} {x18 : Int64} {o20 : Option Value} {o21 : Option Value} {M : yM} {nc ns : Nat} (hn : nc + 1600 ≤ 5000 ∧ ns + 9600 ≤ 30000) : yL (if x16 < 0 then yX 138 494 [some (.ref 7), o1, some (.long x2), none, some (.int x4), o5, o6, o7, o8, o9, o10, o11, o12, o13, o14, some (.int x15), some (.int x16), some (.int x17), some (.long x18), none, o20, o21] [] M nc ns else if x16 < 60 then if (x17 + x16) < 90 then if x4 = 0 then yX 138 494 [some (.ref 7), o1, some (.long x2), none, some (.int x4), o5, o6, o7, o8, o9, o10, o11, o12, o13, o14, some (.int x15), some (.int x16), some (.int x17), some (.long x18), none, o20, o21] [] M nc ns else yCj false (yX 121 0 [some (.ref 7), some (.int x15), some (.int ((x17 + x16) + 1)), none] [] M 0 0) fun v6 M5 => if v6 = x17.toInt64 then yCj false (yX 109 0 [some (.ref 7), some (.int 5), none] [] M5 0 0) fun v9 M8 => if v9 ≤ x18 then yX 138 494 [some (.ref 7), o1, some (.long x2), none, some (.int 0), o5, o6, o7, o8, o9, o10, o11, o12, o13, o14, some (.int x15), some (.int x16), some (.int x17), some (.long x18), none, o20, o21] [] M8 (nc + 4) (ns + 24) else yCj false (yX 126 0 [some (.ref 7), none] [] M8 0 0) fun v12 M11 => if v12 < 0 then yX 138 494 [some (.ref 7), o1, some (.long x2), none, some (.int 0), o5, o6, o7, o8, o9, o10, o11, o12, o13, o14, some (.int x15), some (.int x16), some (.int x17), some (.long x18), none, o20, o21] [] M11 (nc + 5) (ns + 30) else yX 138 487 [some (.ref 7), o1, some (.long x2), none, some (.int x4), o5, o6, o7, o8, o9, o10, o11, o12, o13, o14, some (.int x15), some (.int x16), some (.int x17), some (.long x18), none, o20, o21] [] M11 (nc + 5) (ns + 30) else yX 138 494 [some (.ref 7), o1, some (.long x2), none, some (.int 0), o5, o6, o7, o8, o9, o10, o11, o12, o13, o14, some (.int x15), some (.int x16), some (.int x17), some (.long x18), none, o20, o21] [] M5 (nc + 3) (ns + 18) else yX 138 494 [some (.ref 7), o1, some (.long x2), none, some (.int x4), o5, o6, o7, o8, o9, o10, o11, o12, o13, o14, some (.int x15), some (.int x16), some (.int x17), some (.long x18), none, o20, o21] [] M nc ns else yX 138 494 [some (.ref 7), o1, some (.long x2), none, some (.int x4), o5, o6, o7, o8, o9, o10, o11, o12, o13, o14, some (.int x15), some (.int x16), some (.int x17), some (.long x18), none, o20, o21] [] M nc ns) (yX 138 420 [some (.ref 7), o1, some (.long x2), none, some (.int x4), o5, o6, o7, o8, o9, o10, o11, o12, o13, o14, some (.int x15), some (.int x16), some (.int x17), some (.long x18), none, o20, o21] [] M nc ns) := by
  refine yL.eq (y_iload (pc := 420) (x := x16) d138_420 rfl) ?_
  refine yL.eq (y_if_lt (pc := 422) (t := 494) d138_422 (by decide)) ?_
  refine yL.ite (fun h1 => ?_) (fun h1 => ?_)
  ·
    exact yL.rf
  ·
    refine yL.eq (y_iload (pc := 425) (x := x16) d138_425 rfl) ?_
    refine yL.eq (y_bipush (pc := 427) (v := 60) d138_427 kb_60) ?_
    refine yL.eq (y_icmp_ge (pc := 429) (t := 494) d138_429 (by decide)) ?_
    refine yL.ite (fun h2 => ?_) (fun h2 => ?_)
    ·
      refine yL.eq (y_iload (pc := 432) (x := x17) d138_432 rfl) ?_
      refine yL.eq (y_iload (pc := 434) (x := x16) d138_434 rfl) ?_
      refine yL.eq (y_iadd (pc := 436) d138_436) ?_
      refine yL.eq (y_bipush (pc := 437) (v := 90) d138_437 kb_90) ?_
      refine yL.eq (y_icmp_ge (pc := 439) (t := 494) d138_439 (by decide)) ?_
      refine yL.ite (fun h3 => ?_) (fun h3 => ?_)
      ·
        refine yL.eq (y_iload (pc := 442) (x := x4) d138_442 rfl) ?_
        refine yL.eq (y_if_eq (pc := 444) (t := 494) d138_444 (by decide)) ?_
        refine yL.ite (fun h4 => ?_) (fun h4 => ?_)
        ·
          exact yL.rf
        ·
          refine yL.eq (y_aload_n (pc := 447) (x := 7) d138_447 rfl) ?_
          refine yL.eq (y_iload (pc := 448) (x := x15) d138_448 rfl) ?_
          refine yL.eq (y_iload (pc := 450) (x := x17) d138_450 rfl) ?_
          refine yL.eq (y_iload (pc := 452) (x := x16) d138_452 rfl) ?_
          refine yL.eq (y_iadd (pc := 454) d138_454) ?_
          refine yL.eq (y_iconst (pc := 455) (v := 1) d138_455 kc_1) ?_
          refine yL.eq (y_iadd (pc := 456) d138_456) ?_
          refine y_calls_j (pc := 457) (n := 3) (n' := 4) (nc' := nc + 3) (ns' := ns + 18) [.ref 7, .int x15, .int ((x17 + x16) + 1)] [] false d138_457 q138_141 rfl rfl rfl (Nat.le_of_ble_eq_true rfl) (Nat.le_of_ble_eq_true rfl) rfl (by decide +kernel) (y_rmc mcs_121 mcs_138 hn (by decide)) (fun v6 M5 => ?_)
          refine yL.eq (y_iload (pc := 460) (x := x17) d138_460 rfl) ?_
          refine yL.eq (y_i2l (pc := 462) d138_462) ?_
          refine yL.eq (y_lcmp (pc := 463) d138_463) ?_
          refine yL.eq (y_lif_ne (pc := 464) (t := 491) d138_464 (by decide)) ?_
          refine yL.ite (fun h7 => ?_) (fun h7 => ?_)
          ·
            refine yL.eq (y_aload_n (pc := 467) (x := 7) d138_467 rfl) ?_
            refine yL.eq (y_iconst (pc := 468) (v := 5) d138_468 kc_5) ?_
            refine y_calls_j (pc := 469) (n := 2) (n' := 3) (nc' := nc + 4) (ns' := ns + 24) [.ref 7, .int 5] [] false d138_469 q138_117 rfl rfl rfl (Nat.le_of_ble_eq_true rfl) (Nat.le_of_ble_eq_true rfl) rfl (by decide +kernel) (y_rme (c1 := 4) (s1 := 24) mcs_109 mcs_138 hn (by decide)) (fun v9 M8 => ?_)
            refine yL.eq (y_lload (pc := 472) (x := x18) d138_472 rfl) ?_
            refine yL.eq (y_lcmp (pc := 474) d138_474) ?_
            refine yL.eq (y_lif_le (pc := 475) (t := 491) d138_475 (by decide)) ?_
            refine yL.ite (fun h10 => ?_) (fun h10 => ?_)
            ·
              refine yL.eq (y_iconst (pc := 491) (v := 0) d138_491 kc_0) ?_
              refine yL.eq (y_istore (pc := 492) (ls' := [some (.ref 7), o1, some (.long x2), none, some (.int 0), o5, o6, o7, o8, o9, o10, o11, o12, o13, o14, some (.int x15), some (.int x16), some (.int x17), some (.long x18), none, o20, o21]) d138_492 rfl rfl) ?_
              exact yL.rf
            ·
              refine yL.eq (y_aload_n (pc := 478) (x := 7) d138_478 rfl) ?_
              refine y_calls_j (pc := 479) (n := 1) (n' := 2) (nc' := nc + 5) (ns' := ns + 30) [.ref 7] [] false d138_479 q138_205 rfl rfl rfl (Nat.le_of_ble_eq_true rfl) (Nat.le_of_ble_eq_true rfl) rfl (by decide +kernel) (y_rme (c1 := 5) (s1 := 30) mcs_126 mcs_138 hn (by decide)) (fun v12 M11 => ?_)
              refine yL.eq (y_lconst (pc := 482) (v := 0) d138_482 kl_0) ?_
              refine yL.eq (y_lcmp (pc := 483) d138_483) ?_
              refine yL.eq (y_lif_lt (pc := 484) (t := 491) d138_484 (by decide)) ?_
              refine yL.ite (fun h13 => ?_) (fun h13 => ?_)
              ·
                refine yL.eq (y_iconst (pc := 491) (v := 0) d138_491 kc_0) ?_
                refine yL.eq (y_istore (pc := 492) (ls' := [some (.ref 7), o1, some (.long x2), none, some (.int 0), o5, o6, o7, o8, o9, o10, o11, o12, o13, o14, some (.int x15), some (.int x16), some (.int x17), some (.long x18), none, o20, o21]) d138_492 rfl rfl) ?_
                exact yL.rf
              ·
                exact yL.rf
          ·
            refine yL.eq (y_iconst (pc := 491) (v := 0) d138_491 kc_0) ?_
            refine yL.eq (y_istore (pc := 492) (ls' := [some (.ref 7), o1, some (.long x2), none, some (.int 0), o5, o6, o7, o8, o9, o10, o11, o12, o13, o14, some (.int x15), some (.int x16), some (.int x17), some (.long x18), none, o20, o21]) d138_492 rfl rfl) ?_
            exact yL.rf
      ·
        exact yL.rf
    ·
      exact yL.rf
set_option maxRecDepth 20000 in
set_option maxHeartbeats 4000000 in
theorem e138_393 {o1 : Option Value} {x2 : Int64} {o4 : Option Value} {o5 : Option Value} {o6 : Option Value} {o7 : Option Value} {o8 : Option Value} {o9 : Option Value} {o10 : Option Value} {o11 : Option Value} {o12 : Option Value} {o13 : Option Value} {o14 : Option Value} {x15 : Int32} {x16 : Int32} {x17 : Int32} {x18 : Int64} {o20 : Option Value} {o21 : Option Value} {M : yM} {nc ns : Nat} (hn : nc + 1600 ≤ 5000 ∧ ns + 9600 ≤ 30000) : yL (yCj false (yX 109 0 [some (.ref 7), some (.int 5), none] [] M 0 0) fun v2 M1 => if v2 ≤ x18 then yCj false (yX 126 0 [some (.ref 7), none] [] M1 0 0) fun v5 M4 => if v5 < 0 then yX 138 420 [some (.ref 7), o1, some (.long x2), none, some (.int 0), o5, o6, o7, o8, o9, o10, o11, o12, o13, o14, some (.int x15), some (.int x16), some (.int x17), some (.long x18), none, o20, o21] [] M4 (nc + 2) (ns + 12) else yX 138 420 [some (.ref 7), o1, some (.long x2), none, some (.int 1), o5, o6, o7, o8, o9, o10, o11, o12, o13, o14, some (.int x15), some (.int x16), some (.int x17), some (.long x18), none, o20, o21] [] M4 (nc + 2) (ns + 12) else yX 138 420 [some (.ref 7), o1, some (.long x2), none, some (.int 0), o5, o6, o7, o8, o9, o10, o11, o12, o13, o14, some (.int x15), some (.int x16), some (.int x17), some (.long x18), none, o20, o21] [] M1 (nc + 1) (ns + 6)) (yX 138 393 [some (.ref 7), o1, some (.long x2), none, o4, o5, o6, o7, o8, o9, o10, o11, o12, o13, o14, some (.int x15), some (.int x16), some (.int x17), some (.long x18), none, o20, o21] [] M nc ns) := by
  refine yL.eq (y_aload_n (pc := 393) (x := 7) d138_393 rfl) ?_
  refine yL.eq (y_iconst (pc := 394) (v := 5) d138_394 kc_5) ?_
  refine y_calls_j (pc := 395) (n := 2) (n' := 3) (nc' := nc + 1) (ns' := ns + 6) [.ref 7, .int 5] [] false d138_395 q138_117 rfl rfl rfl (Nat.le_of_ble_eq_true rfl) (Nat.le_of_ble_eq_true rfl) rfl (by decide +kernel) (y_rmc mcs_109 mcs_138 hn (by decide)) (fun v2 M1 => ?_)
  refine yL.eq (y_lload (pc := 398) (x := x18) d138_398 rfl) ?_
  refine yL.eq (y_lcmp (pc := 400) d138_400) ?_
  refine yL.eq (y_lif_gt (pc := 401) (t := 417) d138_401 (by decide)) ?_
  refine yL.ite (fun h3 => ?_) (fun h3 => ?_)
  ·
    refine yL.eq (y_aload_n (pc := 404) (x := 7) d138_404 rfl) ?_
    refine y_calls_j (pc := 405) (n := 1) (n' := 2) (nc' := nc + 2) (ns' := ns + 12) [.ref 7] [] false d138_405 q138_205 rfl rfl rfl (Nat.le_of_ble_eq_true rfl) (Nat.le_of_ble_eq_true rfl) rfl (by decide +kernel) (y_rme (c1 := 2) (s1 := 12) mcs_126 mcs_138 hn (by decide)) (fun v5 M4 => ?_)
    refine yL.eq (y_lconst (pc := 408) (v := 0) d138_408 kl_0) ?_
    refine yL.eq (y_lcmp (pc := 409) d138_409) ?_
    refine yL.eq (y_lif_lt (pc := 410) (t := 417) d138_410 (by decide)) ?_
    refine yL.ite (fun h6 => ?_) (fun h6 => ?_)
    ·
      refine yL.eq (y_iconst (pc := 417) (v := 0) d138_417 kc_0) ?_
      refine yL.eq (y_istore (pc := 418) (ls' := [some (.ref 7), o1, some (.long x2), none, some (.int 0), o5, o6, o7, o8, o9, o10, o11, o12, o13, o14, some (.int x15), some (.int x16), some (.int x17), some (.long x18), none, o20, o21]) d138_418 rfl rfl) ?_
      exact yL.rf
    ·
      refine yL.eq (y_iconst (pc := 413) (v := 1) d138_413 kc_1) ?_
      refine yL.eq (y_goto (pc := 414) (t := 418) d138_414 (by decide)) ?_
      refine yL.eq (y_istore (pc := 418) (ls' := [some (.ref 7), o1, some (.long x2), none, some (.int 1), o5, o6, o7, o8, o9, o10, o11, o12, o13, o14, some (.int x15), some (.int x16), some (.int x17), some (.long x18), none, o20, o21]) d138_418 rfl rfl) ?_
      exact yL.rf
  ·
    refine yL.eq (y_iconst (pc := 417) (v := 0) d138_417 kc_0) ?_
    refine yL.eq (y_istore (pc := 418) (ls' := [some (.ref 7), o1, some (.long x2), none, some (.int 0), o5, o6, o7, o8, o9, o10, o11, o12, o13, o14, some (.int x15), some (.int x16), some (.int x17), some (.long x18), none, o20, o21]) d138_418 rfl rfl) ?_
    exact yL.rf
set_option maxRecDepth 20000 in
set_option maxHeartbeats 4000000 in
theorem e138_622 {o1 : Option Value} {x2 : Int64} {o4 : Option Value} {o5 : Option Value} {o6 : Option Value} {o7 : Option Value} {o8 : Option Value} {o9 : Option Value} {o10 : Option Value} {o11 : Option Value} {o12 : Option Value} {o13 : Option Value} {o14 : Option Value} {o15 : Option Value} {o16 : Option Value} {o17 : Option Value} {o18 : Option Value} {o19 : Option Value} {o20 : Option Value} {o21 : Option Value} {M : yM} {nc ns : Nat} (hn : nc + 1600 ≤ 5000 ∧ ns + 9600 ≤ 30000) : yL (yI 0 M) (yX 138 622 [some (.ref 7), o1, some (.long x2), none, o4, o5, o6, o7, o8, o9, o10, o11, o12, o13, o14, o15, o16, o17, o18, o19, o20, o21] [] M nc ns) := by
  refine yL.eq (y_iconst (pc := 622) (v := 0) d138_622 kc_0) ?_
  refine yL.eq (y_istore (pc := 623) (ls' := [some (.ref 7), o1, some (.long x2), none, some (.int 0), o5, o6, o7, o8, o9, o10, o11, o12, o13, o14, o15, o16, o17, o18, o19, o20, o21]) d138_623 rfl rfl) ?_
  refine yL.eq (y_iload (pc := 625) (x := 0) d138_625 rfl) ?_
  refine yL.eq (y_if_eq (pc := 627) (t := 664) d138_627 (by decide)) ?_
  refine yL.eq (if_pos cp_Int32_0_eq_0) ?_
  refine yL.eq (y_iconst (pc := 664) (v := 0) d138_664 kc_0) ?_
  exact yL.eq (y_iretz (pc := 665) d138_665 mr_138) (yL.eq yZ_0 yL.rf)
set_option maxRecDepth 20000 in
set_option maxHeartbeats 4000000 in
theorem e138_609 {o1 : Option Value} {x2 : Int64} {o4 : Option Value} {o5 : Option Value} {o6 : Option Value} {o7 : Option Value} {o8 : Option Value} {o9 : Option Value} {o10 : Option Value} {o11 : Option Value} {o12 : Option Value} {o13 : Option Value} {o14 : Option Value} {o15 : Option Value} {o16 : Option Value} {o17 : Option Value} {o18 : Option Value} {o19 : Option Value} {o20 : Option Value} {o21 : Option Value} {M : yM} {nc ns : Nat} (hn : nc + 1600 ≤ 5000 ∧ ns + 9600 ≤ 30000) : yL (yCj false (yX 126 0 [some (.ref 7), none] [] M 0 0) fun v2 M1 => if v2 < 0 then yX 138 622 [some (.ref 7), o1, some (.long x2), none, o4, o5, o6, o7, o8, o9, o10, o11, o12, o13, o14, o15, o16, o17, o18, o19, o20, o21] [] M1 (nc + 1) (ns + 6) else yCj false (yX 134 0 [some (.ref 7), some (.int 1), none] [] M1 0 0) fun v5 M4 => if v5 < 0 then yI 0 M4 else yCj false (yX 135 0 [some (.ref 7), none, none, none, none] [] M4 0 0) fun v8 M7 => if v8 = x2 then yCj false (yX 126 0 [some (.ref 7), none] [] M7 0 0) fun v11 M10 => if v11 = (-9000000000000000003) then yI 1 M10 else yI 0 M10 else yI 0 M7) (yX 138 609 [some (.ref 7), o1, some (.long x2), none, o4, o5, o6, o7, o8, o9, o10, o11, o12, o13, o14, o15, o16, o17, o18, o19, o20, o21] [] M nc ns) := by
  refine yL.eq (y_aload_n (pc := 609) (x := 7) d138_609 rfl) ?_
  refine y_calls_j (pc := 610) (n := 1) (n' := 2) (nc' := nc + 1) (ns' := ns + 6) [.ref 7] [] false d138_610 q138_205 rfl rfl rfl (Nat.le_of_ble_eq_true rfl) (Nat.le_of_ble_eq_true rfl) rfl (by decide +kernel) (y_rmc mcs_126 mcs_138 hn (by decide)) (fun v2 M1 => ?_)
  refine yL.eq (y_lconst (pc := 613) (v := 0) d138_613 kl_0) ?_
  refine yL.eq (y_lcmp (pc := 614) d138_614) ?_
  refine yL.eq (y_lif_lt (pc := 615) (t := 622) d138_615 (by decide)) ?_
  refine yL.ite (fun h3 => ?_) (fun h3 => ?_)
  ·
    exact yL.rf
  ·
    refine yL.eq (y_iconst (pc := 618) (v := 1) d138_618 kc_1) ?_
    refine yL.eq (y_goto (pc := 619) (t := 623) d138_619 (by decide)) ?_
    refine yL.eq (y_istore (pc := 623) (ls' := [some (.ref 7), o1, some (.long x2), none, some (.int 1), o5, o6, o7, o8, o9, o10, o11, o12, o13, o14, o15, o16, o17, o18, o19, o20, o21]) d138_623 rfl rfl) ?_
    refine yL.eq (y_iload (pc := 625) (x := 1) d138_625 rfl) ?_
    refine yL.eq (y_if_eq (pc := 627) (t := 664) d138_627 (by decide)) ?_
    refine yL.eq (if_neg cn_Int32_1_eq_0) ?_
    refine yL.eq (y_aload_n (pc := 630) (x := 7) d138_630 rfl) ?_
    refine yL.eq (y_iconst (pc := 631) (v := 1) d138_631 kc_1) ?_
    refine y_calls_j (pc := 632) (n := 2) (n' := 3) (nc' := nc + 3) (ns' := ns + 18) [.ref 7, .int 1] [] false d138_632 q138_181 rfl rfl rfl (Nat.le_of_ble_eq_true rfl) (Nat.le_of_ble_eq_true rfl) rfl (by decide +kernel) (y_rme (c1 := 3) (s1 := 18) mcs_134 mcs_138 hn (by decide)) (fun v5 M4 => ?_)
    refine yL.eq (y_lconst (pc := 635) (v := 0) d138_635 kl_0) ?_
    refine yL.eq (y_lcmp (pc := 636) d138_636) ?_
    refine yL.eq (y_lif_lt (pc := 637) (t := 664) d138_637 (by decide)) ?_
    refine yL.ite (fun h6 => ?_) (fun h6 => ?_)
    ·
      refine yL.eq (y_iconst (pc := 664) (v := 0) d138_664 kc_0) ?_
      exact yL.eq (y_iretz (pc := 665) d138_665 mr_138) (yL.eq yZ_0 yL.rf)
    ·
      refine yL.eq (y_aload_n (pc := 640) (x := 7) d138_640 rfl) ?_
      refine y_calls_j (pc := 641) (n := 1) (n' := 5) (nc' := nc + 403) (ns' := ns + 2418) [.ref 7] [] false d138_641 q138_133 rfl rfl rfl (Nat.le_of_ble_eq_true rfl) (Nat.le_of_ble_eq_true rfl) rfl (by decide +kernel) (y_rme (c1 := 403) (s1 := 2418) mcs_135 mcs_138 hn (by decide)) (fun v8 M7 => ?_)
      refine yL.eq (y_lload_n (pc := 644) (x := x2) d138_644 rfl) ?_
      refine yL.eq (y_lcmp (pc := 645) d138_645) ?_
      refine yL.eq (y_lif_ne (pc := 646) (t := 664) d138_646 (by decide)) ?_
      refine yL.ite (fun h9 => ?_) (fun h9 => ?_)
      ·
        refine yL.eq (y_aload_n (pc := 649) (x := 7) d138_649 rfl) ?_
        refine y_calls_j (pc := 650) (n := 1) (n' := 2) (nc' := nc + 404) (ns' := ns + 2424) [.ref 7] [] false d138_650 q138_205 rfl rfl rfl (Nat.le_of_ble_eq_true rfl) (Nat.le_of_ble_eq_true rfl) rfl (by decide +kernel) (y_rme (c1 := 404) (s1 := 2424) mcs_126 mcs_138 hn (by decide)) (fun v11 M10 => ?_)
        refine yL.eq (y_ldc2_w (pc := 653) (v := (-9000000000000000003)) d138_653 q138_21) ?_
        refine yL.eq (y_lcmp (pc := 656) d138_656) ?_
        refine yL.eq (y_lif_ne (pc := 657) (t := 664) d138_657 (by decide)) ?_
        refine yL.ite (fun h12 => ?_) (fun h12 => ?_)
        ·
          refine yL.eq (y_iconst (pc := 660) (v := 1) d138_660 kc_1) ?_
          refine yL.eq (y_goto (pc := 661) (t := 665) d138_661 (by decide)) ?_
          exact yL.eq (y_iretz (pc := 665) d138_665 mr_138) (yL.eq yZ_1 yL.rf)
        ·
          refine yL.eq (y_iconst (pc := 664) (v := 0) d138_664 kc_0) ?_
          exact yL.eq (y_iretz (pc := 665) d138_665 mr_138) (yL.eq yZ_0 yL.rf)
      ·
        refine yL.eq (y_iconst (pc := 664) (v := 0) d138_664 kc_0) ?_
        exact yL.eq (y_iretz (pc := 665) d138_665 mr_138) (yL.eq yZ_0 yL.rf)
set_option maxRecDepth 20000 in
set_option maxHeartbeats 4000000 in
theorem e138_494 {o1 : Option Value} {x2 : Int64} {x4 : Int32} {o5 : Option Value} {o6 : Option Value} {o7 : Option Value} {o8 : Option Value} {o9 : Option Value} {o10 : Option Value} {o11 : Option Value} {o12 : Option Value} {o13 : Option Value} {o14 : Option Value} {o15 : Option Value} {o16 : Option Value} {o17 : Option Value} {o18 : Option Value} {o19 : Option Value} {o20 : Option Value} {o21 : Option Value} {M : yM} {nc ns : Nat} (hn : nc + 1600 ≤ 5000 ∧ ns + 9600 ≤ 30000) : yL (if x4 = 0 then yX 138 515 [some (.ref 7), o1, some (.long x2), none, some (.int 0), o5, o6, o7, o8, o9, o10, o11, o12, o13, o14, o15, o16, o17, o18, o19, o20, o21] [] M nc ns else yCj false (yX 135 0 [some (.ref 7), none, none, none, none] [] M 0 0) fun v3 M2 => if v3 = x2 then yX 138 515 [some (.ref 7), o1, some (.long x2), none, some (.int 1), o5, o6, o7, o8, o9, o10, o11, o12, o13, o14, o15, o16, o17, o18, o19, o20, o21] [] M2 (nc + 400) (ns + 2400) else yX 138 515 [some (.ref 7), o1, some (.long x2), none, some (.int 0), o5, o6, o7, o8, o9, o10, o11, o12, o13, o14, o15, o16, o17, o18, o19, o20, o21] [] M2 (nc + 400) (ns + 2400)) (yX 138 494 [some (.ref 7), o1, some (.long x2), none, some (.int x4), o5, o6, o7, o8, o9, o10, o11, o12, o13, o14, o15, o16, o17, o18, o19, o20, o21] [] M nc ns) := by
  refine yL.eq (y_iload (pc := 494) (x := x4) d138_494 rfl) ?_
  refine yL.eq (y_if_eq (pc := 496) (t := 512) d138_496 (by decide)) ?_
  refine yL.ite (fun h1 => ?_) (fun h1 => ?_)
  ·
    refine yL.eq (y_iconst (pc := 512) (v := 0) d138_512 kc_0) ?_
    refine yL.eq (y_istore (pc := 513) (ls' := [some (.ref 7), o1, some (.long x2), none, some (.int 0), o5, o6, o7, o8, o9, o10, o11, o12, o13, o14, o15, o16, o17, o18, o19, o20, o21]) d138_513 rfl rfl) ?_
    exact yL.rf
  ·
    refine yL.eq (y_aload_n (pc := 499) (x := 7) d138_499 rfl) ?_
    refine y_calls_j (pc := 500) (n := 1) (n' := 5) (nc' := nc + 400) (ns' := ns + 2400) [.ref 7] [] false d138_500 q138_133 rfl rfl rfl (Nat.le_of_ble_eq_true rfl) (Nat.le_of_ble_eq_true rfl) rfl (by decide +kernel) (y_rmc mcs_135 mcs_138 hn (by decide)) (fun v3 M2 => ?_)
    refine yL.eq (y_lload_n (pc := 503) (x := x2) d138_503 rfl) ?_
    refine yL.eq (y_lcmp (pc := 504) d138_504) ?_
    refine yL.eq (y_lif_ne (pc := 505) (t := 512) d138_505 (by decide)) ?_
    refine yL.ite (fun h4 => ?_) (fun h4 => ?_)
    ·
      refine yL.eq (y_iconst (pc := 508) (v := 1) d138_508 kc_1) ?_
      refine yL.eq (y_goto (pc := 509) (t := 513) d138_509 (by decide)) ?_
      refine yL.eq (y_istore (pc := 513) (ls' := [some (.ref 7), o1, some (.long x2), none, some (.int 1), o5, o6, o7, o8, o9, o10, o11, o12, o13, o14, o15, o16, o17, o18, o19, o20, o21]) d138_513 rfl rfl) ?_
      exact yL.rf
    ·
      refine yL.eq (y_iconst (pc := 512) (v := 0) d138_512 kc_0) ?_
      refine yL.eq (y_istore (pc := 513) (ls' := [some (.ref 7), o1, some (.long x2), none, some (.int 0), o5, o6, o7, o8, o9, o10, o11, o12, o13, o14, o15, o16, o17, o18, o19, o20, o21]) d138_513 rfl rfl) ?_
      exact yL.rf
set_option maxRecDepth 20000 in
set_option maxHeartbeats 4000000 in
theorem e138_487 {o1 : Option Value} {x2 : Int64} {o4 : Option Value} {o5 : Option Value} {o6 : Option Value} {o7 : Option Value} {o8 : Option Value} {o9 : Option Value} {o10 : Option Value} {o11 : Option Value} {o12 : Option Value} {o13 : Option Value} {o14 : Option Value} {o15 : Option Value} {o16 : Option Value} {o17 : Option Value} {o18 : Option Value} {o19 : Option Value} {o20 : Option Value} {o21 : Option Value} {M : yM} {nc ns : Nat} (hn : nc + 1600 ≤ 5000 ∧ ns + 9600 ≤ 30000) : yL (yX 138 494 [some (.ref 7), o1, some (.long x2), none, some (.int 1), o5, o6, o7, o8, o9, o10, o11, o12, o13, o14, o15, o16, o17, o18, o19, o20, o21] [] M nc ns) (yX 138 487 [some (.ref 7), o1, some (.long x2), none, o4, o5, o6, o7, o8, o9, o10, o11, o12, o13, o14, o15, o16, o17, o18, o19, o20, o21] [] M nc ns) := by
  refine yL.eq (y_iconst (pc := 487) (v := 1) d138_487 kc_1) ?_
  refine yL.eq (y_goto (pc := 488) (t := 492) d138_488 (by decide)) ?_
  refine yL.eq (y_istore (pc := 492) (ls' := [some (.ref 7), o1, some (.long x2), none, some (.int 1), o5, o6, o7, o8, o9, o10, o11, o12, o13, o14, o15, o16, o17, o18, o19, o20, o21]) d138_492 rfl rfl) ?_
  exact yL.rf
