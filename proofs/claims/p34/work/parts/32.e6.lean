set_option maxRecDepth 20000 in
set_option maxHeartbeats 4000000 in
theorem e136  {M : yM} {nc ns : Nat} (hn : nc + 500 ≤ 1500 ∧ ns + 3000 ≤ 9000) : yL (yCj false (yX 135 0 [some (.ref 7), none, none, none, none] [] M 0 0) fun v2 M1 => yCj false (yX 109 0 [some (.ref 7), some (.int 0), none] [] M1 0 0) fun v4 M3 => yCj false (yX 109 0 [some (.ref 7), some (.int 1), none] [] M3 0 0) fun v6 M5 => yCj false (yX 109 0 [some (.ref 7), some (.int (-1)), none] [] M5 0 0) fun v8 M7 => if v8 = (-9000000000000000002) then yX 136 32 [some (.ref 7), some (.long v2), none, some (.int v4.toInt32), some (.int v6.toInt32), none] [] M7 (nc + 403) (ns + 2418) else yX 136 396 [some (.ref 7), some (.long v2), none, some (.int v4.toInt32), some (.int v6.toInt32), none] [] M7 (nc + 403) (ns + 2418)) (yX 136 0 [some (.ref 7), none, none, none, none, none] [] M nc ns) := by
  refine yL.eq (y_aload_n (pc := 0) (x := 7) d136_0 rfl) ?_
  refine y_calls_j (pc := 1) (n := 1) (n' := 5) (nc' := nc + 400) (ns' := ns + 2400) [.ref 7] [] false d136_1 q136_133 rfl rfl rfl (Nat.le_of_ble_eq_true rfl) (Nat.le_of_ble_eq_true rfl) rfl (by decide +kernel) (y_rmc mcs_135 mcs_136 hn (by decide)) (fun v2 M1 => ?_)
  refine yL.eq (y_lstore_n (pc := 4) (ls' := [some (.ref 7), some (.long v2), none, none, none, none]) d136_4 rfl rfl) ?_
  refine yL.eq (y_aload_n (pc := 5) (x := 7) d136_5 rfl) ?_
  refine yL.eq (y_iconst (pc := 6) (v := 0) d136_6 kc_0) ?_
  refine y_calls_j (pc := 7) (n := 2) (n' := 3) (nc' := nc + 401) (ns' := ns + 2406) [.ref 7, .int 0] [] false d136_7 q136_117 rfl rfl rfl (Nat.le_of_ble_eq_true rfl) (Nat.le_of_ble_eq_true rfl) rfl (by decide +kernel) (y_rme (c1 := 401) (s1 := 2406) mcs_109 mcs_136 hn (by decide)) (fun v4 M3 => ?_)
  refine yL.eq (y_l2i (pc := 10) d136_10) ?_
  refine yL.eq (y_istore_n (pc := 11) (ls' := [some (.ref 7), some (.long v2), none, some (.int v4.toInt32), none, none]) d136_11 rfl rfl) ?_
  refine yL.eq (y_aload_n (pc := 12) (x := 7) d136_12 rfl) ?_
  refine yL.eq (y_iconst (pc := 13) (v := 1) d136_13 kc_1) ?_
  refine y_calls_j (pc := 14) (n := 2) (n' := 3) (nc' := nc + 402) (ns' := ns + 2412) [.ref 7, .int 1] [] false d136_14 q136_117 rfl rfl rfl (Nat.le_of_ble_eq_true rfl) (Nat.le_of_ble_eq_true rfl) rfl (by decide +kernel) (y_rme (c1 := 402) (s1 := 2412) mcs_109 mcs_136 hn (by decide)) (fun v6 M5 => ?_)
  refine yL.eq (y_l2i (pc := 17) d136_17) ?_
  refine yL.eq (y_istore (pc := 18) (ls' := [some (.ref 7), some (.long v2), none, some (.int v4.toInt32), some (.int v6.toInt32), none]) d136_18 rfl rfl) ?_
  refine yL.eq (y_aload_n (pc := 20) (x := 7) d136_20 rfl) ?_
  refine yL.eq (y_iconst (pc := 21) (v := (-1)) d136_21 kc_m1) ?_
  refine y_calls_j (pc := 22) (n := 2) (n' := 3) (nc' := nc + 403) (ns' := ns + 2418) [.ref 7, .int (-1)] [] false d136_22 q136_117 rfl rfl rfl (Nat.le_of_ble_eq_true rfl) (Nat.le_of_ble_eq_true rfl) rfl (by decide +kernel) (y_rme (c1 := 403) (s1 := 2418) mcs_109 mcs_136 hn (by decide)) (fun v8 M7 => ?_)
  refine yL.eq (y_ldc2_w (pc := 25) (v := (-9000000000000000002)) d136_25 q136_17) ?_
  refine yL.eq (y_lcmp (pc := 28) d136_28) ?_
  refine yL.eq (y_lif_ne (pc := 29) (t := 396) d136_29 (by decide)) ?_
  refine yL.ite (fun h9 => ?_) (fun h9 => ?_)
  ·
    exact yL.rf
  ·
    exact yL.rf
set_option maxRecDepth 20000 in
set_option maxHeartbeats 4000000 in
theorem e136_32 {x1 : Int64} {x3 : Int32} {x4 : Int32} {o5 : Option Value} {M : yM} {nc ns : Nat} (hn : nc + 500 ≤ 1500 ∧ ns + 3000 ≤ 9000) : yL (yCj false (yX 109 0 [some (.ref 7), some (.int 10), none] [] M 0 0) fun v2 M1 => if v2 = (-9000000000000000002) then yCj false (yX 110 0 [some (.ref 7), some (.int x3), some (.int 7), none] [] M1 0 0) fun v5 M4 => if v5 = (-9000000000000000001) then yCj false (yX 111 0 [some (.ref 7), some (.int x3), some (.int 4), none] [] M4 0 0) fun v8 M7 => if v8 = (-9000000000000000001) then if x3 = 0 then yX 136 116 [some (.ref 7), some (.long x1), none, some (.int x3), some (.int x4), o5] [] M7 (nc + 5) (ns + 30) else yCj false (yX 110 0 [some (.ref 7), some (.int 0), some (.int 7), none] [] M7 0 0) fun v12 M11 => if v12 = (-9000000000000000002) then yX 136 90 [some (.ref 7), some (.long x1), none, some (.int x3), some (.int x4), o5] [] M11 (nc + 7) (ns + 42) else yX 136 396 [some (.ref 7), some (.long x1), none, some (.int x3), some (.int x4), o5] [] M11 (nc + 7) (ns + 42) else yX 136 396 [some (.ref 7), some (.long x1), none, some (.int x3), some (.int x4), o5] [] M7 (nc + 5) (ns + 30) else yX 136 396 [some (.ref 7), some (.long x1), none, some (.int x3), some (.int x4), o5] [] M4 (nc + 3) (ns + 18) else yX 136 396 [some (.ref 7), some (.long x1), none, some (.int x3), some (.int x4), o5] [] M1 (nc + 1) (ns + 6)) (yX 136 32 [some (.ref 7), some (.long x1), none, some (.int x3), some (.int x4), o5] [] M nc ns) := by
  refine yL.eq (y_aload_n (pc := 32) (x := 7) d136_32 rfl) ?_
  refine yL.eq (y_bipush (pc := 33) (v := 10) d136_33 kb_10) ?_
  refine y_calls_j (pc := 35) (n := 2) (n' := 3) (nc' := nc + 1) (ns' := ns + 6) [.ref 7, .int 10] [] false d136_35 q136_117 rfl rfl rfl (Nat.le_of_ble_eq_true rfl) (Nat.le_of_ble_eq_true rfl) rfl (by decide +kernel) (y_rmc mcs_109 mcs_136 hn (by decide)) (fun v2 M1 => ?_)
  refine yL.eq (y_ldc2_w (pc := 38) (v := (-9000000000000000002)) d136_38 q136_17) ?_
  refine yL.eq (y_lcmp (pc := 41) d136_41) ?_
  refine yL.eq (y_lif_ne (pc := 42) (t := 396) d136_42 (by decide)) ?_
  refine yL.ite (fun h3 => ?_) (fun h3 => ?_)
  ·
    refine yL.eq (y_aload_n (pc := 45) (x := 7) d136_45 rfl) ?_
    refine yL.eq (y_iload_n (pc := 46) (x := x3) d136_46 rfl) ?_
    refine yL.eq (y_bipush (pc := 47) (v := 7) d136_47 kb_7) ?_
    refine y_calls_j (pc := 49) (n := 3) (n' := 4) (nc' := nc + 3) (ns' := ns + 18) [.ref 7, .int x3, .int 7] [] false d136_49 q136_128 rfl rfl rfl (Nat.le_of_ble_eq_true rfl) (Nat.le_of_ble_eq_true rfl) rfl (by decide +kernel) (y_rme (c1 := 3) (s1 := 18) mcs_110 mcs_136 hn (by decide)) (fun v5 M4 => ?_)
    refine yL.eq (y_ldc2_w (pc := 52) (v := (-9000000000000000001)) d136_52 q136_36) ?_
    refine yL.eq (y_lcmp (pc := 55) d136_55) ?_
    refine yL.eq (y_lif_ne (pc := 56) (t := 396) d136_56 (by decide)) ?_
    refine yL.ite (fun h6 => ?_) (fun h6 => ?_)
    ·
      refine yL.eq (y_aload_n (pc := 59) (x := 7) d136_59 rfl) ?_
      refine yL.eq (y_iload_n (pc := 60) (x := x3) d136_60 rfl) ?_
      refine yL.eq (y_iconst (pc := 61) (v := 4) d136_61 kc_4) ?_
      refine y_calls_j (pc := 62) (n := 3) (n' := 4) (nc' := nc + 5) (ns' := ns + 30) [.ref 7, .int x3, .int 4] [] false d136_62 q136_137 rfl rfl rfl (Nat.le_of_ble_eq_true rfl) (Nat.le_of_ble_eq_true rfl) rfl (by decide +kernel) (y_rme (c1 := 5) (s1 := 30) mcs_111 mcs_136 hn (by decide)) (fun v8 M7 => ?_)
      refine yL.eq (y_ldc2_w (pc := 65) (v := (-9000000000000000001)) d136_65 q136_36) ?_
      refine yL.eq (y_lcmp (pc := 68) d136_68) ?_
      refine yL.eq (y_lif_ne (pc := 69) (t := 396) d136_69 (by decide)) ?_
      refine yL.ite (fun h9 => ?_) (fun h9 => ?_)
      ·
        refine yL.eq (y_iload_n (pc := 72) (x := x3) d136_72 rfl) ?_
        refine yL.eq (y_if_eq (pc := 73) (t := 116) d136_73 (by decide)) ?_
        refine yL.ite (fun h10 => ?_) (fun h10 => ?_)
        ·
          exact yL.rf
        ·
          refine yL.eq (y_aload_n (pc := 76) (x := 7) d136_76 rfl) ?_
          refine yL.eq (y_iconst (pc := 77) (v := 0) d136_77 kc_0) ?_
          refine yL.eq (y_bipush (pc := 78) (v := 7) d136_78 kb_7) ?_
          refine y_calls_j (pc := 80) (n := 3) (n' := 4) (nc' := nc + 7) (ns' := ns + 42) [.ref 7, .int 0, .int 7] [] false d136_80 q136_128 rfl rfl rfl (Nat.le_of_ble_eq_true rfl) (Nat.le_of_ble_eq_true rfl) rfl (by decide +kernel) (y_rme (c1 := 7) (s1 := 42) mcs_110 mcs_136 hn (by decide)) (fun v12 M11 => ?_)
          refine yL.eq (y_ldc2_w (pc := 83) (v := (-9000000000000000002)) d136_83 q136_17) ?_
          refine yL.eq (y_lcmp (pc := 86) d136_86) ?_
          refine yL.eq (y_lif_ne (pc := 87) (t := 396) d136_87 (by decide)) ?_
          refine yL.ite (fun h13 => ?_) (fun h13 => ?_)
          ·
            exact yL.rf
          ·
            exact yL.rf
      ·
        exact yL.rf
    ·
      exact yL.rf
  ·
    exact yL.rf
set_option maxRecDepth 20000 in
set_option maxHeartbeats 4000000 in
theorem e136_396 {x1 : Int64} {x3 : Int32} {x4 : Int32} {o5 : Option Value} {M : yM} {nc ns : Nat} (hn : nc + 500 ≤ 1500 ∧ ns + 3000 ≤ 9000) : yL (yI 0 M) (yX 136 396 [some (.ref 7), some (.long x1), none, some (.int x3), some (.int x4), o5] [] M nc ns) := by
  refine yL.eq (y_iconst (pc := 396) (v := 0) d136_396 kc_0) ?_
  refine yL.eq (y_istore (pc := 397) (ls' := [some (.ref 7), some (.long x1), none, some (.int x3), some (.int x4), some (.int 0)]) d136_397 rfl rfl) ?_
  refine yL.eq (y_iload (pc := 399) (x := 0) d136_399 rfl) ?_
  refine yL.eq (y_if_eq (pc := 401) (t := 712) d136_401 (by decide)) ?_
  refine yL.eq (if_pos cp_Int32_0_eq_0) ?_
  refine yL.eq (y_iconst (pc := 712) (v := 0) d136_712 kc_0) ?_
  refine yL.eq (y_istore (pc := 713) (ls' := [some (.ref 7), some (.long x1), none, some (.int x3), some (.int x4), some (.int 0)]) d136_713 rfl rfl) ?_
  refine yL.eq (y_iload (pc := 715) (x := 0) d136_715 rfl) ?_
  refine yL.eq (y_if_eq (pc := 717) (t := 733) d136_717 (by decide)) ?_
  refine yL.eq (if_pos cp_Int32_0_eq_0) ?_
  refine yL.eq (y_iconst (pc := 733) (v := 0) d136_733 kc_0) ?_
  exact yL.eq (y_iretz (pc := 734) d136_734 mr_136) (yL.eq yZ_0 yL.rf)
set_option maxRecDepth 20000 in
set_option maxHeartbeats 4000000 in
theorem e136_116 {x1 : Int64} {x3 : Int32} {x4 : Int32} {o5 : Option Value} {M : yM} {nc ns : Nat} (hn : nc + 500 ≤ 1500 ∧ ns + 3000 ≤ 9000) : yL (yCj false (yX 112 0 [some (.ref 7), some (.int x4), some (.int 10), none] [] M 0 0) fun v2 M1 => if v2 = (-9000000000000000001) then if x4 = 0 then yX 136 207 [some (.ref 7), some (.long x1), none, some (.int x3), some (.int x4), o5] [] M1 (nc + 2) (ns + 12) else yCj false (yX 112 0 [some (.ref 7), some (.int 0), some (.int 10), none] [] M1 0 0) fun v6 M5 => if v6 = (-9000000000000000002) then yX 136 150 [some (.ref 7), some (.long x1), none, some (.int x3), some (.int x4), o5] [] M5 (nc + 4) (ns + 24) else yX 136 396 [some (.ref 7), some (.long x1), none, some (.int x3), some (.int x4), o5] [] M5 (nc + 4) (ns + 24) else yX 136 396 [some (.ref 7), some (.long x1), none, some (.int x3), some (.int x4), o5] [] M1 (nc + 2) (ns + 12)) (yX 136 116 [some (.ref 7), some (.long x1), none, some (.int x3), some (.int x4), o5] [] M nc ns) := by
  refine yL.eq (y_aload_n (pc := 116) (x := 7) d136_116 rfl) ?_
  refine yL.eq (y_iload (pc := 117) (x := x4) d136_117 rfl) ?_
  refine yL.eq (y_bipush (pc := 119) (v := 10) d136_119 kb_10) ?_
  refine y_calls_j (pc := 121) (n := 3) (n' := 4) (nc' := nc + 2) (ns' := ns + 12) [.ref 7, .int x4, .int 10] [] false d136_121 q136_131 rfl rfl rfl (Nat.le_of_ble_eq_true rfl) (Nat.le_of_ble_eq_true rfl) rfl (by decide +kernel) (y_rmc mcs_112 mcs_136 hn (by decide)) (fun v2 M1 => ?_)
  refine yL.eq (y_ldc2_w (pc := 124) (v := (-9000000000000000001)) d136_124 q136_36) ?_
  refine yL.eq (y_lcmp (pc := 127) d136_127) ?_
  refine yL.eq (y_lif_ne (pc := 128) (t := 396) d136_128 (by decide)) ?_
  refine yL.ite (fun h3 => ?_) (fun h3 => ?_)
  ·
    refine yL.eq (y_iload (pc := 131) (x := x4) d136_131 rfl) ?_
    refine yL.eq (y_if_eq (pc := 133) (t := 207) d136_133 (by decide)) ?_
    refine yL.ite (fun h4 => ?_) (fun h4 => ?_)
    ·
      exact yL.rf
    ·
      refine yL.eq (y_aload_n (pc := 136) (x := 7) d136_136 rfl) ?_
      refine yL.eq (y_iconst (pc := 137) (v := 0) d136_137 kc_0) ?_
      refine yL.eq (y_bipush (pc := 138) (v := 10) d136_138 kb_10) ?_
      refine y_calls_j (pc := 140) (n := 3) (n' := 4) (nc' := nc + 4) (ns' := ns + 24) [.ref 7, .int 0, .int 10] [] false d136_140 q136_131 rfl rfl rfl (Nat.le_of_ble_eq_true rfl) (Nat.le_of_ble_eq_true rfl) rfl (by decide +kernel) (y_rme (c1 := 4) (s1 := 24) mcs_112 mcs_136 hn (by decide)) (fun v6 M5 => ?_)
      refine yL.eq (y_ldc2_w (pc := 143) (v := (-9000000000000000002)) d136_143 q136_17) ?_
      refine yL.eq (y_lcmp (pc := 146) d136_146) ?_
      refine yL.eq (y_lif_ne (pc := 147) (t := 396) d136_147 (by decide)) ?_
      refine yL.ite (fun h7 => ?_) (fun h7 => ?_)
      ·
        exact yL.rf
      ·
        exact yL.rf
  ·
    exact yL.rf
set_option maxRecDepth 20000 in
set_option maxHeartbeats 4000000 in
theorem e136_90 {x1 : Int64} {x3 : Int32} {x4 : Int32} {o5 : Option Value} {M : yM} {nc ns : Nat} (hn : nc + 500 ≤ 1500 ∧ ns + 3000 ≤ 9000) : yL (yCj false (yX 111 0 [some (.ref 7), some (.int 0), some (.int 4), none] [] M 0 0) fun v2 M1 => if v2 = (-9000000000000000002) then yCj false (yX 118 0 [some (.ref 7), some (.int 0), some (.int 0), none] [] M1 0 0) fun v5 M4 => if v5 = (-9000000000000000002) then yX 136 116 [some (.ref 7), some (.long x1), none, some (.int x3), some (.int x4), o5] [] M4 (nc + 5) (ns + 30) else yX 136 396 [some (.ref 7), some (.long x1), none, some (.int x3), some (.int x4), o5] [] M4 (nc + 5) (ns + 30) else yX 136 396 [some (.ref 7), some (.long x1), none, some (.int x3), some (.int x4), o5] [] M1 (nc + 2) (ns + 12)) (yX 136 90 [some (.ref 7), some (.long x1), none, some (.int x3), some (.int x4), o5] [] M nc ns) := by
  refine yL.eq (y_aload_n (pc := 90) (x := 7) d136_90 rfl) ?_
  refine yL.eq (y_iconst (pc := 91) (v := 0) d136_91 kc_0) ?_
  refine yL.eq (y_iconst (pc := 92) (v := 4) d136_92 kc_4) ?_
  refine y_calls_j (pc := 93) (n := 3) (n' := 4) (nc' := nc + 2) (ns' := ns + 12) [.ref 7, .int 0, .int 4] [] false d136_93 q136_137 rfl rfl rfl (Nat.le_of_ble_eq_true rfl) (Nat.le_of_ble_eq_true rfl) rfl (by decide +kernel) (y_rmc mcs_111 mcs_136 hn (by decide)) (fun v2 M1 => ?_)
  refine yL.eq (y_ldc2_w (pc := 96) (v := (-9000000000000000002)) d136_96 q136_17) ?_
  refine yL.eq (y_lcmp (pc := 99) d136_99) ?_
  refine yL.eq (y_lif_ne (pc := 100) (t := 396) d136_100 (by decide)) ?_
  refine yL.ite (fun h3 => ?_) (fun h3 => ?_)
  ·
    refine yL.eq (y_aload_n (pc := 103) (x := 7) d136_103 rfl) ?_
    refine yL.eq (y_iconst (pc := 104) (v := 0) d136_104 kc_0) ?_
    refine yL.eq (y_iconst (pc := 105) (v := 0) d136_105 kc_0) ?_
    refine y_calls_j (pc := 106) (n := 3) (n' := 4) (nc' := nc + 5) (ns' := ns + 30) [.ref 7, .int 0, .int 0] [] false d136_106 q136_139 rfl rfl rfl (Nat.le_of_ble_eq_true rfl) (Nat.le_of_ble_eq_true rfl) rfl (by decide +kernel) (y_rme (c1 := 5) (s1 := 30) mcs_118 mcs_136 hn (by decide)) (fun v5 M4 => ?_)
    refine yL.eq (y_ldc2_w (pc := 109) (v := (-9000000000000000002)) d136_109 q136_17) ?_
    refine yL.eq (y_lcmp (pc := 112) d136_112) ?_
    refine yL.eq (y_lif_ne (pc := 113) (t := 396) d136_113 (by decide)) ?_
    refine yL.ite (fun h6 => ?_) (fun h6 => ?_)
    ·
      exact yL.rf
    ·
      exact yL.rf
  ·
    exact yL.rf
set_option maxRecDepth 20000 in
set_option maxHeartbeats 4000000 in
theorem e136_207 {x1 : Int64} {x3 : Int32} {x4 : Int32} {o5 : Option Value} {M : yM} {nc ns : Nat} (hn : nc + 500 ≤ 1500 ∧ ns + 3000 ≤ 9000) : yL (yCj false (yX 113 0 [some (.ref 7), some (.int (-1)), none] [] M 0 0) fun v2 M1 => if v2 = (-9000000000000000001) then yCj false (yX 113 0 [some (.ref 7), some (.int x4), none] [] M1 0 0) fun v5 M4 => if v5 = (-9000000000000000001) then yCj false (yX 114 0 [some (.ref 7), some (.int 4), none] [] M4 0 0) fun v8 M7 => if v8 = (-9000000000000000001) then yCj false (yX 115 0 [some (.ref 7), some (.int 5), none] [] M7 0 0) fun v11 M10 => if v11 = (-9000000000000000002) then yX 136 256 [some (.ref 7), some (.long x1), none, some (.int x3), some (.int x4), o5] [] M10 (nc + 4) (ns + 24) else yX 136 396 [some (.ref 7), some (.long x1), none, some (.int x3), some (.int x4), o5] [] M10 (nc + 4) (ns + 24) else yX 136 396 [some (.ref 7), some (.long x1), none, some (.int x3), some (.int x4), o5] [] M7 (nc + 3) (ns + 18) else yX 136 396 [some (.ref 7), some (.long x1), none, some (.int x3), some (.int x4), o5] [] M4 (nc + 2) (ns + 12) else yX 136 396 [some (.ref 7), some (.long x1), none, some (.int x3), some (.int x4), o5] [] M1 (nc + 1) (ns + 6)) (yX 136 207 [some (.ref 7), some (.long x1), none, some (.int x3), some (.int x4), o5] [] M nc ns) := by
  refine yL.eq (y_aload_n (pc := 207) (x := 7) d136_207 rfl) ?_
  refine yL.eq (y_iconst (pc := 208) (v := (-1)) d136_208 kc_m1) ?_
  refine y_calls_j (pc := 209) (n := 2) (n' := 3) (nc' := nc + 1) (ns' := ns + 6) [.ref 7, .int (-1)] [] false d136_209 q136_148 rfl rfl rfl (Nat.le_of_ble_eq_true rfl) (Nat.le_of_ble_eq_true rfl) rfl (by decide +kernel) (y_rmc mcs_113 mcs_136 hn (by decide)) (fun v2 M1 => ?_)
  refine yL.eq (y_ldc2_w (pc := 212) (v := (-9000000000000000001)) d136_212 q136_36) ?_
  refine yL.eq (y_lcmp (pc := 215) d136_215) ?_
  refine yL.eq (y_lif_ne (pc := 216) (t := 396) d136_216 (by decide)) ?_
  refine yL.ite (fun h3 => ?_) (fun h3 => ?_)
  ·
    refine yL.eq (y_aload_n (pc := 219) (x := 7) d136_219 rfl) ?_
    refine yL.eq (y_iload (pc := 220) (x := x4) d136_220 rfl) ?_
    refine y_calls_j (pc := 222) (n := 2) (n' := 3) (nc' := nc + 2) (ns' := ns + 12) [.ref 7, .int x4] [] false d136_222 q136_148 rfl rfl rfl (Nat.le_of_ble_eq_true rfl) (Nat.le_of_ble_eq_true rfl) rfl (by decide +kernel) (y_rme (c1 := 2) (s1 := 12) mcs_113 mcs_136 hn (by decide)) (fun v5 M4 => ?_)
    refine yL.eq (y_ldc2_w (pc := 225) (v := (-9000000000000000001)) d136_225 q136_36) ?_
    refine yL.eq (y_lcmp (pc := 228) d136_228) ?_
    refine yL.eq (y_lif_ne (pc := 229) (t := 396) d136_229 (by decide)) ?_
    refine yL.ite (fun h6 => ?_) (fun h6 => ?_)
    ·
      refine yL.eq (y_aload_n (pc := 232) (x := 7) d136_232 rfl) ?_
      refine yL.eq (y_iconst (pc := 233) (v := 4) d136_233 kc_4) ?_
      refine y_calls_j (pc := 234) (n := 2) (n' := 3) (nc' := nc + 3) (ns' := ns + 18) [.ref 7, .int 4] [] false d136_234 q136_126 rfl rfl rfl (Nat.le_of_ble_eq_true rfl) (Nat.le_of_ble_eq_true rfl) rfl (by decide +kernel) (y_rme (c1 := 3) (s1 := 18) mcs_114 mcs_136 hn (by decide)) (fun v8 M7 => ?_)
      refine yL.eq (y_ldc2_w (pc := 237) (v := (-9000000000000000001)) d136_237 q136_36) ?_
      refine yL.eq (y_lcmp (pc := 240) d136_240) ?_
      refine yL.eq (y_lif_ne (pc := 241) (t := 396) d136_241 (by decide)) ?_
      refine yL.ite (fun h9 => ?_) (fun h9 => ?_)
      ·
        refine yL.eq (y_aload_n (pc := 244) (x := 7) d136_244 rfl) ?_
        refine yL.eq (y_iconst (pc := 245) (v := 5) d136_245 kc_5) ?_
        refine y_calls_j (pc := 246) (n := 2) (n' := 3) (nc' := nc + 4) (ns' := ns + 24) [.ref 7, .int 5] [] false d136_246 q136_122 rfl rfl rfl (Nat.le_of_ble_eq_true rfl) (Nat.le_of_ble_eq_true rfl) rfl (by decide +kernel) (y_rme (c1 := 4) (s1 := 24) mcs_115 mcs_136 hn (by decide)) (fun v11 M10 => ?_)
        refine yL.eq (y_ldc2_w (pc := 249) (v := (-9000000000000000002)) d136_249 q136_17) ?_
        refine yL.eq (y_lcmp (pc := 252) d136_252) ?_
        refine yL.eq (y_lif_ne (pc := 253) (t := 396) d136_253 (by decide)) ?_
        refine yL.ite (fun h12 => ?_) (fun h12 => ?_)
        ·
          exact yL.rf
        ·
          exact yL.rf
      ·
        exact yL.rf
    ·
      exact yL.rf
  ·
    exact yL.rf
set_option maxRecDepth 20000 in
set_option maxHeartbeats 4000000 in
theorem e136_150 {x1 : Int64} {x3 : Int32} {x4 : Int32} {o5 : Option Value} {M : yM} {nc ns : Nat} (hn : nc + 500 ≤ 1500 ∧ ns + 3000 ≤ 9000) : yL (yCj false (yX 121 0 [some (.ref 7), some (.int 0), some (.int 91), none] [] M 0 0) fun v2 M1 => if v2 = (-9000000000000000002) then yCj false (yX 123 0 [some (.ref 7), some (.int 0), some (.int 0), some (.int 1), none] [] M1 0 0) fun v5 M4 => if v5 = (-9000000000000000003) then yCj false (yX 122 0 [some (.ref 7), some (.int 0), some (.int x3), some (.int 1), none] [] M4 0 0) fun v8 M7 => if v8 = (-9000000000000000001) then yCj false (yX 123 0 [some (.ref 7), some (.int 0), some (.int x4), some (.int 0), none] [] M7 0 0) fun v11 M10 => if v11 = (-9000000000000000001) then yX 136 207 [some (.ref 7), some (.long x1), none, some (.int x3), some (.int x4), o5] [] M10 (nc + 12) (ns + 72) else yX 136 396 [some (.ref 7), some (.long x1), none, some (.int x3), some (.int x4), o5] [] M10 (nc + 12) (ns + 72) else yX 136 396 [some (.ref 7), some (.long x1), none, some (.int x3), some (.int x4), o5] [] M7 (nc + 9) (ns + 54) else yX 136 396 [some (.ref 7), some (.long x1), none, some (.int x3), some (.int x4), o5] [] M4 (nc + 6) (ns + 36) else yX 136 396 [some (.ref 7), some (.long x1), none, some (.int x3), some (.int x4), o5] [] M1 (nc + 3) (ns + 18)) (yX 136 150 [some (.ref 7), some (.long x1), none, some (.int x3), some (.int x4), o5] [] M nc ns) := by
  refine yL.eq (y_aload_n (pc := 150) (x := 7) d136_150 rfl) ?_
  refine yL.eq (y_iconst (pc := 151) (v := 0) d136_151 kc_0) ?_
  refine yL.eq (y_bipush (pc := 152) (v := 91) d136_152 kb_91) ?_
  refine y_calls_j (pc := 154) (n := 3) (n' := 4) (nc' := nc + 3) (ns' := ns + 18) [.ref 7, .int 0, .int 91] [] false d136_154 q136_141 rfl rfl rfl (Nat.le_of_ble_eq_true rfl) (Nat.le_of_ble_eq_true rfl) rfl (by decide +kernel) (y_rmc mcs_121 mcs_136 hn (by decide)) (fun v2 M1 => ?_)
  refine yL.eq (y_ldc2_w (pc := 157) (v := (-9000000000000000002)) d136_157 q136_17) ?_
  refine yL.eq (y_lcmp (pc := 160) d136_160) ?_
  refine yL.eq (y_lif_ne (pc := 161) (t := 396) d136_161 (by decide)) ?_
  refine yL.ite (fun h3 => ?_) (fun h3 => ?_)
  ·
    refine yL.eq (y_aload_n (pc := 164) (x := 7) d136_164 rfl) ?_
    refine yL.eq (y_iconst (pc := 165) (v := 0) d136_165 kc_0) ?_
    refine yL.eq (y_iconst (pc := 166) (v := 0) d136_166 kc_0) ?_
    refine yL.eq (y_iconst (pc := 167) (v := 1) d136_167 kc_1) ?_
    refine y_calls_j (pc := 168) (n := 4) (n' := 5) (nc' := nc + 6) (ns' := ns + 36) [.ref 7, .int 0, .int 0, .int 1] [] false d136_168 q136_143 rfl rfl rfl (Nat.le_of_ble_eq_true rfl) (Nat.le_of_ble_eq_true rfl) rfl (by decide +kernel) (y_rme (c1 := 6) (s1 := 36) mcs_123 mcs_136 hn (by decide)) (fun v5 M4 => ?_)
    refine yL.eq (y_ldc2_w (pc := 171) (v := (-9000000000000000003)) d136_171 q136_21) ?_
    refine yL.eq (y_lcmp (pc := 174) d136_174) ?_
    refine yL.eq (y_lif_ne (pc := 175) (t := 396) d136_175 (by decide)) ?_
    refine yL.ite (fun h6 => ?_) (fun h6 => ?_)
    ·
      refine yL.eq (y_aload_n (pc := 178) (x := 7) d136_178 rfl) ?_
      refine yL.eq (y_iconst (pc := 179) (v := 0) d136_179 kc_0) ?_
      refine yL.eq (y_iload_n (pc := 180) (x := x3) d136_180 rfl) ?_
      refine yL.eq (y_iconst (pc := 181) (v := 1) d136_181 kc_1) ?_
      refine y_calls_j (pc := 182) (n := 4) (n' := 5) (nc' := nc + 9) (ns' := ns + 54) [.ref 7, .int 0, .int x3, .int 1] [] false d136_182 q136_146 rfl rfl rfl (Nat.le_of_ble_eq_true rfl) (Nat.le_of_ble_eq_true rfl) rfl (by decide +kernel) (y_rme (c1 := 9) (s1 := 54) mcs_122 mcs_136 hn (by decide)) (fun v8 M7 => ?_)
      refine yL.eq (y_ldc2_w (pc := 185) (v := (-9000000000000000001)) d136_185 q136_36) ?_
      refine yL.eq (y_lcmp (pc := 188) d136_188) ?_
      refine yL.eq (y_lif_ne (pc := 189) (t := 396) d136_189 (by decide)) ?_
      refine yL.ite (fun h9 => ?_) (fun h9 => ?_)
      ·
        refine yL.eq (y_aload_n (pc := 192) (x := 7) d136_192 rfl) ?_
        refine yL.eq (y_iconst (pc := 193) (v := 0) d136_193 kc_0) ?_
        refine yL.eq (y_iload (pc := 194) (x := x4) d136_194 rfl) ?_
        refine yL.eq (y_iconst (pc := 196) (v := 0) d136_196 kc_0) ?_
        refine y_calls_j (pc := 197) (n := 4) (n' := 5) (nc' := nc + 12) (ns' := ns + 72) [.ref 7, .int 0, .int x4, .int 0] [] false d136_197 q136_143 rfl rfl rfl (Nat.le_of_ble_eq_true rfl) (Nat.le_of_ble_eq_true rfl) rfl (by decide +kernel) (y_rme (c1 := 12) (s1 := 72) mcs_123 mcs_136 hn (by decide)) (fun v11 M10 => ?_)
        refine yL.eq (y_ldc2_w (pc := 200) (v := (-9000000000000000001)) d136_200 q136_36) ?_
        refine yL.eq (y_lcmp (pc := 203) d136_203) ?_
        refine yL.eq (y_lif_ne (pc := 204) (t := 396) d136_204 (by decide)) ?_
        refine yL.ite (fun h12 => ?_) (fun h12 => ?_)
        ·
          exact yL.rf
        ·
          exact yL.rf
      ·
        exact yL.rf
    ·
      exact yL.rf
  ·
    exact yL.rf
set_option maxRecDepth 20000 in
set_option maxHeartbeats 4000000 in
theorem e136_256 {x1 : Int64} {x3 : Int32} {x4 : Int32} {o5 : Option Value} {M : yM} {nc ns : Nat} (hn : nc + 500 ≤ 1500 ∧ ns + 3000 ≤ 9000) : yL (yCj false (yX 116 0 [some (.ref 7), some (.int 1501), some (.int 0), none] [] M 0 0) fun v2 M1 => if v2 = (-9000000000000000002) then yCj false (yX 116 0 [some (.ref 7), some (.int 0), some (.int 10), none] [] M1 0 0) fun v5 M4 => if v5 = (-9000000000000000002) then yCj false (yX 117 0 [some (.ref 7), some (.int 0), none] [] M4 0 0) fun v8 M7 => if v8 = (-9000000000000000002) then if x3 < 12 then yX 136 315 [some (.ref 7), some (.long x1), none, some (.int x3), some (.int x4), o5] [] M7 (nc + 5) (ns + 30) else yCj false (yX 117 0 [some (.ref 7), some (.int 1), none] [] M7 0 0) fun v12 M11 => if v12 = (-9000000000000000003) then yX 136 315 [some (.ref 7), some (.long x1), none, some (.int x3), some (.int x4), o5] [] M11 (nc + 8) (ns + 48) else yX 136 396 [some (.ref 7), some (.long x1), none, some (.int x3), some (.int x4), o5] [] M11 (nc + 8) (ns + 48) else yX 136 396 [some (.ref 7), some (.long x1), none, some (.int x3), some (.int x4), o5] [] M7 (nc + 5) (ns + 30) else yX 136 396 [some (.ref 7), some (.long x1), none, some (.int x3), some (.int x4), o5] [] M4 (nc + 2) (ns + 12) else yX 136 396 [some (.ref 7), some (.long x1), none, some (.int x3), some (.int x4), o5] [] M1 (nc + 1) (ns + 6)) (yX 136 256 [some (.ref 7), some (.long x1), none, some (.int x3), some (.int x4), o5] [] M nc ns) := by
  refine yL.eq (y_aload_n (pc := 256) (x := 7) d136_256 rfl) ?_
  refine yL.eq (y_sipush (pc := 257) (v := 1501) d136_257 ks_1501) ?_
  refine yL.eq (y_iconst (pc := 260) (v := 0) d136_260 kc_0) ?_
  refine y_calls_j (pc := 261) (n := 3) (n' := 4) (nc' := nc + 1) (ns' := ns + 6) [.ref 7, .int 1501, .int 0] [] false d136_261 q136_150 rfl rfl rfl (Nat.le_of_ble_eq_true rfl) (Nat.le_of_ble_eq_true rfl) rfl (by decide +kernel) (y_rmc mcs_116 mcs_136 hn (by decide)) (fun v2 M1 => ?_)
  refine yL.eq (y_ldc2_w (pc := 264) (v := (-9000000000000000002)) d136_264 q136_17) ?_
  refine yL.eq (y_lcmp (pc := 267) d136_267) ?_
  refine yL.eq (y_lif_ne (pc := 268) (t := 396) d136_268 (by decide)) ?_
  refine yL.ite (fun h3 => ?_) (fun h3 => ?_)
  ·
    refine yL.eq (y_aload_n (pc := 271) (x := 7) d136_271 rfl) ?_
    refine yL.eq (y_iconst (pc := 272) (v := 0) d136_272 kc_0) ?_
    refine yL.eq (y_bipush (pc := 273) (v := 10) d136_273 kb_10) ?_
    refine y_calls_j (pc := 275) (n := 3) (n' := 4) (nc' := nc + 2) (ns' := ns + 12) [.ref 7, .int 0, .int 10] [] false d136_275 q136_150 rfl rfl rfl (Nat.le_of_ble_eq_true rfl) (Nat.le_of_ble_eq_true rfl) rfl (by decide +kernel) (y_rme (c1 := 2) (s1 := 12) mcs_116 mcs_136 hn (by decide)) (fun v5 M4 => ?_)
    refine yL.eq (y_ldc2_w (pc := 278) (v := (-9000000000000000002)) d136_278 q136_17) ?_
    refine yL.eq (y_lcmp (pc := 281) d136_281) ?_
    refine yL.eq (y_lif_ne (pc := 282) (t := 396) d136_282 (by decide)) ?_
    refine yL.ite (fun h6 => ?_) (fun h6 => ?_)
    ·
      refine yL.eq (y_aload_n (pc := 285) (x := 7) d136_285 rfl) ?_
      refine yL.eq (y_iconst (pc := 286) (v := 0) d136_286 kc_0) ?_
      refine y_calls_j (pc := 287) (n := 2) (n' := 3) (nc' := nc + 5) (ns' := ns + 30) [.ref 7, .int 0] [] false d136_287 q136_152 rfl rfl rfl (Nat.le_of_ble_eq_true rfl) (Nat.le_of_ble_eq_true rfl) rfl (by decide +kernel) (y_rme (c1 := 5) (s1 := 30) mcs_117 mcs_136 hn (by decide)) (fun v8 M7 => ?_)
      refine yL.eq (y_ldc2_w (pc := 290) (v := (-9000000000000000002)) d136_290 q136_17) ?_
      refine yL.eq (y_lcmp (pc := 293) d136_293) ?_
      refine yL.eq (y_lif_ne (pc := 294) (t := 396) d136_294 (by decide)) ?_
      refine yL.ite (fun h9 => ?_) (fun h9 => ?_)
      ·
        refine yL.eq (y_iload_n (pc := 297) (x := x3) d136_297 rfl) ?_
        refine yL.eq (y_bipush (pc := 298) (v := 12) d136_298 kb_12) ?_
        refine yL.eq (y_icmp_lt (pc := 300) (t := 315) d136_300 (by decide)) ?_
        refine yL.ite (fun h10 => ?_) (fun h10 => ?_)
        ·
          exact yL.rf
        ·
          refine yL.eq (y_aload_n (pc := 303) (x := 7) d136_303 rfl) ?_
          refine yL.eq (y_iconst (pc := 304) (v := 1) d136_304 kc_1) ?_
          refine y_calls_j (pc := 305) (n := 2) (n' := 3) (nc' := nc + 8) (ns' := ns + 48) [.ref 7, .int 1] [] false d136_305 q136_152 rfl rfl rfl (Nat.le_of_ble_eq_true rfl) (Nat.le_of_ble_eq_true rfl) rfl (by decide +kernel) (y_rme (c1 := 8) (s1 := 48) mcs_117 mcs_136 hn (by decide)) (fun v12 M11 => ?_)
          refine yL.eq (y_ldc2_w (pc := 308) (v := (-9000000000000000003)) d136_308 q136_21) ?_
          refine yL.eq (y_lcmp (pc := 311) d136_311) ?_
          refine yL.eq (y_lif_ne (pc := 312) (t := 396) d136_312 (by decide)) ?_
          refine yL.ite (fun h13 => ?_) (fun h13 => ?_)
          ·
            exact yL.rf
          ·
            exact yL.rf
      ·
        exact yL.rf
    ·
      exact yL.rf
  ·
    exact yL.rf
set_option maxRecDepth 20000 in
set_option maxHeartbeats 4000000 in
theorem e136_315 {x1 : Int64} {x3 : Int32} {x4 : Int32} {o5 : Option Value} {M : yM} {nc ns : Nat} (hn : nc + 500 ≤ 1500 ∧ ns + 3000 ≤ 9000) : yL (yCj false (yX 119 0 [some (.ref 7), some (.int 25), some (.int 1), none] [] M 0 0) fun v2 M1 => if v2 = (-9000000000000000002) then yCj false (yX 119 0 [some (.ref 7), some (.int 1), some (.int 0), none] [] M1 0 0) fun v5 M4 => if v5 = (-9000000000000000002) then yCj false (yX 120 0 [some (.ref 7), some (.int 0), some (.int 0), some (.int 1), none] [] M4 0 0) fun v8 M7 => if v8 = (-9000000000000000002) then yCj false (yX 120 0 [some (.ref 7), some (.int 1), some (.int (-2)), some (.int 1), none] [] M7 0 0) fun v11 M10 => if v11 = (-9000000000000000002) then yX 136 371 [some (.ref 7), some (.long x1), none, some (.int x3), some (.int x4), o5] [] M10 (nc + 12) (ns + 72) else yX 136 396 [some (.ref 7), some (.long x1), none, some (.int x3), some (.int x4), o5] [] M10 (nc + 12) (ns + 72) else yX 136 396 [some (.ref 7), some (.long x1), none, some (.int x3), some (.int x4), o5] [] M7 (nc + 9) (ns + 54) else yX 136 396 [some (.ref 7), some (.long x1), none, some (.int x3), some (.int x4), o5] [] M4 (nc + 6) (ns + 36) else yX 136 396 [some (.ref 7), some (.long x1), none, some (.int x3), some (.int x4), o5] [] M1 (nc + 3) (ns + 18)) (yX 136 315 [some (.ref 7), some (.long x1), none, some (.int x3), some (.int x4), o5] [] M nc ns) := by
  refine yL.eq (y_aload_n (pc := 315) (x := 7) d136_315 rfl) ?_
  refine yL.eq (y_bipush (pc := 316) (v := 25) d136_316 kb_25) ?_
  refine yL.eq (y_iconst (pc := 318) (v := 1) d136_318 kc_1) ?_
  refine y_calls_j (pc := 319) (n := 3) (n' := 4) (nc' := nc + 3) (ns' := ns + 18) [.ref 7, .int 25, .int 1] [] false d136_319 q136_154 rfl rfl rfl (Nat.le_of_ble_eq_true rfl) (Nat.le_of_ble_eq_true rfl) rfl (by decide +kernel) (y_rmc mcs_119 mcs_136 hn (by decide)) (fun v2 M1 => ?_)
  refine yL.eq (y_ldc2_w (pc := 322) (v := (-9000000000000000002)) d136_322 q136_17) ?_
  refine yL.eq (y_lcmp (pc := 325) d136_325) ?_
  refine yL.eq (y_lif_ne (pc := 326) (t := 396) d136_326 (by decide)) ?_
  refine yL.ite (fun h3 => ?_) (fun h3 => ?_)
  ·
    refine yL.eq (y_aload_n (pc := 329) (x := 7) d136_329 rfl) ?_
    refine yL.eq (y_iconst (pc := 330) (v := 1) d136_330 kc_1) ?_
    refine yL.eq (y_iconst (pc := 331) (v := 0) d136_331 kc_0) ?_
    refine y_calls_j (pc := 332) (n := 3) (n' := 4) (nc' := nc + 6) (ns' := ns + 36) [.ref 7, .int 1, .int 0] [] false d136_332 q136_154 rfl rfl rfl (Nat.le_of_ble_eq_true rfl) (Nat.le_of_ble_eq_true rfl) rfl (by decide +kernel) (y_rme (c1 := 6) (s1 := 36) mcs_119 mcs_136 hn (by decide)) (fun v5 M4 => ?_)
    refine yL.eq (y_ldc2_w (pc := 335) (v := (-9000000000000000002)) d136_335 q136_17) ?_
    refine yL.eq (y_lcmp (pc := 338) d136_338) ?_
    refine yL.eq (y_lif_ne (pc := 339) (t := 396) d136_339 (by decide)) ?_
    refine yL.ite (fun h6 => ?_) (fun h6 => ?_)
    ·
      refine yL.eq (y_aload_n (pc := 342) (x := 7) d136_342 rfl) ?_
      refine yL.eq (y_iconst (pc := 343) (v := 0) d136_343 kc_0) ?_
      refine yL.eq (y_iconst (pc := 344) (v := 0) d136_344 kc_0) ?_
      refine yL.eq (y_iconst (pc := 345) (v := 1) d136_345 kc_1) ?_
      refine y_calls_j (pc := 346) (n := 4) (n' := 5) (nc' := nc + 9) (ns' := ns + 54) [.ref 7, .int 0, .int 0, .int 1] [] false d136_346 q136_156 rfl rfl rfl (Nat.le_of_ble_eq_true rfl) (Nat.le_of_ble_eq_true rfl) rfl (by decide +kernel) (y_rme (c1 := 9) (s1 := 54) mcs_120 mcs_136 hn (by decide)) (fun v8 M7 => ?_)
      refine yL.eq (y_ldc2_w (pc := 349) (v := (-9000000000000000002)) d136_349 q136_17) ?_
      refine yL.eq (y_lcmp (pc := 352) d136_352) ?_
      refine yL.eq (y_lif_ne (pc := 353) (t := 396) d136_353 (by decide)) ?_
      refine yL.ite (fun h9 => ?_) (fun h9 => ?_)
      ·
        refine yL.eq (y_aload_n (pc := 356) (x := 7) d136_356 rfl) ?_
        refine yL.eq (y_iconst (pc := 357) (v := 1) d136_357 kc_1) ?_
        refine yL.eq (y_bipush (pc := 358) (v := (-2)) d136_358 kb_m2) ?_
        refine yL.eq (y_iconst (pc := 360) (v := 1) d136_360 kc_1) ?_
        refine y_calls_j (pc := 361) (n := 4) (n' := 5) (nc' := nc + 12) (ns' := ns + 72) [.ref 7, .int 1, .int (-2), .int 1] [] false d136_361 q136_156 rfl rfl rfl (Nat.le_of_ble_eq_true rfl) (Nat.le_of_ble_eq_true rfl) rfl (by decide +kernel) (y_rme (c1 := 12) (s1 := 72) mcs_120 mcs_136 hn (by decide)) (fun v11 M10 => ?_)
        refine yL.eq (y_ldc2_w (pc := 364) (v := (-9000000000000000002)) d136_364 q136_17) ?_
        refine yL.eq (y_lcmp (pc := 367) d136_367) ?_
        refine yL.eq (y_lif_ne (pc := 368) (t := 396) d136_368 (by decide)) ?_
        refine yL.ite (fun h12 => ?_) (fun h12 => ?_)
        ·
          exact yL.rf
        ·
          exact yL.rf
      ·
        exact yL.rf
    ·
      exact yL.rf
  ·
    exact yL.rf
set_option maxRecDepth 20000 in
set_option maxHeartbeats 4000000 in
theorem e136_371 {x1 : Int64} {x3 : Int32} {x4 : Int32} {o5 : Option Value} {M : yM} {nc ns : Nat} (hn : nc + 500 ≤ 1500 ∧ ns + 3000 ≤ 9000) : yL (if x4 < 14 then yX 136 392 [some (.ref 7), some (.long x1), none, some (.int x3), some (.int x4), o5] [] M nc ns else yCj false (yX 120 0 [some (.ref 7), some (.int 1), some (.int 0), some (.int 1), none] [] M 0 0) fun v3 M2 => if v3 = (-9000000000000000003) then yX 136 392 [some (.ref 7), some (.long x1), none, some (.int x3), some (.int x4), o5] [] M2 (nc + 3) (ns + 18) else yX 136 396 [some (.ref 7), some (.long x1), none, some (.int x3), some (.int x4), o5] [] M2 (nc + 3) (ns + 18)) (yX 136 371 [some (.ref 7), some (.long x1), none, some (.int x3), some (.int x4), o5] [] M nc ns) := by
  refine yL.eq (y_iload (pc := 371) (x := x4) d136_371 rfl) ?_
  refine yL.eq (y_bipush (pc := 373) (v := 14) d136_373 kb_14) ?_
  refine yL.eq (y_icmp_lt (pc := 375) (t := 392) d136_375 (by decide)) ?_
  refine yL.ite (fun h1 => ?_) (fun h1 => ?_)
  ·
    exact yL.rf
  ·
    refine yL.eq (y_aload_n (pc := 378) (x := 7) d136_378 rfl) ?_
    refine yL.eq (y_iconst (pc := 379) (v := 1) d136_379 kc_1) ?_
    refine yL.eq (y_iconst (pc := 380) (v := 0) d136_380 kc_0) ?_
    refine yL.eq (y_iconst (pc := 381) (v := 1) d136_381 kc_1) ?_
    refine y_calls_j (pc := 382) (n := 4) (n' := 5) (nc' := nc + 3) (ns' := ns + 18) [.ref 7, .int 1, .int 0, .int 1] [] false d136_382 q136_156 rfl rfl rfl (Nat.le_of_ble_eq_true rfl) (Nat.le_of_ble_eq_true rfl) rfl (by decide +kernel) (y_rmc mcs_120 mcs_136 hn (by decide)) (fun v3 M2 => ?_)
    refine yL.eq (y_ldc2_w (pc := 385) (v := (-9000000000000000003)) d136_385 q136_21) ?_
    refine yL.eq (y_lcmp (pc := 388) d136_388) ?_
    refine yL.eq (y_lif_ne (pc := 389) (t := 396) d136_389 (by decide)) ?_
    refine yL.ite (fun h4 => ?_) (fun h4 => ?_)
    ·
      exact yL.rf
    ·
      exact yL.rf
set_option maxRecDepth 20000 in
set_option maxHeartbeats 4000000 in
theorem e136_392 {x1 : Int64} {x3 : Int32} {x4 : Int32} {o5 : Option Value} {M : yM} {nc ns : Nat} (hn : nc + 500 ≤ 1500 ∧ ns + 3000 ≤ 9000) : yL (yCj false (yX 118 0 [some (.ref 7), some (.int x3), some (.int 0), none] [] M 0 0) fun v2 M1 => if v2 = (-9000000000000000001) then yCj false (yX 121 0 [some (.ref 7), some (.int x4), some (.int 0), none] [] M1 0 0) fun v5 M4 => if v5 = (-9000000000000000001) then yCj false (yX 122 0 [some (.ref 7), some (.int x4), some (.int 0), some (.int 1), none] [] M4 0 0) fun v8 M7 => if v8 = (-9000000000000000001) then yX 136 446 [some (.ref 7), some (.long x1), none, some (.int x3), some (.int x4), some (.int 1)] [] M7 (nc + 9) (ns + 54) else yI 0 M7 else yI 0 M4 else yI 0 M1) (yX 136 392 [some (.ref 7), some (.long x1), none, some (.int x3), some (.int x4), o5] [] M nc ns) := by
  refine yL.eq (y_iconst (pc := 392) (v := 1) d136_392 kc_1) ?_
  refine yL.eq (y_goto (pc := 393) (t := 397) d136_393 (by decide)) ?_
  refine yL.eq (y_istore (pc := 397) (ls' := [some (.ref 7), some (.long x1), none, some (.int x3), some (.int x4), some (.int 1)]) d136_397 rfl rfl) ?_
  refine yL.eq (y_iload (pc := 399) (x := 1) d136_399 rfl) ?_
  refine yL.eq (y_if_eq (pc := 401) (t := 712) d136_401 (by decide)) ?_
  refine yL.eq (if_neg cn_Int32_1_eq_0) ?_
  refine yL.eq (y_aload_n (pc := 404) (x := 7) d136_404 rfl) ?_
  refine yL.eq (y_iload_n (pc := 405) (x := x3) d136_405 rfl) ?_
  refine yL.eq (y_iconst (pc := 406) (v := 0) d136_406 kc_0) ?_
  refine y_calls_j (pc := 407) (n := 3) (n' := 4) (nc' := nc + 3) (ns' := ns + 18) [.ref 7, .int x3, .int 0] [] false d136_407 q136_139 rfl rfl rfl (Nat.le_of_ble_eq_true rfl) (Nat.le_of_ble_eq_true rfl) rfl (by decide +kernel) (y_rmc mcs_118 mcs_136 hn (by decide)) (fun v2 M1 => ?_)
  refine yL.eq (y_ldc2_w (pc := 410) (v := (-9000000000000000001)) d136_410 q136_36) ?_
  refine yL.eq (y_lcmp (pc := 413) d136_413) ?_
  refine yL.eq (y_lif_ne (pc := 414) (t := 712) d136_414 (by decide)) ?_
  refine yL.ite (fun h3 => ?_) (fun h3 => ?_)
  ·
    refine yL.eq (y_aload_n (pc := 417) (x := 7) d136_417 rfl) ?_
    refine yL.eq (y_iload (pc := 418) (x := x4) d136_418 rfl) ?_
    refine yL.eq (y_iconst (pc := 420) (v := 0) d136_420 kc_0) ?_
    refine y_calls_j (pc := 421) (n := 3) (n' := 4) (nc' := nc + 6) (ns' := ns + 36) [.ref 7, .int x4, .int 0] [] false d136_421 q136_141 rfl rfl rfl (Nat.le_of_ble_eq_true rfl) (Nat.le_of_ble_eq_true rfl) rfl (by decide +kernel) (y_rme (c1 := 6) (s1 := 36) mcs_121 mcs_136 hn (by decide)) (fun v5 M4 => ?_)
    refine yL.eq (y_ldc2_w (pc := 424) (v := (-9000000000000000001)) d136_424 q136_36) ?_
    refine yL.eq (y_lcmp (pc := 427) d136_427) ?_
    refine yL.eq (y_lif_ne (pc := 428) (t := 712) d136_428 (by decide)) ?_
    refine yL.ite (fun h6 => ?_) (fun h6 => ?_)
    ·
      refine yL.eq (y_aload_n (pc := 431) (x := 7) d136_431 rfl) ?_
      refine yL.eq (y_iload (pc := 432) (x := x4) d136_432 rfl) ?_
      refine yL.eq (y_iconst (pc := 434) (v := 0) d136_434 kc_0) ?_
      refine yL.eq (y_iconst (pc := 435) (v := 1) d136_435 kc_1) ?_
      refine y_calls_j (pc := 436) (n := 4) (n' := 5) (nc' := nc + 9) (ns' := ns + 54) [.ref 7, .int x4, .int 0, .int 1] [] false d136_436 q136_146 rfl rfl rfl (Nat.le_of_ble_eq_true rfl) (Nat.le_of_ble_eq_true rfl) rfl (by decide +kernel) (y_rme (c1 := 9) (s1 := 54) mcs_122 mcs_136 hn (by decide)) (fun v8 M7 => ?_)
      refine yL.eq (y_ldc2_w (pc := 439) (v := (-9000000000000000001)) d136_439 q136_36) ?_
      refine yL.eq (y_lcmp (pc := 442) d136_442) ?_
      refine yL.eq (y_lif_ne (pc := 443) (t := 712) d136_443 (by decide)) ?_
      refine yL.ite (fun h9 => ?_) (fun h9 => ?_)
      ·
        exact yL.rf
      ·
        refine yL.eq (y_iconst (pc := 712) (v := 0) d136_712 kc_0) ?_
        refine yL.eq (y_istore (pc := 713) (ls' := [some (.ref 7), some (.long x1), none, some (.int x3), some (.int x4), some (.int 0)]) d136_713 rfl rfl) ?_
        refine yL.eq (y_iload (pc := 715) (x := 0) d136_715 rfl) ?_
        refine yL.eq (y_if_eq (pc := 717) (t := 733) d136_717 (by decide)) ?_
        refine yL.eq (if_pos cp_Int32_0_eq_0) ?_
        refine yL.eq (y_iconst (pc := 733) (v := 0) d136_733 kc_0) ?_
        exact yL.eq (y_iretz (pc := 734) d136_734 mr_136) (yL.eq yZ_0 yL.rf)
    ·
      refine yL.eq (y_iconst (pc := 712) (v := 0) d136_712 kc_0) ?_
      refine yL.eq (y_istore (pc := 713) (ls' := [some (.ref 7), some (.long x1), none, some (.int x3), some (.int x4), some (.int 0)]) d136_713 rfl rfl) ?_
      refine yL.eq (y_iload (pc := 715) (x := 0) d136_715 rfl) ?_
      refine yL.eq (y_if_eq (pc := 717) (t := 733) d136_717 (by decide)) ?_
      refine yL.eq (if_pos cp_Int32_0_eq_0) ?_
      refine yL.eq (y_iconst (pc := 733) (v := 0) d136_733 kc_0) ?_
      exact yL.eq (y_iretz (pc := 734) d136_734 mr_136) (yL.eq yZ_0 yL.rf)
  ·
    refine yL.eq (y_iconst (pc := 712) (v := 0) d136_712 kc_0) ?_
    refine yL.eq (y_istore (pc := 713) (ls' := [some (.ref 7), some (.long x1), none, some (.int x3), some (.int x4), some (.int 0)]) d136_713 rfl rfl) ?_
    refine yL.eq (y_iload (pc := 715) (x := 0) d136_715 rfl) ?_
    refine yL.eq (y_if_eq (pc := 717) (t := 733) d136_717 (by decide)) ?_
    refine yL.eq (if_pos cp_Int32_0_eq_0) ?_
    refine yL.eq (y_iconst (pc := 733) (v := 0) d136_733 kc_0) ?_
    exact yL.eq (y_iretz (pc := 734) d136_734 mr_136) (yL.eq yZ_0 yL.rf)
set_option maxRecDepth 20000 in
set_option maxHeartbeats 4000000 in
theorem e136_446 {x1 : Int64} {o3 : Option Value} {x4 : Int32} {o5 : Option Value} {M : yM} {nc ns : Nat} (hn : nc + 500 ≤ 1500 ∧ ns + 3000 ≤ 9000) : yL (yCj false (yX 124 0 [some (.ref 7), some (.int (-1)), some (.int 4), none] [] M 0 0) fun v2 M1 => if v2 = (-9000000000000000001) then yCj false (yX 124 0 [some (.ref 7), some (.int 3), some (.int (-1)), none] [] M1 0 0) fun v5 M4 => if v5 = (-9000000000000000002) then yCj false (yX 125 0 [some (.ref 7), some (.int 0), some (.int 0), none] [] M4 0 0) fun v8 M7 => if v8 = (-9000000000000000002) then yCj false (yX 125 0 [some (.ref 7), some (.int 1), some (.int 3), none] [] M7 0 0) fun v11 M10 => if v11 = (-9000000000000000002) then yX 136 498 [some (.ref 7), some (.long x1), none, o3, some (.int x4), o5] [] M10 (nc + 12) (ns + 72) else yI 0 M10 else yI 0 M7 else yI 0 M4 else yI 0 M1) (yX 136 446 [some (.ref 7), some (.long x1), none, o3, some (.int x4), o5] [] M nc ns) := by
  refine yL.eq (y_aload_n (pc := 446) (x := 7) d136_446 rfl) ?_
  refine yL.eq (y_iconst (pc := 447) (v := (-1)) d136_447 kc_m1) ?_
  refine yL.eq (y_iconst (pc := 448) (v := 4) d136_448 kc_4) ?_
  refine y_calls_j (pc := 449) (n := 3) (n' := 4) (nc' := nc + 3) (ns' := ns + 18) [.ref 7, .int (-1), .int 4] [] false d136_449 q136_158 rfl rfl rfl (Nat.le_of_ble_eq_true rfl) (Nat.le_of_ble_eq_true rfl) rfl (by decide +kernel) (y_rmc mcs_124 mcs_136 hn (by decide)) (fun v2 M1 => ?_)
  refine yL.eq (y_ldc2_w (pc := 452) (v := (-9000000000000000001)) d136_452 q136_36) ?_
  refine yL.eq (y_lcmp (pc := 455) d136_455) ?_
  refine yL.eq (y_lif_ne (pc := 456) (t := 712) d136_456 (by decide)) ?_
  refine yL.ite (fun h3 => ?_) (fun h3 => ?_)
  ·
    refine yL.eq (y_aload_n (pc := 459) (x := 7) d136_459 rfl) ?_
    refine yL.eq (y_iconst (pc := 460) (v := 3) d136_460 kc_3) ?_
    refine yL.eq (y_iconst (pc := 461) (v := (-1)) d136_461 kc_m1) ?_
    refine y_calls_j (pc := 462) (n := 3) (n' := 4) (nc' := nc + 6) (ns' := ns + 36) [.ref 7, .int 3, .int (-1)] [] false d136_462 q136_158 rfl rfl rfl (Nat.le_of_ble_eq_true rfl) (Nat.le_of_ble_eq_true rfl) rfl (by decide +kernel) (y_rme (c1 := 6) (s1 := 36) mcs_124 mcs_136 hn (by decide)) (fun v5 M4 => ?_)
    refine yL.eq (y_ldc2_w (pc := 465) (v := (-9000000000000000002)) d136_465 q136_17) ?_
    refine yL.eq (y_lcmp (pc := 468) d136_468) ?_
    refine yL.eq (y_lif_ne (pc := 469) (t := 712) d136_469 (by decide)) ?_
    refine yL.ite (fun h6 => ?_) (fun h6 => ?_)
    ·
      refine yL.eq (y_aload_n (pc := 472) (x := 7) d136_472 rfl) ?_
      refine yL.eq (y_iconst (pc := 473) (v := 0) d136_473 kc_0) ?_
      refine yL.eq (y_iconst (pc := 474) (v := 0) d136_474 kc_0) ?_
      refine y_calls_j (pc := 475) (n := 3) (n' := 4) (nc' := nc + 9) (ns' := ns + 54) [.ref 7, .int 0, .int 0] [] false d136_475 q136_160 rfl rfl rfl (Nat.le_of_ble_eq_true rfl) (Nat.le_of_ble_eq_true rfl) rfl (by decide +kernel) (y_rme (c1 := 9) (s1 := 54) mcs_125 mcs_136 hn (by decide)) (fun v8 M7 => ?_)
      refine yL.eq (y_ldc2_w (pc := 478) (v := (-9000000000000000002)) d136_478 q136_17) ?_
      refine yL.eq (y_lcmp (pc := 481) d136_481) ?_
      refine yL.eq (y_lif_ne (pc := 482) (t := 712) d136_482 (by decide)) ?_
      refine yL.ite (fun h9 => ?_) (fun h9 => ?_)
      ·
        refine yL.eq (y_aload_n (pc := 485) (x := 7) d136_485 rfl) ?_
        refine yL.eq (y_iconst (pc := 486) (v := 1) d136_486 kc_1) ?_
        refine yL.eq (y_iconst (pc := 487) (v := 3) d136_487 kc_3) ?_
        refine y_calls_j (pc := 488) (n := 3) (n' := 4) (nc' := nc + 12) (ns' := ns + 72) [.ref 7, .int 1, .int 3] [] false d136_488 q136_160 rfl rfl rfl (Nat.le_of_ble_eq_true rfl) (Nat.le_of_ble_eq_true rfl) rfl (by decide +kernel) (y_rme (c1 := 12) (s1 := 72) mcs_125 mcs_136 hn (by decide)) (fun v11 M10 => ?_)
        refine yL.eq (y_ldc2_w (pc := 491) (v := (-9000000000000000002)) d136_491 q136_17) ?_
        refine yL.eq (y_lcmp (pc := 494) d136_494) ?_
        refine yL.eq (y_lif_ne (pc := 495) (t := 712) d136_495 (by decide)) ?_
        refine yL.ite (fun h12 => ?_) (fun h12 => ?_)
        ·
          exact yL.rf
        ·
          refine yL.eq (y_iconst (pc := 712) (v := 0) d136_712 kc_0) ?_
          refine yL.eq (y_istore (pc := 713) (ls' := [some (.ref 7), some (.long x1), none, o3, some (.int x4), some (.int 0)]) d136_713 rfl rfl) ?_
          refine yL.eq (y_iload (pc := 715) (x := 0) d136_715 rfl) ?_
          refine yL.eq (y_if_eq (pc := 717) (t := 733) d136_717 (by decide)) ?_
          refine yL.eq (if_pos cp_Int32_0_eq_0) ?_
          refine yL.eq (y_iconst (pc := 733) (v := 0) d136_733 kc_0) ?_
          exact yL.eq (y_iretz (pc := 734) d136_734 mr_136) (yL.eq yZ_0 yL.rf)
      ·
        refine yL.eq (y_iconst (pc := 712) (v := 0) d136_712 kc_0) ?_
        refine yL.eq (y_istore (pc := 713) (ls' := [some (.ref 7), some (.long x1), none, o3, some (.int x4), some (.int 0)]) d136_713 rfl rfl) ?_
        refine yL.eq (y_iload (pc := 715) (x := 0) d136_715 rfl) ?_
        refine yL.eq (y_if_eq (pc := 717) (t := 733) d136_717 (by decide)) ?_
        refine yL.eq (if_pos cp_Int32_0_eq_0) ?_
        refine yL.eq (y_iconst (pc := 733) (v := 0) d136_733 kc_0) ?_
        exact yL.eq (y_iretz (pc := 734) d136_734 mr_136) (yL.eq yZ_0 yL.rf)
    ·
      refine yL.eq (y_iconst (pc := 712) (v := 0) d136_712 kc_0) ?_
      refine yL.eq (y_istore (pc := 713) (ls' := [some (.ref 7), some (.long x1), none, o3, some (.int x4), some (.int 0)]) d136_713 rfl rfl) ?_
      refine yL.eq (y_iload (pc := 715) (x := 0) d136_715 rfl) ?_
      refine yL.eq (y_if_eq (pc := 717) (t := 733) d136_717 (by decide)) ?_
      refine yL.eq (if_pos cp_Int32_0_eq_0) ?_
      refine yL.eq (y_iconst (pc := 733) (v := 0) d136_733 kc_0) ?_
      exact yL.eq (y_iretz (pc := 734) d136_734 mr_136) (yL.eq yZ_0 yL.rf)
  ·
    refine yL.eq (y_iconst (pc := 712) (v := 0) d136_712 kc_0) ?_
    refine yL.eq (y_istore (pc := 713) (ls' := [some (.ref 7), some (.long x1), none, o3, some (.int x4), some (.int 0)]) d136_713 rfl rfl) ?_
    refine yL.eq (y_iload (pc := 715) (x := 0) d136_715 rfl) ?_
    refine yL.eq (y_if_eq (pc := 717) (t := 733) d136_717 (by decide)) ?_
    refine yL.eq (if_pos cp_Int32_0_eq_0) ?_
    refine yL.eq (y_iconst (pc := 733) (v := 0) d136_733 kc_0) ?_
    exact yL.eq (y_iretz (pc := 734) d136_734 mr_136) (yL.eq yZ_0 yL.rf)
set_option maxRecDepth 20000 in
set_option maxHeartbeats 4000000 in
theorem e136_498 {x1 : Int64} {o3 : Option Value} {x4 : Int32} {o5 : Option Value} {M : yM} {nc ns : Nat} (hn : nc + 500 ≤ 1500 ∧ ns + 3000 ≤ 9000) : yL (yCj false (yX 125 0 [some (.ref 7), some (.int 2), some (.int 21), none] [] M 0 0) fun v2 M1 => if v2 = (-9000000000000000002) then yCj false (yX 125 0 [some (.ref 7), some (.int 3), some (.int 0), none] [] M1 0 0) fun v5 M4 => if v5 = (-9000000000000000002) then yCj false (yX 125 0 [some (.ref 7), some (.int 4), some (.int 4), none] [] M4 0 0) fun v8 M7 => if v8 = (-9000000000000000002) then yCj false (yX 125 0 [some (.ref 7), some (.int 5), some (.int 0), none] [] M7 0 0) fun v11 M10 => if v11 = (-9000000000000000002) then yX 136 551 [some (.ref 7), some (.long x1), none, o3, some (.int x4), o5] [] M10 (nc + 12) (ns + 72) else yI 0 M10 else yI 0 M7 else yI 0 M4 else yI 0 M1) (yX 136 498 [some (.ref 7), some (.long x1), none, o3, some (.int x4), o5] [] M nc ns) := by
  refine yL.eq (y_aload_n (pc := 498) (x := 7) d136_498 rfl) ?_
  refine yL.eq (y_iconst (pc := 499) (v := 2) d136_499 kc_2) ?_
  refine yL.eq (y_bipush (pc := 500) (v := 21) d136_500 kb_21) ?_
  refine y_calls_j (pc := 502) (n := 3) (n' := 4) (nc' := nc + 3) (ns' := ns + 18) [.ref 7, .int 2, .int 21] [] false d136_502 q136_160 rfl rfl rfl (Nat.le_of_ble_eq_true rfl) (Nat.le_of_ble_eq_true rfl) rfl (by decide +kernel) (y_rmc mcs_125 mcs_136 hn (by decide)) (fun v2 M1 => ?_)
  refine yL.eq (y_ldc2_w (pc := 505) (v := (-9000000000000000002)) d136_505 q136_17) ?_
  refine yL.eq (y_lcmp (pc := 508) d136_508) ?_
  refine yL.eq (y_lif_ne (pc := 509) (t := 712) d136_509 (by decide)) ?_
  refine yL.ite (fun h3 => ?_) (fun h3 => ?_)
  ·
    refine yL.eq (y_aload_n (pc := 512) (x := 7) d136_512 rfl) ?_
    refine yL.eq (y_iconst (pc := 513) (v := 3) d136_513 kc_3) ?_
    refine yL.eq (y_iconst (pc := 514) (v := 0) d136_514 kc_0) ?_
    refine y_calls_j (pc := 515) (n := 3) (n' := 4) (nc' := nc + 6) (ns' := ns + 36) [.ref 7, .int 3, .int 0] [] false d136_515 q136_160 rfl rfl rfl (Nat.le_of_ble_eq_true rfl) (Nat.le_of_ble_eq_true rfl) rfl (by decide +kernel) (y_rme (c1 := 6) (s1 := 36) mcs_125 mcs_136 hn (by decide)) (fun v5 M4 => ?_)
    refine yL.eq (y_ldc2_w (pc := 518) (v := (-9000000000000000002)) d136_518 q136_17) ?_
    refine yL.eq (y_lcmp (pc := 521) d136_521) ?_
    refine yL.eq (y_lif_ne (pc := 522) (t := 712) d136_522 (by decide)) ?_
    refine yL.ite (fun h6 => ?_) (fun h6 => ?_)
    ·
      refine yL.eq (y_aload_n (pc := 525) (x := 7) d136_525 rfl) ?_
      refine yL.eq (y_iconst (pc := 526) (v := 4) d136_526 kc_4) ?_
      refine yL.eq (y_iconst (pc := 527) (v := 4) d136_527 kc_4) ?_
      refine y_calls_j (pc := 528) (n := 3) (n' := 4) (nc' := nc + 9) (ns' := ns + 54) [.ref 7, .int 4, .int 4] [] false d136_528 q136_160 rfl rfl rfl (Nat.le_of_ble_eq_true rfl) (Nat.le_of_ble_eq_true rfl) rfl (by decide +kernel) (y_rme (c1 := 9) (s1 := 54) mcs_125 mcs_136 hn (by decide)) (fun v8 M7 => ?_)
      refine yL.eq (y_ldc2_w (pc := 531) (v := (-9000000000000000002)) d136_531 q136_17) ?_
      refine yL.eq (y_lcmp (pc := 534) d136_534) ?_
      refine yL.eq (y_lif_ne (pc := 535) (t := 712) d136_535 (by decide)) ?_
      refine yL.ite (fun h9 => ?_) (fun h9 => ?_)
      ·
        refine yL.eq (y_aload_n (pc := 538) (x := 7) d136_538 rfl) ?_
        refine yL.eq (y_iconst (pc := 539) (v := 5) d136_539 kc_5) ?_
        refine yL.eq (y_iconst (pc := 540) (v := 0) d136_540 kc_0) ?_
        refine y_calls_j (pc := 541) (n := 3) (n' := 4) (nc' := nc + 12) (ns' := ns + 72) [.ref 7, .int 5, .int 0] [] false d136_541 q136_160 rfl rfl rfl (Nat.le_of_ble_eq_true rfl) (Nat.le_of_ble_eq_true rfl) rfl (by decide +kernel) (y_rme (c1 := 12) (s1 := 72) mcs_125 mcs_136 hn (by decide)) (fun v11 M10 => ?_)
        refine yL.eq (y_ldc2_w (pc := 544) (v := (-9000000000000000002)) d136_544 q136_17) ?_
        refine yL.eq (y_lcmp (pc := 547) d136_547) ?_
        refine yL.eq (y_lif_ne (pc := 548) (t := 712) d136_548 (by decide)) ?_
        refine yL.ite (fun h12 => ?_) (fun h12 => ?_)
        ·
          exact yL.rf
        ·
          refine yL.eq (y_iconst (pc := 712) (v := 0) d136_712 kc_0) ?_
          refine yL.eq (y_istore (pc := 713) (ls' := [some (.ref 7), some (.long x1), none, o3, some (.int x4), some (.int 0)]) d136_713 rfl rfl) ?_
          refine yL.eq (y_iload (pc := 715) (x := 0) d136_715 rfl) ?_
          refine yL.eq (y_if_eq (pc := 717) (t := 733) d136_717 (by decide)) ?_
          refine yL.eq (if_pos cp_Int32_0_eq_0) ?_
          refine yL.eq (y_iconst (pc := 733) (v := 0) d136_733 kc_0) ?_
          exact yL.eq (y_iretz (pc := 734) d136_734 mr_136) (yL.eq yZ_0 yL.rf)
      ·
        refine yL.eq (y_iconst (pc := 712) (v := 0) d136_712 kc_0) ?_
        refine yL.eq (y_istore (pc := 713) (ls' := [some (.ref 7), some (.long x1), none, o3, some (.int x4), some (.int 0)]) d136_713 rfl rfl) ?_
        refine yL.eq (y_iload (pc := 715) (x := 0) d136_715 rfl) ?_
        refine yL.eq (y_if_eq (pc := 717) (t := 733) d136_717 (by decide)) ?_
        refine yL.eq (if_pos cp_Int32_0_eq_0) ?_
        refine yL.eq (y_iconst (pc := 733) (v := 0) d136_733 kc_0) ?_
        exact yL.eq (y_iretz (pc := 734) d136_734 mr_136) (yL.eq yZ_0 yL.rf)
    ·
      refine yL.eq (y_iconst (pc := 712) (v := 0) d136_712 kc_0) ?_
      refine yL.eq (y_istore (pc := 713) (ls' := [some (.ref 7), some (.long x1), none, o3, some (.int x4), some (.int 0)]) d136_713 rfl rfl) ?_
      refine yL.eq (y_iload (pc := 715) (x := 0) d136_715 rfl) ?_
      refine yL.eq (y_if_eq (pc := 717) (t := 733) d136_717 (by decide)) ?_
      refine yL.eq (if_pos cp_Int32_0_eq_0) ?_
      refine yL.eq (y_iconst (pc := 733) (v := 0) d136_733 kc_0) ?_
      exact yL.eq (y_iretz (pc := 734) d136_734 mr_136) (yL.eq yZ_0 yL.rf)
  ·
    refine yL.eq (y_iconst (pc := 712) (v := 0) d136_712 kc_0) ?_
    refine yL.eq (y_istore (pc := 713) (ls' := [some (.ref 7), some (.long x1), none, o3, some (.int x4), some (.int 0)]) d136_713 rfl rfl) ?_
    refine yL.eq (y_iload (pc := 715) (x := 0) d136_715 rfl) ?_
    refine yL.eq (y_if_eq (pc := 717) (t := 733) d136_717 (by decide)) ?_
    refine yL.eq (if_pos cp_Int32_0_eq_0) ?_
    refine yL.eq (y_iconst (pc := 733) (v := 0) d136_733 kc_0) ?_
    exact yL.eq (y_iretz (pc := 734) d136_734 mr_136) (yL.eq yZ_0 yL.rf)
set_option maxRecDepth 20000 in
set_option maxHeartbeats 4000000 in
theorem e136_551 {x1 : Int64} {o3 : Option Value} {x4 : Int32} {o5 : Option Value} {M : yM} {nc ns : Nat} (hn : nc + 500 ≤ 1500 ∧ ns + 3000 ≤ 9000) : yL (yCj false (yX 127 0 [some (.ref 7), some (.int 4), some (.int 2), none] [] M 0 0) fun v2 M1 => if v2 = (-9000000000000000001) then yCj false (yX 127 0 [some (.ref 7), some (.int 3), some (.int 2), none] [] M1 0 0) fun v5 M4 => if v5 = (-9000000000000000002) then yCj false (yX 128 0 [some (.ref 7), some (.int 0), some (.int 0), none] [] M4 0 0) fun v8 M7 => if v8 = (-9000000000000000002) then yCj false (yX 128 0 [some (.ref 7), some (.int 1), some (.int 2), none] [] M7 0 0) fun v11 M10 => if v11 = (-9000000000000000002) then yX 136 603 [some (.ref 7), some (.long x1), none, o3, some (.int x4), o5] [] M10 (nc + 6) (ns + 36) else yI 0 M10 else yI 0 M7 else yI 0 M4 else yI 0 M1) (yX 136 551 [some (.ref 7), some (.long x1), none, o3, some (.int x4), o5] [] M nc ns) := by
  refine yL.eq (y_aload_n (pc := 551) (x := 7) d136_551 rfl) ?_
  refine yL.eq (y_iconst (pc := 552) (v := 4) d136_552 kc_4) ?_
  refine yL.eq (y_iconst (pc := 553) (v := 2) d136_553 kc_2) ?_
  refine y_calls_j (pc := 554) (n := 3) (n' := 4) (nc' := nc + 2) (ns' := ns + 12) [.ref 7, .int 4, .int 2] [] false d136_554 q136_162 rfl rfl rfl (Nat.le_of_ble_eq_true rfl) (Nat.le_of_ble_eq_true rfl) rfl (by decide +kernel) (y_rmc mcs_127 mcs_136 hn (by decide)) (fun v2 M1 => ?_)
  refine yL.eq (y_ldc2_w (pc := 557) (v := (-9000000000000000001)) d136_557 q136_36) ?_
  refine yL.eq (y_lcmp (pc := 560) d136_560) ?_
  refine yL.eq (y_lif_ne (pc := 561) (t := 712) d136_561 (by decide)) ?_
  refine yL.ite (fun h3 => ?_) (fun h3 => ?_)
  ·
    refine yL.eq (y_aload_n (pc := 564) (x := 7) d136_564 rfl) ?_
    refine yL.eq (y_iconst (pc := 565) (v := 3) d136_565 kc_3) ?_
    refine yL.eq (y_iconst (pc := 566) (v := 2) d136_566 kc_2) ?_
    refine y_calls_j (pc := 567) (n := 3) (n' := 4) (nc' := nc + 4) (ns' := ns + 24) [.ref 7, .int 3, .int 2] [] false d136_567 q136_162 rfl rfl rfl (Nat.le_of_ble_eq_true rfl) (Nat.le_of_ble_eq_true rfl) rfl (by decide +kernel) (y_rme (c1 := 4) (s1 := 24) mcs_127 mcs_136 hn (by decide)) (fun v5 M4 => ?_)
    refine yL.eq (y_ldc2_w (pc := 570) (v := (-9000000000000000002)) d136_570 q136_17) ?_
    refine yL.eq (y_lcmp (pc := 573) d136_573) ?_
    refine yL.eq (y_lif_ne (pc := 574) (t := 712) d136_574 (by decide)) ?_
    refine yL.ite (fun h6 => ?_) (fun h6 => ?_)
    ·
      refine yL.eq (y_aload_n (pc := 577) (x := 7) d136_577 rfl) ?_
      refine yL.eq (y_iconst (pc := 578) (v := 0) d136_578 kc_0) ?_
      refine yL.eq (y_iconst (pc := 579) (v := 0) d136_579 kc_0) ?_
      refine y_calls_j (pc := 580) (n := 3) (n' := 4) (nc' := nc + 5) (ns' := ns + 30) [.ref 7, .int 0, .int 0] [] false d136_580 q136_164 rfl rfl rfl (Nat.le_of_ble_eq_true rfl) (Nat.le_of_ble_eq_true rfl) rfl (by decide +kernel) (y_rme (c1 := 5) (s1 := 30) mcs_128 mcs_136 hn (by decide)) (fun v8 M7 => ?_)
      refine yL.eq (y_ldc2_w (pc := 583) (v := (-9000000000000000002)) d136_583 q136_17) ?_
      refine yL.eq (y_lcmp (pc := 586) d136_586) ?_
      refine yL.eq (y_lif_ne (pc := 587) (t := 712) d136_587 (by decide)) ?_
      refine yL.ite (fun h9 => ?_) (fun h9 => ?_)
      ·
        refine yL.eq (y_aload_n (pc := 590) (x := 7) d136_590 rfl) ?_
        refine yL.eq (y_iconst (pc := 591) (v := 1) d136_591 kc_1) ?_
        refine yL.eq (y_iconst (pc := 592) (v := 2) d136_592 kc_2) ?_
        refine y_calls_j (pc := 593) (n := 3) (n' := 4) (nc' := nc + 6) (ns' := ns + 36) [.ref 7, .int 1, .int 2] [] false d136_593 q136_164 rfl rfl rfl (Nat.le_of_ble_eq_true rfl) (Nat.le_of_ble_eq_true rfl) rfl (by decide +kernel) (y_rme (c1 := 6) (s1 := 36) mcs_128 mcs_136 hn (by decide)) (fun v11 M10 => ?_)
        refine yL.eq (y_ldc2_w (pc := 596) (v := (-9000000000000000002)) d136_596 q136_17) ?_
        refine yL.eq (y_lcmp (pc := 599) d136_599) ?_
        refine yL.eq (y_lif_ne (pc := 600) (t := 712) d136_600 (by decide)) ?_
        refine yL.ite (fun h12 => ?_) (fun h12 => ?_)
        ·
          exact yL.rf
        ·
          refine yL.eq (y_iconst (pc := 712) (v := 0) d136_712 kc_0) ?_
          refine yL.eq (y_istore (pc := 713) (ls' := [some (.ref 7), some (.long x1), none, o3, some (.int x4), some (.int 0)]) d136_713 rfl rfl) ?_
          refine yL.eq (y_iload (pc := 715) (x := 0) d136_715 rfl) ?_
          refine yL.eq (y_if_eq (pc := 717) (t := 733) d136_717 (by decide)) ?_
          refine yL.eq (if_pos cp_Int32_0_eq_0) ?_
          refine yL.eq (y_iconst (pc := 733) (v := 0) d136_733 kc_0) ?_
          exact yL.eq (y_iretz (pc := 734) d136_734 mr_136) (yL.eq yZ_0 yL.rf)
      ·
        refine yL.eq (y_iconst (pc := 712) (v := 0) d136_712 kc_0) ?_
        refine yL.eq (y_istore (pc := 713) (ls' := [some (.ref 7), some (.long x1), none, o3, some (.int x4), some (.int 0)]) d136_713 rfl rfl) ?_
        refine yL.eq (y_iload (pc := 715) (x := 0) d136_715 rfl) ?_
        refine yL.eq (y_if_eq (pc := 717) (t := 733) d136_717 (by decide)) ?_
        refine yL.eq (if_pos cp_Int32_0_eq_0) ?_
        refine yL.eq (y_iconst (pc := 733) (v := 0) d136_733 kc_0) ?_
        exact yL.eq (y_iretz (pc := 734) d136_734 mr_136) (yL.eq yZ_0 yL.rf)
    ·
      refine yL.eq (y_iconst (pc := 712) (v := 0) d136_712 kc_0) ?_
      refine yL.eq (y_istore (pc := 713) (ls' := [some (.ref 7), some (.long x1), none, o3, some (.int x4), some (.int 0)]) d136_713 rfl rfl) ?_
      refine yL.eq (y_iload (pc := 715) (x := 0) d136_715 rfl) ?_
      refine yL.eq (y_if_eq (pc := 717) (t := 733) d136_717 (by decide)) ?_
      refine yL.eq (if_pos cp_Int32_0_eq_0) ?_
      refine yL.eq (y_iconst (pc := 733) (v := 0) d136_733 kc_0) ?_
      exact yL.eq (y_iretz (pc := 734) d136_734 mr_136) (yL.eq yZ_0 yL.rf)
  ·
    refine yL.eq (y_iconst (pc := 712) (v := 0) d136_712 kc_0) ?_
    refine yL.eq (y_istore (pc := 713) (ls' := [some (.ref 7), some (.long x1), none, o3, some (.int x4), some (.int 0)]) d136_713 rfl rfl) ?_
    refine yL.eq (y_iload (pc := 715) (x := 0) d136_715 rfl) ?_
    refine yL.eq (y_if_eq (pc := 717) (t := 733) d136_717 (by decide)) ?_
    refine yL.eq (if_pos cp_Int32_0_eq_0) ?_
    refine yL.eq (y_iconst (pc := 733) (v := 0) d136_733 kc_0) ?_
    exact yL.eq (y_iretz (pc := 734) d136_734 mr_136) (yL.eq yZ_0 yL.rf)
set_option maxRecDepth 20000 in
set_option maxHeartbeats 4000000 in
theorem e136_603 {x1 : Int64} {o3 : Option Value} {x4 : Int32} {o5 : Option Value} {M : yM} {nc ns : Nat} (hn : nc + 500 ≤ 1500 ∧ ns + 3000 ≤ 9000) : yL (yCj false (yX 129 0 [some (.ref 7), some (.int x4), none] [] M 0 0) fun v2 M1 => if v2 = (-9000000000000000001) then yCj false (yX 130 0 [some (.ref 7), some (.int 2), some (.int 1), none] [] M1 0 0) fun v5 M4 => if v5 = (-9000000000000000002) then yCj false (yX 131 0 [some (.ref 7), some (.int 0), some (.long 0), none, none] [] M4 0 0) fun v8 M7 => if v8 = (-9000000000000000002) then yCj false (yX 131 0 [some (.ref 7), some (.int 3), some (.long 1000000000000000000), none, none] [] M7 0 0) fun v11 M10 => if v11 = (-9000000000000000002) then yX 136 657 [some (.ref 7), some (.long x1), none, o3, some (.int x4), o5] [] M10 (nc + 6) (ns + 36) else yI 0 M10 else yI 0 M7 else yI 0 M4 else yI 0 M1) (yX 136 603 [some (.ref 7), some (.long x1), none, o3, some (.int x4), o5] [] M nc ns) := by
  refine yL.eq (y_aload_n (pc := 603) (x := 7) d136_603 rfl) ?_
  refine yL.eq (y_iload (pc := 604) (x := x4) d136_604 rfl) ?_
  refine y_calls_j (pc := 606) (n := 2) (n' := 3) (nc' := nc + 1) (ns' := ns + 6) [.ref 7, .int x4] [] false d136_606 q136_166 rfl rfl rfl (Nat.le_of_ble_eq_true rfl) (Nat.le_of_ble_eq_true rfl) rfl (by decide +kernel) (y_rmc mcs_129 mcs_136 hn (by decide)) (fun v2 M1 => ?_)
  refine yL.eq (y_ldc2_w (pc := 609) (v := (-9000000000000000001)) d136_609 q136_36) ?_
  refine yL.eq (y_lcmp (pc := 612) d136_612) ?_
  refine yL.eq (y_lif_ne (pc := 613) (t := 712) d136_613 (by decide)) ?_
  refine yL.ite (fun h3 => ?_) (fun h3 => ?_)
  ·
    refine yL.eq (y_aload_n (pc := 616) (x := 7) d136_616 rfl) ?_
    refine yL.eq (y_iconst (pc := 617) (v := 2) d136_617 kc_2) ?_
    refine yL.eq (y_iconst (pc := 618) (v := 1) d136_618 kc_1) ?_
    refine y_calls_j (pc := 619) (n := 3) (n' := 4) (nc' := nc + 2) (ns' := ns + 12) [.ref 7, .int 2, .int 1] [] false d136_619 q136_168 rfl rfl rfl (Nat.le_of_ble_eq_true rfl) (Nat.le_of_ble_eq_true rfl) rfl (by decide +kernel) (y_rme (c1 := 2) (s1 := 12) mcs_130 mcs_136 hn (by decide)) (fun v5 M4 => ?_)
    refine yL.eq (y_ldc2_w (pc := 622) (v := (-9000000000000000002)) d136_622 q136_17) ?_
    refine yL.eq (y_lcmp (pc := 625) d136_625) ?_
    refine yL.eq (y_lif_ne (pc := 626) (t := 712) d136_626 (by decide)) ?_
    refine yL.ite (fun h6 => ?_) (fun h6 => ?_)
    ·
      refine yL.eq (y_aload_n (pc := 629) (x := 7) d136_629 rfl) ?_
      refine yL.eq (y_iconst (pc := 630) (v := 0) d136_630 kc_0) ?_
      refine yL.eq (y_lconst (pc := 631) (v := 0) d136_631 kl_0) ?_
      refine y_calls_j (pc := 632) (n := 3) (n' := 5) (nc' := nc + 4) (ns' := ns + 24) [.ref 7, .int 0, .long 0] [] false d136_632 q136_170 rfl rfl rfl (Nat.le_of_ble_eq_true rfl) (Nat.le_of_ble_eq_true rfl) rfl (by decide +kernel) (y_rme (c1 := 4) (s1 := 24) mcs_131 mcs_136 hn (by decide)) (fun v8 M7 => ?_)
      refine yL.eq (y_ldc2_w (pc := 635) (v := (-9000000000000000002)) d136_635 q136_17) ?_
      refine yL.eq (y_lcmp (pc := 638) d136_638) ?_
      refine yL.eq (y_lif_ne (pc := 639) (t := 712) d136_639 (by decide)) ?_
      refine yL.ite (fun h9 => ?_) (fun h9 => ?_)
      ·
        refine yL.eq (y_aload_n (pc := 642) (x := 7) d136_642 rfl) ?_
        refine yL.eq (y_iconst (pc := 643) (v := 3) d136_643 kc_3) ?_
        refine yL.eq (y_ldc2_w (pc := 644) (v := 1000000000000000000) d136_644 q136_174) ?_
        refine y_calls_j (pc := 647) (n := 3) (n' := 5) (nc' := nc + 6) (ns' := ns + 36) [.ref 7, .int 3, .long 1000000000000000000] [] false d136_647 q136_170 rfl rfl rfl (Nat.le_of_ble_eq_true rfl) (Nat.le_of_ble_eq_true rfl) rfl (by decide +kernel) (y_rme (c1 := 6) (s1 := 36) mcs_131 mcs_136 hn (by decide)) (fun v11 M10 => ?_)
        refine yL.eq (y_ldc2_w (pc := 650) (v := (-9000000000000000002)) d136_650 q136_17) ?_
        refine yL.eq (y_lcmp (pc := 653) d136_653) ?_
        refine yL.eq (y_lif_ne (pc := 654) (t := 712) d136_654 (by decide)) ?_
        refine yL.ite (fun h12 => ?_) (fun h12 => ?_)
        ·
          exact yL.rf
        ·
          refine yL.eq (y_iconst (pc := 712) (v := 0) d136_712 kc_0) ?_
          refine yL.eq (y_istore (pc := 713) (ls' := [some (.ref 7), some (.long x1), none, o3, some (.int x4), some (.int 0)]) d136_713 rfl rfl) ?_
          refine yL.eq (y_iload (pc := 715) (x := 0) d136_715 rfl) ?_
          refine yL.eq (y_if_eq (pc := 717) (t := 733) d136_717 (by decide)) ?_
          refine yL.eq (if_pos cp_Int32_0_eq_0) ?_
          refine yL.eq (y_iconst (pc := 733) (v := 0) d136_733 kc_0) ?_
          exact yL.eq (y_iretz (pc := 734) d136_734 mr_136) (yL.eq yZ_0 yL.rf)
      ·
        refine yL.eq (y_iconst (pc := 712) (v := 0) d136_712 kc_0) ?_
        refine yL.eq (y_istore (pc := 713) (ls' := [some (.ref 7), some (.long x1), none, o3, some (.int x4), some (.int 0)]) d136_713 rfl rfl) ?_
        refine yL.eq (y_iload (pc := 715) (x := 0) d136_715 rfl) ?_
        refine yL.eq (y_if_eq (pc := 717) (t := 733) d136_717 (by decide)) ?_
        refine yL.eq (if_pos cp_Int32_0_eq_0) ?_
        refine yL.eq (y_iconst (pc := 733) (v := 0) d136_733 kc_0) ?_
        exact yL.eq (y_iretz (pc := 734) d136_734 mr_136) (yL.eq yZ_0 yL.rf)
    ·
      refine yL.eq (y_iconst (pc := 712) (v := 0) d136_712 kc_0) ?_
      refine yL.eq (y_istore (pc := 713) (ls' := [some (.ref 7), some (.long x1), none, o3, some (.int x4), some (.int 0)]) d136_713 rfl rfl) ?_
      refine yL.eq (y_iload (pc := 715) (x := 0) d136_715 rfl) ?_
      refine yL.eq (y_if_eq (pc := 717) (t := 733) d136_717 (by decide)) ?_
      refine yL.eq (if_pos cp_Int32_0_eq_0) ?_
      refine yL.eq (y_iconst (pc := 733) (v := 0) d136_733 kc_0) ?_
      exact yL.eq (y_iretz (pc := 734) d136_734 mr_136) (yL.eq yZ_0 yL.rf)
  ·
    refine yL.eq (y_iconst (pc := 712) (v := 0) d136_712 kc_0) ?_
    refine yL.eq (y_istore (pc := 713) (ls' := [some (.ref 7), some (.long x1), none, o3, some (.int x4), some (.int 0)]) d136_713 rfl rfl) ?_
    refine yL.eq (y_iload (pc := 715) (x := 0) d136_715 rfl) ?_
    refine yL.eq (y_if_eq (pc := 717) (t := 733) d136_717 (by decide)) ?_
    refine yL.eq (if_pos cp_Int32_0_eq_0) ?_
    refine yL.eq (y_iconst (pc := 733) (v := 0) d136_733 kc_0) ?_
    exact yL.eq (y_iretz (pc := 734) d136_734 mr_136) (yL.eq yZ_0 yL.rf)
set_option maxRecDepth 20000 in
set_option maxHeartbeats 4000000 in
theorem e136_657 {x1 : Int64} {o3 : Option Value} {o4 : Option Value} {o5 : Option Value} {M : yM} {nc ns : Nat} (hn : nc + 500 ≤ 1500 ∧ ns + 3000 ≤ 9000) : yL (yCj false (yX 132 0 [some (.ref 7), some (.long 1), none, some (.int 0), none] [] M 0 0) fun v2 M1 => if v2 = (-9000000000000000002) then yCj false (yX 133 0 [some (.ref 7), some (.int 2), none] [] M1 0 0) fun v5 M4 => if v5 = (-9000000000000000001) then yCj false (yX 134 0 [some (.ref 7), some (.int 2), none] [] M4 0 0) fun v8 M7 => if v8 = (-9000000000000000001) then yCj false (yX 107 0 [some (.ref 7), some (.int 256), none] [] M7 0 0) fun v11 M10 => if v11 = (-9000000000000000002) then yX 136 708 [some (.ref 7), some (.long x1), none, o3, o4, o5] [] M10 (nc + 6) (ns + 36) else yI 0 M10 else yI 0 M7 else yI 0 M4 else yI 0 M1) (yX 136 657 [some (.ref 7), some (.long x1), none, o3, o4, o5] [] M nc ns) := by
  refine yL.eq (y_aload_n (pc := 657) (x := 7) d136_657 rfl) ?_
  refine yL.eq (y_lconst (pc := 658) (v := 1) d136_658 kl_1) ?_
  refine yL.eq (y_iconst (pc := 659) (v := 0) d136_659 kc_0) ?_
  refine y_calls_j (pc := 660) (n := 3) (n' := 5) (nc' := nc + 1) (ns' := ns + 6) [.ref 7, .long 1, .int 0] [] false d136_660 q136_176 rfl rfl rfl (Nat.le_of_ble_eq_true rfl) (Nat.le_of_ble_eq_true rfl) rfl (by decide +kernel) (y_rmc mcs_132 mcs_136 hn (by decide)) (fun v2 M1 => ?_)
  refine yL.eq (y_ldc2_w (pc := 663) (v := (-9000000000000000002)) d136_663 q136_17) ?_
  refine yL.eq (y_lcmp (pc := 666) d136_666) ?_
  refine yL.eq (y_lif_ne (pc := 667) (t := 712) d136_667 (by decide)) ?_
  refine yL.ite (fun h3 => ?_) (fun h3 => ?_)
  ·
    refine yL.eq (y_aload_n (pc := 670) (x := 7) d136_670 rfl) ?_
    refine yL.eq (y_iconst (pc := 671) (v := 2) d136_671 kc_2) ?_
    refine y_calls_j (pc := 672) (n := 2) (n' := 3) (nc' := nc + 2) (ns' := ns + 12) [.ref 7, .int 2] [] false d136_672 q136_179 rfl rfl rfl (Nat.le_of_ble_eq_true rfl) (Nat.le_of_ble_eq_true rfl) rfl (by decide +kernel) (y_rme (c1 := 2) (s1 := 12) mcs_133 mcs_136 hn (by decide)) (fun v5 M4 => ?_)
    refine yL.eq (y_ldc2_w (pc := 675) (v := (-9000000000000000001)) d136_675 q136_36) ?_
    refine yL.eq (y_lcmp (pc := 678) d136_678) ?_
    refine yL.eq (y_lif_ne (pc := 679) (t := 712) d136_679 (by decide)) ?_
    refine yL.ite (fun h6 => ?_) (fun h6 => ?_)
    ·
      refine yL.eq (y_aload_n (pc := 682) (x := 7) d136_682 rfl) ?_
      refine yL.eq (y_iconst (pc := 683) (v := 2) d136_683 kc_2) ?_
      refine y_calls_j (pc := 684) (n := 2) (n' := 3) (nc' := nc + 4) (ns' := ns + 24) [.ref 7, .int 2] [] false d136_684 q136_181 rfl rfl rfl (Nat.le_of_ble_eq_true rfl) (Nat.le_of_ble_eq_true rfl) rfl (by decide +kernel) (y_rme (c1 := 4) (s1 := 24) mcs_134 mcs_136 hn (by decide)) (fun v8 M7 => ?_)
      refine yL.eq (y_ldc2_w (pc := 687) (v := (-9000000000000000001)) d136_687 q136_36) ?_
      refine yL.eq (y_lcmp (pc := 690) d136_690) ?_
      refine yL.eq (y_lif_ne (pc := 691) (t := 712) d136_691 (by decide)) ?_
      refine yL.ite (fun h9 => ?_) (fun h9 => ?_)
      ·
        refine yL.eq (y_aload_n (pc := 694) (x := 7) d136_694 rfl) ?_
        refine yL.eq (y_sipush (pc := 695) (v := 256) d136_695 ks_256) ?_
        refine y_calls_j (pc := 698) (n := 2) (n' := 3) (nc' := nc + 6) (ns' := ns + 36) [.ref 7, .int 256] [] false d136_698 q136_183 rfl rfl rfl (Nat.le_of_ble_eq_true rfl) (Nat.le_of_ble_eq_true rfl) rfl (by decide +kernel) (y_rme (c1 := 6) (s1 := 36) mcs_107 mcs_136 hn (by decide)) (fun v11 M10 => ?_)
        refine yL.eq (y_ldc2_w (pc := 701) (v := (-9000000000000000002)) d136_701 q136_17) ?_
        refine yL.eq (y_lcmp (pc := 704) d136_704) ?_
        refine yL.eq (y_lif_ne (pc := 705) (t := 712) d136_705 (by decide)) ?_
        refine yL.ite (fun h12 => ?_) (fun h12 => ?_)
        ·
          exact yL.rf
        ·
          refine yL.eq (y_iconst (pc := 712) (v := 0) d136_712 kc_0) ?_
          refine yL.eq (y_istore (pc := 713) (ls' := [some (.ref 7), some (.long x1), none, o3, (xUn o4), some (.int 0)]) d136_713 rfl rfl) ?_
          refine yL.eq (y_iload (pc := 715) (x := 0) d136_715 rfl) ?_
          refine yL.eq (y_if_eq (pc := 717) (t := 733) d136_717 (by decide)) ?_
          refine yL.eq (if_pos cp_Int32_0_eq_0) ?_
          refine yL.eq (y_iconst (pc := 733) (v := 0) d136_733 kc_0) ?_
          exact yL.eq (y_iretz (pc := 734) d136_734 mr_136) (yL.eq yZ_0 yL.rf)
      ·
        refine yL.eq (y_iconst (pc := 712) (v := 0) d136_712 kc_0) ?_
        refine yL.eq (y_istore (pc := 713) (ls' := [some (.ref 7), some (.long x1), none, o3, (xUn o4), some (.int 0)]) d136_713 rfl rfl) ?_
        refine yL.eq (y_iload (pc := 715) (x := 0) d136_715 rfl) ?_
        refine yL.eq (y_if_eq (pc := 717) (t := 733) d136_717 (by decide)) ?_
        refine yL.eq (if_pos cp_Int32_0_eq_0) ?_
        refine yL.eq (y_iconst (pc := 733) (v := 0) d136_733 kc_0) ?_
        exact yL.eq (y_iretz (pc := 734) d136_734 mr_136) (yL.eq yZ_0 yL.rf)
    ·
      refine yL.eq (y_iconst (pc := 712) (v := 0) d136_712 kc_0) ?_
      refine yL.eq (y_istore (pc := 713) (ls' := [some (.ref 7), some (.long x1), none, o3, (xUn o4), some (.int 0)]) d136_713 rfl rfl) ?_
      refine yL.eq (y_iload (pc := 715) (x := 0) d136_715 rfl) ?_
      refine yL.eq (y_if_eq (pc := 717) (t := 733) d136_717 (by decide)) ?_
      refine yL.eq (if_pos cp_Int32_0_eq_0) ?_
      refine yL.eq (y_iconst (pc := 733) (v := 0) d136_733 kc_0) ?_
      exact yL.eq (y_iretz (pc := 734) d136_734 mr_136) (yL.eq yZ_0 yL.rf)
  ·
    refine yL.eq (y_iconst (pc := 712) (v := 0) d136_712 kc_0) ?_
    refine yL.eq (y_istore (pc := 713) (ls' := [some (.ref 7), some (.long x1), none, o3, (xUn o4), some (.int 0)]) d136_713 rfl rfl) ?_
    refine yL.eq (y_iload (pc := 715) (x := 0) d136_715 rfl) ?_
    refine yL.eq (y_if_eq (pc := 717) (t := 733) d136_717 (by decide)) ?_
    refine yL.eq (if_pos cp_Int32_0_eq_0) ?_
    refine yL.eq (y_iconst (pc := 733) (v := 0) d136_733 kc_0) ?_
    exact yL.eq (y_iretz (pc := 734) d136_734 mr_136) (yL.eq yZ_0 yL.rf)
set_option maxRecDepth 20000 in
set_option maxHeartbeats 4000000 in
theorem e136_708 {x1 : Int64} {o3 : Option Value} {o4 : Option Value} {o5 : Option Value} {M : yM} {nc ns : Nat} (hn : nc + 500 ≤ 1500 ∧ ns + 3000 ≤ 9000) : yL (yCj false (yX 135 0 [some (.ref 7), none, none, none, none] [] M 0 0) fun v2 M1 => if v2 = x1 then yI 1 M1 else yI 0 M1) (yX 136 708 [some (.ref 7), some (.long x1), none, o3, o4, o5] [] M nc ns) := by
  refine yL.eq (y_iconst (pc := 708) (v := 1) d136_708 kc_1) ?_
  refine yL.eq (y_goto (pc := 709) (t := 713) d136_709 (by decide)) ?_
  refine yL.eq (y_istore (pc := 713) (ls' := [some (.ref 7), some (.long x1), none, o3, (xUn o4), some (.int 1)]) d136_713 rfl rfl) ?_
  refine yL.eq (y_iload (pc := 715) (x := 1) d136_715 rfl) ?_
  refine yL.eq (y_if_eq (pc := 717) (t := 733) d136_717 (by decide)) ?_
  refine yL.eq (if_neg cn_Int32_1_eq_0) ?_
  refine yL.eq (y_aload_n (pc := 720) (x := 7) d136_720 rfl) ?_
  refine y_calls_j (pc := 721) (n := 1) (n' := 5) (nc' := nc + 400) (ns' := ns + 2400) [.ref 7] [] false d136_721 q136_133 rfl rfl rfl (Nat.le_of_ble_eq_true rfl) (Nat.le_of_ble_eq_true rfl) rfl (by decide +kernel) (y_rmc mcs_135 mcs_136 hn (by decide)) (fun v2 M1 => ?_)
  refine yL.eq (y_lload_n (pc := 724) (x := x1) d136_724 rfl) ?_
  refine yL.eq (y_lcmp (pc := 725) d136_725) ?_
  refine yL.eq (y_lif_ne (pc := 726) (t := 733) d136_726 (by decide)) ?_
  refine yL.ite (fun h3 => ?_) (fun h3 => ?_)
  ·
    refine yL.eq (y_iconst (pc := 729) (v := 1) d136_729 kc_1) ?_
    refine yL.eq (y_goto (pc := 730) (t := 734) d136_730 (by decide)) ?_
    exact yL.eq (y_iretz (pc := 734) d136_734 mr_136) (yL.eq yZ_1 yL.rf)
  ·
    refine yL.eq (y_iconst (pc := 733) (v := 0) d136_733 kc_0) ?_
    exact yL.eq (y_iretz (pc := 734) d136_734 mr_136) (yL.eq yZ_0 yL.rf)
