set_option maxRecDepth 20000 in
set_option maxHeartbeats 4000000 in
theorem e106  {M : yM} : yL (yI (M 190 0) M) (yX 106 0 [some (.ref 190)] [] M 0 0) := by
  refine yL.eq (y_aload_n (pc := 0) (x := 190) d106_0 rfl) ?_
  refine yL.eq (y_geti (pc := 1) d106_1 q106_48 s_i_190_0) ?_
  exact yL.eq (y_ireti (pc := 4) d106_4 mr_106) yL.rf
set_option maxRecDepth 20000 in
set_option maxHeartbeats 4000000 in
theorem e107 {a1 : Int32} {M : yM} : yL (yLet (yU M 190 0 a1) fun M1 => if a1 = 0 then yI 0 M1 else yI 1 M1) (yX 107 0 [some (.ref 190), some (.int a1)] [] M 0 0) := by
  refine yL.eq (y_aload_n (pc := 0) (x := 190) d107_0 rfl) ?_
  refine yL.eq (y_iload_n (pc := 1) (x := a1) d107_1 rfl) ?_
  refine y_putiL (pc := 2) d107_2 q107_48 s_i_190_0 rfl (fun M1 => ?_)
  refine yL.eq (y_iload_n (pc := 5) (x := a1) d107_5 rfl) ?_
  refine yL.eq (y_if_eq (pc := 6) (t := 13) d107_6 (by decide)) ?_
  refine yL.ite (fun h2 => ?_) (fun h2 => ?_)
  ·
    refine yL.eq (y_iconst (pc := 13) (v := 0) d107_13 kc_0) ?_
    exact yL.eq (y_iretz (pc := 14) d107_14 mr_107) (yL.eq yZ_0 yL.rf)
  ·
    refine yL.eq (y_iconst (pc := 9) (v := 1) d107_9 kc_1) ?_
    refine yL.eq (y_goto (pc := 10) (t := 14) d107_10 (by decide)) ?_
    exact yL.eq (y_iretz (pc := 14) d107_14 mr_107) (yL.eq yZ_1 yL.rf)
set_option maxRecDepth 20000 in
set_option maxHeartbeats 4000000 in
theorem e108 {a0 : Int64} {a2 : Int64} {a4 : Int64} {M : yM} : yL (if a0 < a2 then yI 0 M else if a0 ≤ a4 then yI 1 M else yI 0 M) (yX 108 0 [some (.long a0), none, some (.long a2), none, some (.long a4), none] [] M 0 0) := by
  refine yL.eq (y_lload_n (pc := 0) (x := a0) d108_0 rfl) ?_
  refine yL.eq (y_lload_n (pc := 1) (x := a2) d108_1 rfl) ?_
  refine yL.eq (y_lcmp (pc := 2) d108_2) ?_
  refine yL.eq (y_lif_lt (pc := 3) (t := 17) d108_3 (by decide)) ?_
  refine yL.ite (fun h1 => ?_) (fun h1 => ?_)
  ·
    refine yL.eq (y_iconst (pc := 17) (v := 0) d108_17 kc_0) ?_
    exact yL.eq (y_iretz (pc := 18) d108_18 mr_108) (yL.eq yZ_0 yL.rf)
  ·
    refine yL.eq (y_lload_n (pc := 6) (x := a0) d108_6 rfl) ?_
    refine yL.eq (y_lload (pc := 7) (x := a4) d108_7 rfl) ?_
    refine yL.eq (y_lcmp (pc := 9) d108_9) ?_
    refine yL.eq (y_lif_gt (pc := 10) (t := 17) d108_10 (by decide)) ?_
    refine yL.ite (fun h2 => ?_) (fun h2 => ?_)
    ·
      refine yL.eq (y_iconst (pc := 13) (v := 1) d108_13 kc_1) ?_
      refine yL.eq (y_goto (pc := 14) (t := 18) d108_14 (by decide)) ?_
      exact yL.eq (y_iretz (pc := 18) d108_18 mr_108) (yL.eq yZ_1 yL.rf)
    ·
      refine yL.eq (y_iconst (pc := 17) (v := 0) d108_17 kc_0) ?_
      exact yL.eq (y_iretz (pc := 18) d108_18 mr_108) (yL.eq yZ_0 yL.rf)
set_option maxRecDepth 20000 in
set_option maxHeartbeats 4000000 in
theorem e109 {a0 : Int32} {M : yM} : yL (yX 109 4 [some (.int a0), some (.long 1), none, some (.int 0)] [] M 0 0) (yX 109 0 [some (.int a0), none, none, none] [] M 0 0) := by
  refine yL.eq (y_lconst (pc := 0) (v := 1) d109_0 kl_1) ?_
  refine yL.eq (y_lstore_n (pc := 1) (ls' := [some (.int a0), some (.long 1), none, none]) d109_1 rfl rfl) ?_
  refine yL.eq (y_iconst (pc := 2) (v := 0) d109_2 kc_0) ?_
  refine yL.eq (y_istore_n (pc := 3) (ls' := [some (.int a0), some (.long 1), none, some (.int 0)]) d109_3 rfl rfl) ?_
  exact yL.rf
set_option maxRecDepth 20000 in
set_option maxHeartbeats 4000000 in
theorem e109_4 {x0 : Int32} {x1 : Int64} {x3 : Int32} {M : yM} : yL (if x3 < x0 then yX 109 4 [some (.int x0), some (.long (x1 * 10)), none, some (.int (x3 + 1))] [] M 0 0 else yJr x1 M) (yX 109 4 [some (.int x0), some (.long x1), none, some (.int x3)] [] M 0 0) := by
  refine yL.eq (y_iload_n (pc := 4) (x := x3) d109_4 rfl) ?_
  refine yL.eq (y_iload_n (pc := 5) (x := x0) d109_5 rfl) ?_
  refine yL.eq (y_icmp_ge (pc := 6) (t := 21) d109_6 (by decide)) ?_
  refine yL.ite (fun h1 => ?_) (fun h1 => ?_)
  ·
    refine yL.eq (y_lload_n (pc := 9) (x := x1) d109_9 rfl) ?_
    refine yL.eq (y_ldc2_w (pc := 10) (v := 10) d109_10 q109_52) ?_
    refine yL.eq (y_lmul (pc := 13) d109_13) ?_
    refine yL.eq (y_lstore_n (pc := 14) (ls' := [some (.int x0), some (.long (x1 * 10)), none, some (.int x3)]) d109_14 rfl rfl) ?_
    refine yL.eq (y_iinc (pc := 15) (v := 1) (x := x3) (ls' := [some (.int x0), some (.long (x1 * 10)), none, some (.int (x3 + 1))]) d109_15 kc_1 rfl (Nat.le_of_ble_eq_true rfl) rfl) ?_
    refine yL.eq (y_goto (pc := 18) (t := 4) d109_18 (by decide)) ?_
    exact yL.rf
  ·
    refine yL.eq (y_lload_n (pc := 21) (x := x1) d109_21 rfl) ?_
    exact yL.eq (y_lret (pc := 22) d109_22 mr_109) yL.rf
set_option maxRecDepth 20000 in
set_option maxHeartbeats 4000000 in
theorem e110 {a0 : Int32} {a1 : Int32} {M : yM} : yL (if ((a0 >>> (a1 &&& 31)) &&& 1) = 1 then yI 1 M else yI 0 M) (yX 110 0 [some (.int a0), some (.int a1)] [] M 0 0) := by
  refine yL.eq (y_iload_n (pc := 0) (x := a0) d110_0 rfl) ?_
  refine yL.eq (y_iload_n (pc := 1) (x := a1) d110_1 rfl) ?_
  refine yL.eq (y_ishr (pc := 2) d110_2) ?_
  refine yL.eq (y_iconst (pc := 3) (v := 1) d110_3 kc_1) ?_
  refine yL.eq (y_iand (pc := 4) d110_4) ?_
  refine yL.eq (y_iconst (pc := 5) (v := 1) d110_5 kc_1) ?_
  refine yL.eq (y_icmp_ne (pc := 6) (t := 13) d110_6 (by decide)) ?_
  refine yL.ite (fun h1 => ?_) (fun h1 => ?_)
  ·
    refine yL.eq (y_iconst (pc := 9) (v := 1) d110_9 kc_1) ?_
    refine yL.eq (y_goto (pc := 10) (t := 14) d110_10 (by decide)) ?_
    exact yL.eq (y_iretz (pc := 14) d110_14 mr_110) (yL.eq yZ_1 yL.rf)
  ·
    refine yL.eq (y_iconst (pc := 13) (v := 0) d110_13 kc_0) ?_
    exact yL.eq (y_iretz (pc := 14) d110_14 mr_110) (yL.eq yZ_0 yL.rf)
set_option maxRecDepth 20000 in
set_option maxHeartbeats 4000000 in
theorem e111 {a0 : Int32} {a1 : Int32} {M : yM} : yL (yX 111 4 [some (.int a0), some (.int a1), some (.int 0), some (.int 0)] [] M 0 0) (yX 111 0 [some (.int a0), some (.int a1), none, none] [] M 0 0) := by
  refine yL.eq (y_iconst (pc := 0) (v := 0) d111_0 kc_0) ?_
  refine yL.eq (y_istore_n (pc := 1) (ls' := [some (.int a0), some (.int a1), some (.int 0), none]) d111_1 rfl rfl) ?_
  refine yL.eq (y_iconst (pc := 2) (v := 0) d111_2 kc_0) ?_
  refine yL.eq (y_istore_n (pc := 3) (ls' := [some (.int a0), some (.int a1), some (.int 0), some (.int 0)]) d111_3 rfl rfl) ?_
  exact yL.rf
set_option maxRecDepth 20000 in
set_option maxHeartbeats 4000000 in
theorem e111_4 {x0 : Int32} {x1 : Int32} {x2 : Int32} {x3 : Int32} {M : yM} : yL (if x3 < x1 then yCi false (yX 110 0 [some (.int x0), some (.int x3)] [] M 0 0) fun v3 M2 => if v3 = 0 then yX 111 4 [some (.int x0), some (.int x1), some (.int (x2 + 0)), some (.int (x3 + 1))] [] M2 0 0 else yX 111 4 [some (.int x0), some (.int x1), some (.int (x2 + 1)), some (.int (x3 + 1))] [] M2 0 0 else yI x2 M) (yX 111 4 [some (.int x0), some (.int x1), some (.int x2), some (.int x3)] [] M 0 0) := by
  refine yL.eq (y_iload_n (pc := 4) (x := x3) d111_4 rfl) ?_
  refine yL.eq (y_iload_n (pc := 5) (x := x1) d111_5 rfl) ?_
  refine yL.eq (y_icmp_ge (pc := 6) (t := 31) d111_6 (by decide)) ?_
  refine yL.ite (fun h1 => ?_) (fun h1 => ?_)
  ·
    refine yL.eq (y_iload_n (pc := 9) (x := x2) d111_9 rfl) ?_
    refine yL.eq (y_iload_n (pc := 10) (x := x0) d111_10 rfl) ?_
    refine yL.eq (y_iload_n (pc := 11) (x := x3) d111_11 rfl) ?_
    refine y_calls_i (pc := 12) (n := 2) (n' := 2) (nc' := 0) (ns' := 0) [.int x0, .int x3] [.int x2] false d111_12 q111_54 rfl rfl rfl (Nat.le_of_ble_eq_true rfl) (Nat.le_of_ble_eq_true rfl) rfl (by decide +kernel) (by decide +kernel) (fun v3 M2 => ?_)
    refine yL.eq (y_if_eq (pc := 15) (t := 22) d111_15 (by decide)) ?_
    refine yL.ite (fun h4 => ?_) (fun h4 => ?_)
    ·
      refine yL.eq (y_iconst (pc := 22) (v := 0) d111_22 kc_0) ?_
      refine yL.eq (y_iadd (pc := 23) d111_23) ?_
      refine yL.eq (y_istore_n (pc := 24) (ls' := [some (.int x0), some (.int x1), some (.int (x2 + 0)), some (.int x3)]) d111_24 rfl rfl) ?_
      refine yL.eq (y_iinc (pc := 25) (v := 1) (x := x3) (ls' := [some (.int x0), some (.int x1), some (.int (x2 + 0)), some (.int (x3 + 1))]) d111_25 kc_1 rfl (Nat.le_of_ble_eq_true rfl) rfl) ?_
      refine yL.eq (y_goto (pc := 28) (t := 4) d111_28 (by decide)) ?_
      exact yL.rf
    ·
      refine yL.eq (y_iconst (pc := 18) (v := 1) d111_18 kc_1) ?_
      refine yL.eq (y_goto (pc := 19) (t := 23) d111_19 (by decide)) ?_
      refine yL.eq (y_iadd (pc := 23) d111_23) ?_
      refine yL.eq (y_istore_n (pc := 24) (ls' := [some (.int x0), some (.int x1), some (.int (x2 + 1)), some (.int x3)]) d111_24 rfl rfl) ?_
      refine yL.eq (y_iinc (pc := 25) (v := 1) (x := x3) (ls' := [some (.int x0), some (.int x1), some (.int (x2 + 1)), some (.int (x3 + 1))]) d111_25 kc_1 rfl (Nat.le_of_ble_eq_true rfl) rfl) ?_
      refine yL.eq (y_goto (pc := 28) (t := 4) d111_28 (by decide)) ?_
      exact yL.rf
  ·
    refine yL.eq (y_iload_n (pc := 31) (x := x2) d111_31 rfl) ?_
    exact yL.eq (y_ireti (pc := 32) d111_32 mr_111) yL.rf
set_option maxRecDepth 20000 in
set_option maxHeartbeats 4000000 in
theorem e112 {r : Nat} (hr : yR r) {M : yM} : yL (yX 112 2 [some (.ref r), some (.int 0)] [] M 0 0) (yX 112 0 [some (.ref r), none] [] M 0 0) := by
  refine yL.eq (y_iconst (pc := 0) (v := 0) d112_0 kc_0) ?_
  refine yL.eq (y_istore_n (pc := 1) (ls' := [some (.ref r), some (.int 0)]) d112_1 rfl rfl) ?_
  exact yL.rf
set_option maxRecDepth 20000 in
set_option maxHeartbeats 4000000 in
theorem e112_2 {r : Nat} {x1 : Int32} (hr : yR r) {M : yM} : yL (if x1 < 95 then if yinB x1 95 = true then yLet (yU M r (yx x1) 0) fun M2 => yX 112 2 [some (.ref r), some (.int (x1 + 1))] [] M2 0 0 else none else if yinB 13 95 = true then yLet (yU M r (yx 13) 4) fun M4 => if yinB 14 95 = true then yLet (yU M4 r (yx 14) 4) fun M6 => yX 112 30 [some (.ref r), some (.int 0)] [] M6 0 0 else none else none) (yX 112 2 [some (.ref r), some (.int x1)] [] M 0 0) := by
  refine yL.eq (y_iload_n (pc := 2) (x := x1) d112_2 rfl) ?_
  refine yL.eq (y_bipush (pc := 3) (v := 95) d112_3 kb_95) ?_
  refine yL.eq (y_icmp_ge (pc := 5) (t := 18) d112_5 (by decide)) ?_
  refine yL.ite (fun h1 => ?_) (fun h1 => ?_)
  ·
    refine yL.eq (y_aload_n (pc := 8) (x := r) d112_8 rfl) ?_
    refine yL.eq (y_iload_n (pc := 9) (x := x1) d112_9 rfl) ?_
    refine yL.eq (y_iconst (pc := 10) (v := 0) d112_10 kc_0) ?_
    refine y_iastL (pc := 11) (n := 95) d112_11 (yR_a hr) (fun h3 M2 => ?_)
    refine yL.eq (y_iinc (pc := 12) (v := 1) (x := x1) (ls' := [some (.ref r), some (.int (x1 + 1))]) d112_12 kc_1 rfl (Nat.le_of_ble_eq_true rfl) rfl) ?_
    refine yL.eq (y_goto (pc := 15) (t := 2) d112_15 (by decide)) ?_
    exact yL.rf
  ·
    refine yL.eq (y_aload_n (pc := 18) (x := r) d112_18 rfl) ?_
    refine yL.eq (y_bipush (pc := 19) (v := 13) d112_19 kb_13) ?_
    refine yL.eq (y_iconst (pc := 21) (v := 4) d112_21 kc_4) ?_
    refine y_iastL (pc := 22) (n := 95) d112_22 (yR_a hr) (fun h5 M4 => ?_)
    refine yL.eq (y_aload_n (pc := 23) (x := r) d112_23 rfl) ?_
    refine yL.eq (y_bipush (pc := 24) (v := 14) d112_24 kb_14) ?_
    refine yL.eq (y_iconst (pc := 26) (v := 4) d112_26 kc_4) ?_
    refine y_iastL (pc := 27) (n := 95) d112_27 (yR_a hr) (fun h7 M6 => ?_)
    refine yL.eq (y_iconst (pc := 28) (v := 0) d112_28 kc_0) ?_
    refine yL.eq (y_istore_n (pc := 29) (ls' := [some (.ref r), some (.int 0)]) d112_29 rfl rfl) ?_
    exact yL.rf
set_option maxRecDepth 20000 in
set_option maxHeartbeats 4000000 in
theorem e112_30 {r : Nat} {x1 : Int32} (hr : yR r) {M : yM} : yL (if x1 < 4 then if yinB (86 + x1) 95 = true then yLet (yU M r (yx (86 + x1)) 1) fun M2 => yX 112 30 [some (.ref r), some (.int (x1 + 1))] [] M2 0 0 else none else if yinB 90 95 = true then yLet (yU M r (yx 90) 15) fun M4 => if yinB 91 95 = true then yLet (yU M4 r (yx 91) 1) fun M6 => if yinB 92 95 = true then yLet (yU M6 r (yx 92) 2) fun M8 => if yinB 93 95 = true then yLet (yU M8 r (yx 93) 1) fun M10 => yV M10 else none else none else none else none) (yX 112 30 [some (.ref r), some (.int x1)] [] M 0 0) := by
  refine yL.eq (y_iload_n (pc := 30) (x := x1) d112_30 rfl) ?_
  refine yL.eq (y_iconst (pc := 31) (v := 4) d112_31 kc_4) ?_
  refine yL.eq (y_icmp_ge (pc := 32) (t := 48) d112_32 (by decide)) ?_
  refine yL.ite (fun h1 => ?_) (fun h1 => ?_)
  ·
    refine yL.eq (y_aload_n (pc := 35) (x := r) d112_35 rfl) ?_
    refine yL.eq (y_bipush (pc := 36) (v := 86) d112_36 kb_86) ?_
    refine yL.eq (y_iload_n (pc := 38) (x := x1) d112_38 rfl) ?_
    refine yL.eq (y_iadd (pc := 39) d112_39) ?_
    refine yL.eq (y_iconst (pc := 40) (v := 1) d112_40 kc_1) ?_
    refine y_iastL (pc := 41) (n := 95) d112_41 (yR_a hr) (fun h3 M2 => ?_)
    refine yL.eq (y_iinc (pc := 42) (v := 1) (x := x1) (ls' := [some (.ref r), some (.int (x1 + 1))]) d112_42 kc_1 rfl (Nat.le_of_ble_eq_true rfl) rfl) ?_
    refine yL.eq (y_goto (pc := 45) (t := 30) d112_45 (by decide)) ?_
    exact yL.rf
  ·
    refine yL.eq (y_aload_n (pc := 48) (x := r) d112_48 rfl) ?_
    refine yL.eq (y_bipush (pc := 49) (v := 90) d112_49 kb_90) ?_
    refine yL.eq (y_bipush (pc := 51) (v := 15) d112_51 kb_15) ?_
    refine y_iastL (pc := 53) (n := 95) d112_53 (yR_a hr) (fun h5 M4 => ?_)
    refine yL.eq (y_aload_n (pc := 54) (x := r) d112_54 rfl) ?_
    refine yL.eq (y_bipush (pc := 55) (v := 91) d112_55 kb_91) ?_
    refine yL.eq (y_iconst (pc := 57) (v := 1) d112_57 kc_1) ?_
    refine y_iastL (pc := 58) (n := 95) d112_58 (yR_a hr) (fun h7 M6 => ?_)
    refine yL.eq (y_aload_n (pc := 59) (x := r) d112_59 rfl) ?_
    refine yL.eq (y_bipush (pc := 60) (v := 92) d112_60 kb_92) ?_
    refine yL.eq (y_iconst (pc := 62) (v := 2) d112_62 kc_2) ?_
    refine y_iastL (pc := 63) (n := 95) d112_63 (yR_a hr) (fun h9 M8 => ?_)
    refine yL.eq (y_aload_n (pc := 64) (x := r) d112_64 rfl) ?_
    refine yL.eq (y_bipush (pc := 65) (v := 93) d112_65 kb_93) ?_
    refine yL.eq (y_iconst (pc := 67) (v := 1) d112_67 kc_1) ?_
    refine y_iastL (pc := 68) (n := 95) d112_68 (yR_a hr) (fun h11 M10 => ?_)
    exact yL.eq (y_ret (pc := 69) d112_69 mr_112) yL.rf
set_option maxRecDepth 20000 in
set_option maxHeartbeats 4000000 in
theorem e113 {r : Nat} {r2 : Nat} (hr : yR r) (hr2 : yR r2) {M : yM} : yL (yX 113 2 [some (.ref r), some (.ref r2), some (.int 0)] [] M 0 0) (yX 113 0 [some (.ref r), some (.ref r2), none] [] M 0 0) := by
  refine yL.eq (y_iconst (pc := 0) (v := 0) d113_0 kc_0) ?_
  refine yL.eq (y_istore_n (pc := 1) (ls' := [some (.ref r), some (.ref r2), some (.int 0)]) d113_1 rfl rfl) ?_
  exact yL.rf
set_option maxRecDepth 20000 in
set_option maxHeartbeats 4000000 in
theorem e113_2 {r : Nat} {r2 : Nat} {x2 : Int32} (hr : yR r) (hr2 : yR r2) {M : yM} : yL (if x2 < 95 then if yinB x2 95 = true then if yinB x2 95 = true then yLet (yU M r2 (yx x2) (M r (yx x2))) fun M3 => yX 113 2 [some (.ref r), some (.ref r2), some (.int (x2 + 1))] [] M3 0 0 else none else none else yV M) (yX 113 2 [some (.ref r), some (.ref r2), some (.int x2)] [] M 0 0) := by
  refine yL.eq (y_iload_n (pc := 2) (x := x2) d113_2 rfl) ?_
  refine yL.eq (y_bipush (pc := 3) (v := 95) d113_3 kb_95) ?_
  refine yL.eq (y_icmp_ge (pc := 5) (t := 20) d113_5 (by decide)) ?_
  refine yL.ite (fun h1 => ?_) (fun h1 => ?_)
  ·
    refine yL.eq (y_aload_n (pc := 8) (x := r2) d113_8 rfl) ?_
    refine yL.eq (y_iload_n (pc := 9) (x := x2) d113_9 rfl) ?_
    refine yL.eq (y_aload_n (pc := 10) (x := r) d113_10 rfl) ?_
    refine yL.eq (y_iload_n (pc := 11) (x := x2) d113_11 rfl) ?_
    refine yL.eq (y_iald (pc := 12) (n := 95) d113_12 (yR_a hr)) ?_
    refine yL.gd (fun h2 => ?_)
    refine y_iastL (pc := 13) (n := 95) d113_13 (yR_a hr2) (fun h4 M3 => ?_)
    refine yL.eq (y_iinc (pc := 14) (v := 1) (x := x2) (ls' := [some (.ref r), some (.ref r2), some (.int (x2 + 1))]) d113_14 kc_1 rfl (Nat.le_of_ble_eq_true rfl) rfl) ?_
    refine yL.eq (y_goto (pc := 17) (t := 2) d113_17 (by decide)) ?_
    exact yL.rf
  ·
    exact yL.eq (y_ret (pc := 20) d113_20 mr_113) yL.rf
set_option maxRecDepth 20000 in
set_option maxHeartbeats 4000000 in
theorem e114 {r : Nat} {a1 : Int32} (hr : yR r) {M : yM} : yL (yCi false (yX 108 0 [some (.long a1.toInt64), none, some (.long 0), none, some (.long (((M r 0) - 1).toInt64)), none] [] M 0 0) fun v2 M1 => yZ v2 M1) (yX 114 0 [some (.ref r), some (.int a1)] [] M 0 0) := by
  refine yL.eq (y_iload_n (pc := 0) (x := a1) d114_0 rfl) ?_
  refine yL.eq (y_i2l (pc := 1) d114_1) ?_
  refine yL.eq (y_lconst (pc := 2) (v := 0) d114_2 kl_0) ?_
  refine yL.eq (y_aload_n (pc := 3) (x := r) d114_3 rfl) ?_
  refine yL.eq (y_iconst (pc := 4) (v := 0) d114_4 kc_0) ?_
  refine yL.eq (y_iald (pc := 5) (n := 95) d114_5 (yR_a hr)) ?_
  refine yL.eq (if_pos in_0_95) ?_
  show yL _ (yX 114 6 [some (.ref r), some (.int a1)] ([.int (M r 0), .long 0, .long a1.toInt64]) M 0 0)
  refine yL.eq (y_iconst (pc := 6) (v := 1) d114_6 kc_1) ?_
  refine yL.eq (y_isub (pc := 7) d114_7) ?_
  refine yL.eq (y_i2l (pc := 8) d114_8) ?_
  refine y_calls_i (pc := 9) (n := 3) (n' := 6) (nc' := 0) (ns' := 0) [.long a1.toInt64, .long 0, .long (((M r 0) - 1).toInt64)] [] false d114_9 q114_58 rfl rfl rfl (Nat.le_of_ble_eq_true rfl) (Nat.le_of_ble_eq_true rfl) rfl (by decide +kernel) (by decide +kernel) (fun v2 M1 => ?_)
  exact yL.eq (y_iretz (pc := 12) d114_12 mr_114) yL.rf
set_option maxRecDepth 20000 in
set_option maxHeartbeats 4000000 in
theorem e115 {r : Nat} {a1 : Int32} (hr : yR r) {M : yM} : yL (yCi false (yX 108 0 [some (.long a1.toInt64), none, some (.long 0), none, some (.long (((M r 15) - 1).toInt64)), none] [] M 0 0) fun v2 M1 => yZ v2 M1) (yX 115 0 [some (.ref r), some (.int a1)] [] M 0 0) := by
  refine yL.eq (y_iload_n (pc := 0) (x := a1) d115_0 rfl) ?_
  refine yL.eq (y_i2l (pc := 1) d115_1) ?_
  refine yL.eq (y_lconst (pc := 2) (v := 0) d115_2 kl_0) ?_
  refine yL.eq (y_aload_n (pc := 3) (x := r) d115_3 rfl) ?_
  refine yL.eq (y_bipush (pc := 4) (v := 15) d115_4 kb_15) ?_
  refine yL.eq (y_iald (pc := 6) (n := 95) d115_6 (yR_a hr)) ?_
  refine yL.eq (if_pos in_15_95) ?_
  show yL _ (yX 115 7 [some (.ref r), some (.int a1)] ([.int (M r 15), .long 0, .long a1.toInt64]) M 0 0)
  refine yL.eq (y_iconst (pc := 7) (v := 1) d115_7 kc_1) ?_
  refine yL.eq (y_isub (pc := 8) d115_8) ?_
  refine yL.eq (y_i2l (pc := 9) d115_9) ?_
  refine y_calls_i (pc := 10) (n := 3) (n' := 6) (nc' := 0) (ns' := 0) [.long a1.toInt64, .long 0, .long (((M r 15) - 1).toInt64)] [] false d115_10 q115_58 rfl rfl rfl (Nat.le_of_ble_eq_true rfl) (Nat.le_of_ble_eq_true rfl) rfl (by decide +kernel) (by decide +kernel) (fun v2 M1 => ?_)
  exact yL.eq (y_iretz (pc := 13) d115_13 mr_115) yL.rf
set_option maxRecDepth 20000 in
set_option maxHeartbeats 4000000 in
theorem e116 {a0 : Int32} {M : yM} : yL (yCi false (yX 108 0 [some (.long a0.toInt64), none, some (.long 0), none, some (.long 3), none] [] M 0 0) fun v2 M1 => yZ v2 M1) (yX 116 0 [some (.int a0)] [] M 0 0) := by
  refine yL.eq (y_iload_n (pc := 0) (x := a0) d116_0 rfl) ?_
  refine yL.eq (y_i2l (pc := 1) d116_1) ?_
  refine yL.eq (y_lconst (pc := 2) (v := 0) d116_2 kl_0) ?_
  refine yL.eq (y_ldc2_w (pc := 3) (v := 3) d116_3 q116_62) ?_
  refine y_calls_i (pc := 6) (n := 3) (n' := 6) (nc' := 0) (ns' := 0) [.long a0.toInt64, .long 0, .long 3] [] false d116_6 q116_58 rfl rfl rfl (Nat.le_of_ble_eq_true rfl) (Nat.le_of_ble_eq_true rfl) rfl (by decide +kernel) (by decide +kernel) (fun v2 M1 => ?_)
  exact yL.eq (y_iretz (pc := 9) d116_9 mr_116) yL.rf
set_option maxRecDepth 20000 in
set_option maxHeartbeats 4000000 in
theorem e117 {a0 : Int32} {M : yM} : yL (yCi false (yX 108 0 [some (.long a0.toInt64), none, some (.long 1), none, some (.long 50000), none] [] M 0 0) fun v2 M1 => yZ v2 M1) (yX 117 0 [some (.int a0)] [] M 0 0) := by
  refine yL.eq (y_iload_n (pc := 0) (x := a0) d117_0 rfl) ?_
  refine yL.eq (y_i2l (pc := 1) d117_1) ?_
  refine yL.eq (y_lconst (pc := 2) (v := 1) d117_2 kl_1) ?_
  refine yL.eq (y_ldc2_w (pc := 3) (v := 50000) d117_3 q117_64) ?_
  refine y_calls_i (pc := 6) (n := 3) (n' := 6) (nc' := 0) (ns' := 0) [.long a0.toInt64, .long 1, .long 50000] [] false d117_6 q117_58 rfl rfl rfl (Nat.le_of_ble_eq_true rfl) (Nat.le_of_ble_eq_true rfl) rfl (by decide +kernel) (by decide +kernel) (fun v2 M1 => ?_)
  exact yL.eq (y_iretz (pc := 9) d117_9 mr_117) yL.rf
set_option maxRecDepth 20000 in
set_option maxHeartbeats 4000000 in
theorem e118 {a0 : Int32} {M : yM} : yL (yCi false (yX 108 0 [some (.long a0.toInt64), none, some (.long 1), none, some (.long 90), none] [] M 0 0) fun v2 M1 => yZ v2 M1) (yX 118 0 [some (.int a0)] [] M 0 0) := by
  refine yL.eq (y_iload_n (pc := 0) (x := a0) d118_0 rfl) ?_
  refine yL.eq (y_i2l (pc := 1) d118_1) ?_
  refine yL.eq (y_lconst (pc := 2) (v := 1) d118_2 kl_1) ?_
  refine yL.eq (y_ldc2_w (pc := 3) (v := 90) d118_3 q118_66) ?_
  refine y_calls_i (pc := 6) (n := 3) (n' := 6) (nc' := 0) (ns' := 0) [.long a0.toInt64, .long 1, .long 90] [] false d118_6 q118_58 rfl rfl rfl (Nat.le_of_ble_eq_true rfl) (Nat.le_of_ble_eq_true rfl) rfl (by decide +kernel) (by decide +kernel) (fun v2 M1 => ?_)
  exact yL.eq (y_iretz (pc := 9) d118_9 mr_118) yL.rf
set_option maxRecDepth 20000 in
set_option maxHeartbeats 4000000 in
theorem e119 {a0 : Int32} {M : yM} : yL (yCi false (yX 108 0 [some (.long a0.toInt64), none, some (.long 1), none, some (.long 24), none] [] M 0 0) fun v2 M1 => yZ v2 M1) (yX 119 0 [some (.int a0)] [] M 0 0) := by
  refine yL.eq (y_iload_n (pc := 0) (x := a0) d119_0 rfl) ?_
  refine yL.eq (y_i2l (pc := 1) d119_1) ?_
  refine yL.eq (y_lconst (pc := 2) (v := 1) d119_2 kl_1) ?_
  refine yL.eq (y_ldc2_w (pc := 3) (v := 24) d119_3 q119_68) ?_
  refine y_calls_i (pc := 6) (n := 3) (n' := 6) (nc' := 0) (ns' := 0) [.long a0.toInt64, .long 1, .long 24] [] false d119_6 q119_58 rfl rfl rfl (Nat.le_of_ble_eq_true rfl) (Nat.le_of_ble_eq_true rfl) rfl (by decide +kernel) (by decide +kernel) (fun v2 M1 => ?_)
  exact yL.eq (y_iretz (pc := 9) d119_9 mr_119) yL.rf
set_option maxRecDepth 20000 in
set_option maxHeartbeats 4000000 in
theorem e120 {a0 : Int32} {M : yM} : yL (yCi false (yX 108 0 [some (.long a0.toInt64), none, some (.long 0), none, some (.long 3), none] [] M 0 0) fun v2 M1 => yZ v2 M1) (yX 120 0 [some (.int a0)] [] M 0 0) := by
  refine yL.eq (y_iload_n (pc := 0) (x := a0) d120_0 rfl) ?_
  refine yL.eq (y_i2l (pc := 1) d120_1) ?_
  refine yL.eq (y_lconst (pc := 2) (v := 0) d120_2 kl_0) ?_
  refine yL.eq (y_ldc2_w (pc := 3) (v := 3) d120_3 q120_62) ?_
  refine y_calls_i (pc := 6) (n := 3) (n' := 6) (nc' := 0) (ns' := 0) [.long a0.toInt64, .long 0, .long 3] [] false d120_6 q120_58 rfl rfl rfl (Nat.le_of_ble_eq_true rfl) (Nat.le_of_ble_eq_true rfl) rfl (by decide +kernel) (by decide +kernel) (fun v2 M1 => ?_)
  exact yL.eq (y_iretz (pc := 9) d120_9 mr_120) yL.rf
set_option maxRecDepth 20000 in
set_option maxHeartbeats 4000000 in
theorem e121 {a0 : Int32} {a1 : Int32} {M : yM} : yL (if a0 = 0 then yCi false (yX 108 0 [some (.long a1.toInt64), none, some (.long 1), none, some (.long 15), none] [] M 0 0) fun v3 M2 => yZ v3 M2 else if a0 = 1 then yCi false (yX 108 0 [some (.long a1.toInt64), none, some (.long 0), none, some (.long 2), none] [] M 0 0) fun v6 M5 => yZ v6 M5 else if a0 = 2 then yCi false (yX 108 0 [some (.long a1.toInt64), none, some (.long 0), none, some (.long 20), none] [] M 0 0) fun v9 M8 => yZ v9 M8 else if a0 = 3 then yCi false (yX 108 0 [some (.long a1.toInt64), none, some (.long 1), none, some (.long 3), none] [] M 0 0) fun v12 M11 => yZ v12 M11 else if a0 = 4 then yCi false (yX 108 0 [some (.long a1.toInt64), none, some (.long 0), none, some (.long 3), none] [] M 0 0) fun v15 M14 => if v15 = 0 then yI 0 M14 else yI 1 M14 else yI 0 M) (yX 121 0 [some (.int a0), some (.int a1)] [] M 0 0) := by
  refine yL.eq (y_iload_n (pc := 0) (x := a0) d121_0 rfl) ?_
  refine yL.eq (y_tsw (pc := 1) (ts := [32, 42, 52, 62]) (d := 72) d121_1 (by decide +kernel)) ?_
  refine yL.eq (y_ts (c := 0) (lo' := 1) kc_0 (by decide)) ?_
  refine yL.ite (fun h1 => ?_) (fun h1 => ?_)
  ·
    refine yL.eq (y_iload_n (pc := 32) (x := a1) d121_32 rfl) ?_
    refine yL.eq (y_i2l (pc := 33) d121_33) ?_
    refine yL.eq (y_lconst (pc := 34) (v := 1) d121_34 kl_1) ?_
    refine yL.eq (y_ldc2_w (pc := 35) (v := 15) d121_35 q121_70) ?_
    refine y_calls_i (pc := 38) (n := 3) (n' := 6) (nc' := 0) (ns' := 0) [.long a1.toInt64, .long 1, .long 15] [] false d121_38 q121_58 rfl rfl rfl (Nat.le_of_ble_eq_true rfl) (Nat.le_of_ble_eq_true rfl) rfl (by decide +kernel) (by decide +kernel) (fun v3 M2 => ?_)
    exact yL.eq (y_iretz (pc := 41) d121_41 mr_121) yL.rf
  ·
    refine yL.eq (y_ts (c := 1) (lo' := 2) kc_1 (by decide)) ?_
    refine yL.ite (fun h4 => ?_) (fun h4 => ?_)
    ·
      refine yL.eq (y_iload_n (pc := 42) (x := a1) d121_42 rfl) ?_
      refine yL.eq (y_i2l (pc := 43) d121_43) ?_
      refine yL.eq (y_lconst (pc := 44) (v := 0) d121_44 kl_0) ?_
      refine yL.eq (y_ldc2_w (pc := 45) (v := 2) d121_45 q121_72) ?_
      refine y_calls_i (pc := 48) (n := 3) (n' := 6) (nc' := 0) (ns' := 0) [.long a1.toInt64, .long 0, .long 2] [] false d121_48 q121_58 rfl rfl rfl (Nat.le_of_ble_eq_true rfl) (Nat.le_of_ble_eq_true rfl) rfl (by decide +kernel) (by decide +kernel) (fun v6 M5 => ?_)
      exact yL.eq (y_iretz (pc := 51) d121_51 mr_121) yL.rf
    ·
      refine yL.eq (y_ts (c := 2) (lo' := 3) kc_2 (by decide)) ?_
      refine yL.ite (fun h7 => ?_) (fun h7 => ?_)
      ·
        refine yL.eq (y_iload_n (pc := 52) (x := a1) d121_52 rfl) ?_
        refine yL.eq (y_i2l (pc := 53) d121_53) ?_
        refine yL.eq (y_lconst (pc := 54) (v := 0) d121_54 kl_0) ?_
        refine yL.eq (y_ldc2_w (pc := 55) (v := 20) d121_55 q121_74) ?_
        refine y_calls_i (pc := 58) (n := 3) (n' := 6) (nc' := 0) (ns' := 0) [.long a1.toInt64, .long 0, .long 20] [] false d121_58 q121_58 rfl rfl rfl (Nat.le_of_ble_eq_true rfl) (Nat.le_of_ble_eq_true rfl) rfl (by decide +kernel) (by decide +kernel) (fun v9 M8 => ?_)
        exact yL.eq (y_iretz (pc := 61) d121_61 mr_121) yL.rf
      ·
        refine yL.eq (y_ts (c := 3) (lo' := 4) kc_3 (by decide)) ?_
        refine yL.ite (fun h10 => ?_) (fun h10 => ?_)
        ·
          refine yL.eq (y_iload_n (pc := 62) (x := a1) d121_62 rfl) ?_
          refine yL.eq (y_i2l (pc := 63) d121_63) ?_
          refine yL.eq (y_lconst (pc := 64) (v := 1) d121_64 kl_1) ?_
          refine yL.eq (y_ldc2_w (pc := 65) (v := 3) d121_65 q121_62) ?_
          refine y_calls_i (pc := 68) (n := 3) (n' := 6) (nc' := 0) (ns' := 0) [.long a1.toInt64, .long 1, .long 3] [] false d121_68 q121_58 rfl rfl rfl (Nat.le_of_ble_eq_true rfl) (Nat.le_of_ble_eq_true rfl) rfl (by decide +kernel) (by decide +kernel) (fun v12 M11 => ?_)
          exact yL.eq (y_iretz (pc := 71) d121_71 mr_121) yL.rf
        ·
          refine yL.eq y_tsn ?_
          refine yL.eq (y_iload_n (pc := 72) (x := a0) d121_72 rfl) ?_
          refine yL.eq (y_iconst (pc := 73) (v := 4) d121_73 kc_4) ?_
          refine yL.eq (y_icmp_ne (pc := 74) (t := 93) d121_74 (by decide)) ?_
          refine yL.ite (fun h13 => ?_) (fun h13 => ?_)
          ·
            refine yL.eq (y_iload_n (pc := 77) (x := a1) d121_77 rfl) ?_
            refine yL.eq (y_i2l (pc := 78) d121_78) ?_
            refine yL.eq (y_lconst (pc := 79) (v := 0) d121_79 kl_0) ?_
            refine yL.eq (y_ldc2_w (pc := 80) (v := 3) d121_80 q121_62) ?_
            refine y_calls_i (pc := 83) (n := 3) (n' := 6) (nc' := 0) (ns' := 0) [.long a1.toInt64, .long 0, .long 3] [] false d121_83 q121_58 rfl rfl rfl (Nat.le_of_ble_eq_true rfl) (Nat.le_of_ble_eq_true rfl) rfl (by decide +kernel) (by decide +kernel) (fun v15 M14 => ?_)
            refine yL.eq (y_if_eq (pc := 86) (t := 93) d121_86 (by decide)) ?_
            refine yL.ite (fun h16 => ?_) (fun h16 => ?_)
            ·
              refine yL.eq (y_iconst (pc := 93) (v := 0) d121_93 kc_0) ?_
              exact yL.eq (y_iretz (pc := 94) d121_94 mr_121) (yL.eq yZ_0 yL.rf)
            ·
              refine yL.eq (y_iconst (pc := 89) (v := 1) d121_89 kc_1) ?_
              refine yL.eq (y_goto (pc := 90) (t := 94) d121_90 (by decide)) ?_
              exact yL.eq (y_iretz (pc := 94) d121_94 mr_121) (yL.eq yZ_1 yL.rf)
          ·
            refine yL.eq (y_iconst (pc := 93) (v := 0) d121_93 kc_0) ?_
            exact yL.eq (y_iretz (pc := 94) d121_94 mr_121) (yL.eq yZ_0 yL.rf)
set_option maxRecDepth 20000 in
set_option maxHeartbeats 4000000 in
theorem e122 {a0 : Int32} {M : yM} : yL (if a0 = 0 then yI 6 M else if a0 = 1 then yI 48 M else if a0 = 2 then yI 144 M else yI 2304 M) (yX 122 0 [some (.int a0)] [] M 0 0) := by
  refine yL.eq (y_iload_n (pc := 0) (x := a0) d122_0 rfl) ?_
  refine yL.eq (y_if_ne (pc := 1) (t := 9) d122_1 (by decide)) ?_
  refine yL.ite (fun h1 => ?_) (fun h1 => ?_)
  ·
    refine yL.eq (y_bipush (pc := 4) (v := 6) d122_4 kb_6) ?_
    refine yL.eq (y_goto (pc := 6) (t := 33) d122_6 (by decide)) ?_
    exact yL.eq (y_ireti (pc := 33) d122_33 mr_122) yL.rf
  ·
    refine yL.eq (y_iload_n (pc := 9) (x := a0) d122_9 rfl) ?_
    refine yL.eq (y_iconst (pc := 10) (v := 1) d122_10 kc_1) ?_
    refine yL.eq (y_icmp_ne (pc := 11) (t := 19) d122_11 (by decide)) ?_
    refine yL.ite (fun h2 => ?_) (fun h2 => ?_)
    ·
      refine yL.eq (y_bipush (pc := 14) (v := 48) d122_14 kb_48) ?_
      refine yL.eq (y_goto (pc := 16) (t := 33) d122_16 (by decide)) ?_
      exact yL.eq (y_ireti (pc := 33) d122_33 mr_122) yL.rf
    ·
      refine yL.eq (y_iload_n (pc := 19) (x := a0) d122_19 rfl) ?_
      refine yL.eq (y_iconst (pc := 20) (v := 2) d122_20 kc_2) ?_
      refine yL.eq (y_icmp_ne (pc := 21) (t := 30) d122_21 (by decide)) ?_
      refine yL.ite (fun h3 => ?_) (fun h3 => ?_)
      ·
        refine yL.eq (y_sipush (pc := 24) (v := 144) d122_24 ks_144) ?_
        refine yL.eq (y_goto (pc := 27) (t := 33) d122_27 (by decide)) ?_
        exact yL.eq (y_ireti (pc := 33) d122_33 mr_122) yL.rf
      ·
        refine yL.eq (y_sipush (pc := 30) (v := 2304) d122_30 ks_2304) ?_
        exact yL.eq (y_ireti (pc := 33) d122_33 mr_122) yL.rf
set_option maxRecDepth 20000 in
set_option maxHeartbeats 4000000 in
theorem e123 {r : Nat} {a1 : Int32} (hr : yR r) {M : yM} : yL (if yinB (1 + a1) 95 = true then if (M r 13) = 0 then none else if (((M r (yx (1 + a1))) * (M r 14)) / (M r 13)) < 1 then yI 1 M else yI (((M r (yx (1 + a1))) * (M r 14)) / (M r 13)) M else none) (yX 123 0 [some (.ref r), some (.int a1), none] [] M 0 0) := by
  refine yL.eq (y_aload_n (pc := 0) (x := r) d123_0 rfl) ?_
  refine yL.eq (y_iconst (pc := 1) (v := 1) d123_1 kc_1) ?_
  refine yL.eq (y_iload_n (pc := 2) (x := a1) d123_2 rfl) ?_
  refine yL.eq (y_iadd (pc := 3) d123_3) ?_
  refine yL.eq (y_iald (pc := 4) (n := 95) d123_4 (yR_a hr)) ?_
  refine yL.gd (fun h1 => ?_)
  refine yL.eq (y_aload_n (pc := 5) (x := r) d123_5 rfl) ?_
  refine yL.eq (y_bipush (pc := 6) (v := 14) d123_6 kb_14) ?_
  refine yL.eq (y_iald (pc := 8) (n := 95) d123_8 (yR_a hr)) ?_
  refine yL.eq (if_pos in_14_95) ?_
  show yL _ (yX 123 9 [some (.ref r), some (.int a1), none] ([.int (M r 14), .int (M r (yx (1 + a1)))]) M 0 0)
  refine yL.eq (y_imul (pc := 9) d123_9) ?_
  refine yL.eq (y_aload_n (pc := 10) (x := r) d123_10 rfl) ?_
  refine yL.eq (y_bipush (pc := 11) (v := 13) d123_11 kb_13) ?_
  refine yL.eq (y_iald (pc := 13) (n := 95) d123_13 (yR_a hr)) ?_
  refine yL.eq (if_pos in_13_95) ?_
  show yL _ (yX 123 14 [some (.ref r), some (.int a1), none] ([.int (M r 13), .int ((M r (yx (1 + a1))) * (M r 14))]) M 0 0)
  refine yL.eq (y_idiv (pc := 14) d123_14) ?_
  refine yL.gn (fun h2 => ?_)
  refine yL.eq (y_istore_n (pc := 15) (ls' := [some (.ref r), some (.int a1), some (.int (((M r (yx (1 + a1))) * (M r 14)) / (M r 13)))]) d123_15 rfl rfl) ?_
  refine yL.eq (y_iload_n (pc := 16) (x := (((M r (yx (1 + a1))) * (M r 14)) / (M r 13))) d123_16 rfl) ?_
  refine yL.eq (y_iconst (pc := 17) (v := 1) d123_17 kc_1) ?_
  refine yL.eq (y_icmp_ge (pc := 18) (t := 25) d123_18 (by decide)) ?_
  refine yL.ite (fun h3 => ?_) (fun h3 => ?_)
  ·
    refine yL.eq (y_iconst (pc := 21) (v := 1) d123_21 kc_1) ?_
    refine yL.eq (y_goto (pc := 22) (t := 26) d123_22 (by decide)) ?_
    exact yL.eq (y_ireti (pc := 26) d123_26 mr_123) yL.rf
  ·
    refine yL.eq (y_iload_n (pc := 25) (x := (((M r (yx (1 + a1))) * (M r 14)) / (M r 13))) d123_25 rfl) ?_
    exact yL.eq (y_ireti (pc := 26) d123_26 mr_123) yL.rf
set_option maxRecDepth 20000 in
set_option maxHeartbeats 4000000 in
theorem e124 {r : Nat} (hr : yR r) {M : yM} : yL (yX 124 2 [some (.ref r), some (.int 0)] [] M 0 0) (yX 124 0 [some (.ref r), none] [] M 0 0) := by
  refine yL.eq (y_iconst (pc := 0) (v := 0) d124_0 kc_0) ?_
  refine yL.eq (y_istore_n (pc := 1) (ls' := [some (.ref r), some (.int 0)]) d124_1 rfl rfl) ?_
  exact yL.rf
set_option maxRecDepth 20000 in
set_option maxHeartbeats 4000000 in
theorem e124_2 {r : Nat} {x1 : Int32} (hr : yR r) {M : yM} : yL (yCi false (yX 110 0 [some (.int (M r 90)), some (.int x1)] [] M 0 0) fun v2 M1 => if v2 = 0 then yX 124 2 [some (.ref r), some (.int (x1 + 1))] [] M1 0 0 else yCi false (yX 122 0 [some (.int x1)] [] M1 0 0) fun v5 M4 => yI v5 M4) (yX 124 2 [some (.ref r), some (.int x1)] [] M 0 0) := by
  refine yL.eq (y_aload_n (pc := 2) (x := r) d124_2 rfl) ?_
  refine yL.eq (y_bipush (pc := 3) (v := 90) d124_3 kb_90) ?_
  refine yL.eq (y_iald (pc := 5) (n := 95) d124_5 (yR_a hr)) ?_
  refine yL.eq (if_pos in_90_95) ?_
  show yL _ (yX 124 6 [some (.ref r), some (.int x1)] ([.int (M r 90)]) M 0 0)
  refine yL.eq (y_iload_n (pc := 6) (x := x1) d124_6 rfl) ?_
  refine y_calls_i (pc := 7) (n := 2) (n' := 2) (nc' := 0) (ns' := 0) [.int (M r 90), .int x1] [] false d124_7 q124_54 rfl rfl rfl (Nat.le_of_ble_eq_true rfl) (Nat.le_of_ble_eq_true rfl) rfl (by decide +kernel) (by decide +kernel) (fun v2 M1 => ?_)
  refine yL.eq (y_if_ne (pc := 10) (t := 19) d124_10 (by decide)) ?_
  refine yL.ite (fun h3 => ?_) (fun h3 => ?_)
  ·
    refine yL.eq (y_iinc (pc := 13) (v := 1) (x := x1) (ls' := [some (.ref r), some (.int (x1 + 1))]) d124_13 kc_1 rfl (Nat.le_of_ble_eq_true rfl) rfl) ?_
    refine yL.eq (y_goto (pc := 16) (t := 2) d124_16 (by decide)) ?_
    exact yL.rf
  ·
    refine yL.eq (y_iload_n (pc := 19) (x := x1) d124_19 rfl) ?_
    refine y_calls_i (pc := 20) (n := 1) (n' := 1) (nc' := 0) (ns' := 0) [.int x1] [] false d124_20 q124_76 rfl rfl rfl (Nat.le_of_ble_eq_true rfl) (Nat.le_of_ble_eq_true rfl) rfl (by decide +kernel) (by decide +kernel) (fun v5 M4 => ?_)
    exact yL.eq (y_ireti (pc := 23) d124_23 mr_124) yL.rf
set_option maxRecDepth 20000 in
set_option maxHeartbeats 4000000 in
theorem e125 {r : Nat} {a1 : Int32} (hr : yR r) {M : yM} : yL (yCi false (yX 124 0 [some (.ref r), none] [] M 0 0) fun v2 M1 => yCi false (yX 123 0 [some (.ref r), some (.int a1), none] [] M1 0 0) fun v4 M3 => if (M3 r 91) = 0 then if v2 = 0 then none else if ((v4 + 0) / v2) < 1 then yI v2 M3 else yI (((v4 + 0) / v2) * v2) M3 else if (M3 r 91) = 1 then if v2 = 0 then none else if ((v4 + (v2 / 2)) / v2) < 1 then yI v2 M3 else yI (((v4 + (v2 / 2)) / v2) * v2) M3 else if v2 = 0 then none else if ((v4 + (v2 - 1)) / v2) < 1 then yI v2 M3 else yI (((v4 + (v2 - 1)) / v2) * v2) M3) (yX 125 0 [some (.ref r), some (.int a1), none, none, none, none] [] M 0 0) := by
  refine yL.eq (y_aload_n (pc := 0) (x := r) d125_0 rfl) ?_
  refine y_calls_i (pc := 1) (n := 1) (n' := 2) (nc' := 0) (ns' := 0) [.ref r] [] false d125_1 q125_80 rfl rfl rfl (Nat.le_of_ble_eq_true rfl) (Nat.le_of_ble_eq_true rfl) rfl (by decide +kernel) (by decide +kernel) (fun v2 M1 => ?_)
  refine yL.eq (y_istore_n (pc := 4) (ls' := [some (.ref r), some (.int a1), some (.int v2), none, none, none]) d125_4 rfl rfl) ?_
  refine yL.eq (y_aload_n (pc := 5) (x := r) d125_5 rfl) ?_
  refine yL.eq (y_iload_n (pc := 6) (x := a1) d125_6 rfl) ?_
  refine y_calls_i (pc := 7) (n := 2) (n' := 3) (nc' := 0) (ns' := 0) [.ref r, .int a1] [] false d125_7 q125_84 rfl rfl rfl (Nat.le_of_ble_eq_true rfl) (Nat.le_of_ble_eq_true rfl) rfl (by decide +kernel) (by decide +kernel) (fun v4 M3 => ?_)
  refine yL.eq (y_istore_n (pc := 10) (ls' := [some (.ref r), some (.int a1), some (.int v2), some (.int v4), none, none]) d125_10 rfl rfl) ?_
  refine yL.eq (y_aload_n (pc := 11) (x := r) d125_11 rfl) ?_
  refine yL.eq (y_bipush (pc := 12) (v := 91) d125_12 kb_91) ?_
  refine yL.eq (y_iald (pc := 14) (n := 95) d125_14 (yR_a hr)) ?_
  refine yL.eq (if_pos in_91_95) ?_
  show yL _ (yX 125 15 [some (.ref r), some (.int a1), some (.int v2), some (.int v4), none, none] ([.int (M3 r 91)]) M3 0 0)
  refine yL.eq (y_if_ne (pc := 15) (t := 22) d125_15 (by decide)) ?_
  refine yL.ite (fun h5 => ?_) (fun h5 => ?_)
  ·
    refine yL.eq (y_iconst (pc := 18) (v := 0) d125_18 kc_0) ?_
    refine yL.eq (y_goto (pc := 19) (t := 39) d125_19 (by decide)) ?_
    refine yL.eq (y_istore (pc := 39) (ls' := [some (.ref r), some (.int a1), some (.int v2), some (.int v4), some (.int 0), none]) d125_39 rfl rfl) ?_
    refine yL.eq (y_iload_n (pc := 41) (x := v4) d125_41 rfl) ?_
    refine yL.eq (y_iload (pc := 42) (x := 0) d125_42 rfl) ?_
    refine yL.eq (y_iadd (pc := 44) d125_44) ?_
    refine yL.eq (y_iload_n (pc := 45) (x := v2) d125_45 rfl) ?_
    refine yL.eq (y_idiv (pc := 46) d125_46) ?_
    refine yL.gn (fun h6 => ?_)
    refine yL.eq (y_istore (pc := 47) (ls' := [some (.ref r), some (.int a1), some (.int v2), some (.int v4), some (.int 0), some (.int ((v4 + 0) / v2))]) d125_47 rfl rfl) ?_
    refine yL.eq (y_iload (pc := 49) (x := ((v4 + 0) / v2)) d125_49 rfl) ?_
    refine yL.eq (y_iconst (pc := 51) (v := 1) d125_51 kc_1) ?_
    refine yL.eq (y_icmp_ge (pc := 52) (t := 59) d125_52 (by decide)) ?_
    refine yL.ite (fun h7 => ?_) (fun h7 => ?_)
    ·
      refine yL.eq (y_iload_n (pc := 55) (x := v2) d125_55 rfl) ?_
      refine yL.eq (y_goto (pc := 56) (t := 63) d125_56 (by decide)) ?_
      exact yL.eq (y_ireti (pc := 63) d125_63 mr_125) yL.rf
    ·
      refine yL.eq (y_iload (pc := 59) (x := ((v4 + 0) / v2)) d125_59 rfl) ?_
      refine yL.eq (y_iload_n (pc := 61) (x := v2) d125_61 rfl) ?_
      refine yL.eq (y_imul (pc := 62) d125_62) ?_
      exact yL.eq (y_ireti (pc := 63) d125_63 mr_125) yL.rf
  ·
    refine yL.eq (y_aload_n (pc := 22) (x := r) d125_22 rfl) ?_
    refine yL.eq (y_bipush (pc := 23) (v := 91) d125_23 kb_91) ?_
    refine yL.eq (y_iald (pc := 25) (n := 95) d125_25 (yR_a hr)) ?_
    refine yL.eq (if_pos in_91_95) ?_
    show yL _ (yX 125 26 [some (.ref r), some (.int a1), some (.int v2), some (.int v4), none, none] ([.int (M3 r 91)]) M3 0 0)
    refine yL.eq (y_iconst (pc := 26) (v := 1) d125_26 kc_1) ?_
    refine yL.eq (y_icmp_ne (pc := 27) (t := 36) d125_27 (by decide)) ?_
    refine yL.ite (fun h8 => ?_) (fun h8 => ?_)
    ·
      refine yL.eq (y_iload_n (pc := 30) (x := v2) d125_30 rfl) ?_
      refine yL.eq (y_iconst (pc := 31) (v := 2) d125_31 kc_2) ?_
      refine yL.eq (y_idivc (pc := 32) d125_32 nzI_2) ?_
      refine yL.eq (y_goto (pc := 33) (t := 39) d125_33 (by decide)) ?_
      refine yL.eq (y_istore (pc := 39) (ls' := [some (.ref r), some (.int a1), some (.int v2), some (.int v4), some (.int (v2 / 2)), none]) d125_39 rfl rfl) ?_
      refine yL.eq (y_iload_n (pc := 41) (x := v4) d125_41 rfl) ?_
      refine yL.eq (y_iload (pc := 42) (x := (v2 / 2)) d125_42 rfl) ?_
      refine yL.eq (y_iadd (pc := 44) d125_44) ?_
      refine yL.eq (y_iload_n (pc := 45) (x := v2) d125_45 rfl) ?_
      refine yL.eq (y_idiv (pc := 46) d125_46) ?_
      refine yL.gn (fun h9 => ?_)
      refine yL.eq (y_istore (pc := 47) (ls' := [some (.ref r), some (.int a1), some (.int v2), some (.int v4), some (.int (v2 / 2)), some (.int ((v4 + (v2 / 2)) / v2))]) d125_47 rfl rfl) ?_
      refine yL.eq (y_iload (pc := 49) (x := ((v4 + (v2 / 2)) / v2)) d125_49 rfl) ?_
      refine yL.eq (y_iconst (pc := 51) (v := 1) d125_51 kc_1) ?_
      refine yL.eq (y_icmp_ge (pc := 52) (t := 59) d125_52 (by decide)) ?_
      refine yL.ite (fun h10 => ?_) (fun h10 => ?_)
      ·
        refine yL.eq (y_iload_n (pc := 55) (x := v2) d125_55 rfl) ?_
        refine yL.eq (y_goto (pc := 56) (t := 63) d125_56 (by decide)) ?_
        exact yL.eq (y_ireti (pc := 63) d125_63 mr_125) yL.rf
      ·
        refine yL.eq (y_iload (pc := 59) (x := ((v4 + (v2 / 2)) / v2)) d125_59 rfl) ?_
        refine yL.eq (y_iload_n (pc := 61) (x := v2) d125_61 rfl) ?_
        refine yL.eq (y_imul (pc := 62) d125_62) ?_
        exact yL.eq (y_ireti (pc := 63) d125_63 mr_125) yL.rf
    ·
      refine yL.eq (y_iload_n (pc := 36) (x := v2) d125_36 rfl) ?_
      refine yL.eq (y_iconst (pc := 37) (v := 1) d125_37 kc_1) ?_
      refine yL.eq (y_isub (pc := 38) d125_38) ?_
      refine yL.eq (y_istore (pc := 39) (ls' := [some (.ref r), some (.int a1), some (.int v2), some (.int v4), some (.int (v2 - 1)), none]) d125_39 rfl rfl) ?_
      refine yL.eq (y_iload_n (pc := 41) (x := v4) d125_41 rfl) ?_
      refine yL.eq (y_iload (pc := 42) (x := (v2 - 1)) d125_42 rfl) ?_
      refine yL.eq (y_iadd (pc := 44) d125_44) ?_
      refine yL.eq (y_iload_n (pc := 45) (x := v2) d125_45 rfl) ?_
      refine yL.eq (y_idiv (pc := 46) d125_46) ?_
      refine yL.gn (fun h11 => ?_)
      refine yL.eq (y_istore (pc := 47) (ls' := [some (.ref r), some (.int a1), some (.int v2), some (.int v4), some (.int (v2 - 1)), some (.int ((v4 + (v2 - 1)) / v2))]) d125_47 rfl rfl) ?_
      refine yL.eq (y_iload (pc := 49) (x := ((v4 + (v2 - 1)) / v2)) d125_49 rfl) ?_
      refine yL.eq (y_iconst (pc := 51) (v := 1) d125_51 kc_1) ?_
      refine yL.eq (y_icmp_ge (pc := 52) (t := 59) d125_52 (by decide)) ?_
      refine yL.ite (fun h12 => ?_) (fun h12 => ?_)
      ·
        refine yL.eq (y_iload_n (pc := 55) (x := v2) d125_55 rfl) ?_
        refine yL.eq (y_goto (pc := 56) (t := 63) d125_56 (by decide)) ?_
        exact yL.eq (y_ireti (pc := 63) d125_63 mr_125) yL.rf
      ·
        refine yL.eq (y_iload (pc := 59) (x := ((v4 + (v2 - 1)) / v2)) d125_59 rfl) ?_
        refine yL.eq (y_iload_n (pc := 61) (x := v2) d125_61 rfl) ?_
        refine yL.eq (y_imul (pc := 62) d125_62) ?_
        exact yL.eq (y_ireti (pc := 63) d125_63 mr_125) yL.rf
set_option maxRecDepth 20000 in
set_option maxHeartbeats 4000000 in
theorem e126 {r : Nat} {a1 : Int32} {a2 : Int32} (hr : yR r) {M : yM} : yL (yCi false (yX 125 0 [some (.ref r), some (.int a1), none, none, none, none] [] M 0 0) fun v2 M1 => yX 126 9 [some (.ref r), some (.int a1), some (.int a2), some (.int v2), some (.int 3)] [] M1 0 0) (yX 126 0 [some (.ref r), some (.int a1), some (.int a2), none, none] [] M 0 0) := by
  refine yL.eq (y_aload_n (pc := 0) (x := r) d126_0 rfl) ?_
  refine yL.eq (y_iload_n (pc := 1) (x := a1) d126_1 rfl) ?_
  refine y_calls_i (pc := 2) (n := 2) (n' := 6) (nc' := 0) (ns' := 0) [.ref r, .int a1] [] false d126_2 q126_88 rfl rfl rfl (Nat.le_of_ble_eq_true rfl) (Nat.le_of_ble_eq_true rfl) rfl (by decide +kernel) (by decide +kernel) (fun v2 M1 => ?_)
  refine yL.eq (y_istore_n (pc := 5) (ls' := [some (.ref r), some (.int a1), some (.int a2), some (.int v2), none]) d126_5 rfl rfl) ?_
  refine yL.eq (y_iconst (pc := 6) (v := 3) d126_6 kc_3) ?_
  refine yL.eq (y_istore (pc := 7) (ls' := [some (.ref r), some (.int a1), some (.int a2), some (.int v2), some (.int 3)]) d126_7 rfl rfl) ?_
  exact yL.rf
set_option maxRecDepth 20000 in
set_option maxHeartbeats 4000000 in
theorem e126_9 {r : Nat} {o1 : Option Value} {x2 : Int32} {x3 : Int32} {x4 : Int32} (hr : yR r) {M : yM} : yL (if x4 ≤ x2 then yCi false (yX 110 0 [some (.int (M r 90)), some (.int x2)] [] M 0 0) fun v3 M2 => if v3 = 0 then yI 0 M2 else yCi false (yX 122 0 [some (.int x2)] [] M2 0 0) fun v6 M5 => if v6 = 0 then none else yI (x3 / v6) M5 else yCi false (yX 110 0 [some (.int (M r 90)), some (.int x4)] [] M 0 0) fun v9 M8 => if v9 = 0 then yX 126 9 [some (.ref r), o1, some (.int x2), some (.int x3), some (.int (x4 + (-1)))] [] M8 0 0 else yCi false (yX 122 0 [some (.int x4)] [] M8 0 0) fun v12 M11 => if v12 = 0 then none else yX 126 9 [some (.ref r), o1, some (.int x2), some (.int (x3 % v12)), some (.int (x4 + (-1)))] [] M11 0 0) (yX 126 9 [some (.ref r), o1, some (.int x2), some (.int x3), some (.int x4)] [] M 0 0) := by
  refine yL.eq (y_iload (pc := 9) (x := x4) d126_9 rfl) ?_
  refine yL.eq (y_iload_n (pc := 11) (x := x2) d126_11 rfl) ?_
  refine yL.eq (y_icmp_le (pc := 12) (t := 45) d126_12 (by decide)) ?_
  refine yL.ite (fun h1 => ?_) (fun h1 => ?_)
  ·
    refine yL.eq (y_aload_n (pc := 45) (x := r) d126_45 rfl) ?_
    refine yL.eq (y_bipush (pc := 46) (v := 90) d126_46 kb_90) ?_
    refine yL.eq (y_iald (pc := 48) (n := 95) d126_48 (yR_a hr)) ?_
    refine yL.eq (if_pos in_90_95) ?_
    show yL _ (yX 126 49 [some (.ref r), o1, some (.int x2), some (.int x3), some (.int x4)] ([.int (M r 90)]) M 0 0)
    refine yL.eq (y_iload_n (pc := 49) (x := x2) d126_49 rfl) ?_
    refine y_calls_i (pc := 50) (n := 2) (n' := 2) (nc' := 0) (ns' := 0) [.int (M r 90), .int x2] [] false d126_50 q126_54 rfl rfl rfl (Nat.le_of_ble_eq_true rfl) (Nat.le_of_ble_eq_true rfl) rfl (by decide +kernel) (by decide +kernel) (fun v3 M2 => ?_)
    refine yL.eq (y_if_eq (pc := 53) (t := 65) d126_53 (by decide)) ?_
    refine yL.ite (fun h4 => ?_) (fun h4 => ?_)
    ·
      refine yL.eq (y_iconst (pc := 65) (v := 0) d126_65 kc_0) ?_
      exact yL.eq (y_ireti (pc := 66) d126_66 mr_126) yL.rf
    ·
      refine yL.eq (y_iload_n (pc := 56) (x := x3) d126_56 rfl) ?_
      refine yL.eq (y_iload_n (pc := 57) (x := x2) d126_57 rfl) ?_
      refine y_calls_i (pc := 58) (n := 1) (n' := 1) (nc' := 0) (ns' := 0) [.int x2] [.int x3] false d126_58 q126_76 rfl rfl rfl (Nat.le_of_ble_eq_true rfl) (Nat.le_of_ble_eq_true rfl) rfl (by decide +kernel) (by decide +kernel) (fun v6 M5 => ?_)
      refine yL.eq (y_idiv (pc := 61) d126_61) ?_
      refine yL.gn (fun h7 => ?_)
      refine yL.eq (y_goto (pc := 62) (t := 66) d126_62 (by decide)) ?_
      exact yL.eq (y_ireti (pc := 66) d126_66 mr_126) yL.rf
  ·
    refine yL.eq (y_aload_n (pc := 15) (x := r) d126_15 rfl) ?_
    refine yL.eq (y_bipush (pc := 16) (v := 90) d126_16 kb_90) ?_
    refine yL.eq (y_iald (pc := 18) (n := 95) d126_18 (yR_a hr)) ?_
    refine yL.eq (if_pos in_90_95) ?_
    show yL _ (yX 126 19 [some (.ref r), o1, some (.int x2), some (.int x3), some (.int x4)] ([.int (M r 90)]) M 0 0)
    refine yL.eq (y_iload (pc := 19) (x := x4) d126_19 rfl) ?_
    refine y_calls_i (pc := 21) (n := 2) (n' := 2) (nc' := 0) (ns' := 0) [.int (M r 90), .int x4] [] false d126_21 q126_54 rfl rfl rfl (Nat.le_of_ble_eq_true rfl) (Nat.le_of_ble_eq_true rfl) rfl (by decide +kernel) (by decide +kernel) (fun v9 M8 => ?_)
    refine yL.eq (y_if_eq (pc := 24) (t := 37) d126_24 (by decide)) ?_
    refine yL.ite (fun h10 => ?_) (fun h10 => ?_)
    ·
      refine yL.eq (y_iload_n (pc := 37) (x := x3) d126_37 rfl) ?_
      refine yL.eq (y_istore_n (pc := 38) (ls' := [some (.ref r), o1, some (.int x2), some (.int x3), some (.int x4)]) d126_38 rfl rfl) ?_
      refine yL.eq (y_iinc (pc := 39) (v := (-1)) (x := x4) (ls' := [some (.ref r), o1, some (.int x2), some (.int x3), some (.int (x4 + (-1)))]) d126_39 kc_m1 rfl (Nat.le_of_ble_eq_true rfl) rfl) ?_
      refine yL.eq (y_goto (pc := 42) (t := 9) d126_42 (by decide)) ?_
      exact yL.rf
    ·
      refine yL.eq (y_iload_n (pc := 27) (x := x3) d126_27 rfl) ?_
      refine yL.eq (y_iload (pc := 28) (x := x4) d126_28 rfl) ?_
      refine y_calls_i (pc := 30) (n := 1) (n' := 1) (nc' := 0) (ns' := 0) [.int x4] [.int x3] false d126_30 q126_76 rfl rfl rfl (Nat.le_of_ble_eq_true rfl) (Nat.le_of_ble_eq_true rfl) rfl (by decide +kernel) (by decide +kernel) (fun v12 M11 => ?_)
      refine yL.eq (y_imod (pc := 33) d126_33) ?_
      refine yL.gn (fun h13 => ?_)
      refine yL.eq (y_goto (pc := 34) (t := 38) d126_34 (by decide)) ?_
      refine yL.eq (y_istore_n (pc := 38) (ls' := [some (.ref r), o1, some (.int x2), some (.int (x3 % v12)), some (.int x4)]) d126_38 rfl rfl) ?_
      refine yL.eq (y_iinc (pc := 39) (v := (-1)) (x := x4) (ls' := [some (.ref r), o1, some (.int x2), some (.int (x3 % v12)), some (.int (x4 + (-1)))]) d126_39 kc_m1 rfl (Nat.le_of_ble_eq_true rfl) rfl) ?_
      refine yL.eq (y_goto (pc := 42) (t := 9) d126_42 (by decide)) ?_
      exact yL.rf
set_option maxRecDepth 20000 in
set_option maxHeartbeats 4000000 in
theorem e127 {r : Nat} {a1 : Int32} (hr : yR r) {M : yM} : yL (yX 127 4 [some (.ref r), some (.int a1), some (.int 0), some (.int 0)] [] M 0 0) (yX 127 0 [some (.ref r), some (.int a1), none, none] [] M 0 0) := by
  refine yL.eq (y_iconst (pc := 0) (v := 0) d127_0 kc_0) ?_
  refine yL.eq (y_istore_n (pc := 1) (ls' := [some (.ref r), some (.int a1), some (.int 0), none]) d127_1 rfl rfl) ?_
  refine yL.eq (y_iconst (pc := 2) (v := 0) d127_2 kc_0) ?_
  refine yL.eq (y_istore_n (pc := 3) (ls' := [some (.ref r), some (.int a1), some (.int 0), some (.int 0)]) d127_3 rfl rfl) ?_
  exact yL.rf
set_option maxRecDepth 20000 in
set_option maxHeartbeats 4000000 in
theorem e127_4 {r : Nat} {x1 : Int32} {x2 : Int32} {x3 : Int32} (hr : yR r) {M : yM} : yL (if x3 < 4 then yCi false (yX 126 0 [some (.ref r), some (.int x1), some (.int x3), none, none] [] M 0 0) fun v3 M2 => yX 127 4 [some (.ref r), some (.int x1), some (.int (x2 + v3)), some (.int (x3 + 1))] [] M2 0 0 else yI x2 M) (yX 127 4 [some (.ref r), some (.int x1), some (.int x2), some (.int x3)] [] M 0 0) := by
  refine yL.eq (y_iload_n (pc := 4) (x := x3) d127_4 rfl) ?_
  refine yL.eq (y_iconst (pc := 5) (v := 4) d127_5 kc_4) ?_
  refine yL.eq (y_icmp_ge (pc := 6) (t := 24) d127_6 (by decide)) ?_
  refine yL.ite (fun h1 => ?_) (fun h1 => ?_)
  ·
    refine yL.eq (y_iload_n (pc := 9) (x := x2) d127_9 rfl) ?_
    refine yL.eq (y_aload_n (pc := 10) (x := r) d127_10 rfl) ?_
    refine yL.eq (y_iload_n (pc := 11) (x := x1) d127_11 rfl) ?_
    refine yL.eq (y_iload_n (pc := 12) (x := x3) d127_12 rfl) ?_
    refine y_calls_i (pc := 13) (n := 3) (n' := 5) (nc' := 0) (ns' := 0) [.ref r, .int x1, .int x3] [.int x2] false d127_13 q127_91 rfl rfl rfl (Nat.le_of_ble_eq_true rfl) (Nat.le_of_ble_eq_true rfl) rfl (by decide +kernel) (by decide +kernel) (fun v3 M2 => ?_)
    refine yL.eq (y_iadd (pc := 16) d127_16) ?_
    refine yL.eq (y_istore_n (pc := 17) (ls' := [some (.ref r), some (.int x1), some (.int (x2 + v3)), some (.int x3)]) d127_17 rfl rfl) ?_
    refine yL.eq (y_iinc (pc := 18) (v := 1) (x := x3) (ls' := [some (.ref r), some (.int x1), some (.int (x2 + v3)), some (.int (x3 + 1))]) d127_18 kc_1 rfl (Nat.le_of_ble_eq_true rfl) rfl) ?_
    refine yL.eq (y_goto (pc := 21) (t := 4) d127_21 (by decide)) ?_
    exact yL.rf
  ·
    refine yL.eq (y_iload_n (pc := 24) (x := x2) d127_24 rfl) ?_
    exact yL.eq (y_ireti (pc := 25) d127_25 mr_127) yL.rf
set_option maxRecDepth 20000 in
set_option maxHeartbeats 4000000 in
theorem e128 {r : Nat} (hr : yR r) {M : yM} : yL (yX 128 4 [some (.ref r), some (.int 0), some (.int 0)] [] M 0 0) (yX 128 0 [some (.ref r), none, none] [] M 0 0) := by
  refine yL.eq (y_iconst (pc := 0) (v := 0) d128_0 kc_0) ?_
  refine yL.eq (y_istore_n (pc := 1) (ls' := [some (.ref r), some (.int 0), none]) d128_1 rfl rfl) ?_
  refine yL.eq (y_iconst (pc := 2) (v := 0) d128_2 kc_0) ?_
  refine yL.eq (y_istore_n (pc := 3) (ls' := [some (.ref r), some (.int 0), some (.int 0)]) d128_3 rfl rfl) ?_
  exact yL.rf
set_option maxRecDepth 20000 in
set_option maxHeartbeats 4000000 in
theorem e128_4 {r : Nat} {x1 : Int32} {x2 : Int32} (hr : yR r) {M : yM} : yL (if x2 < (M r 0) then yCi false (yX 127 0 [some (.ref r), some (.int x2), none, none] [] M 0 0) fun v3 M2 => yX 128 4 [some (.ref r), some (.int (x1 + v3)), some (.int (x2 + 1))] [] M2 0 0 else yI x1 M) (yX 128 4 [some (.ref r), some (.int x1), some (.int x2)] [] M 0 0) := by
  refine yL.eq (y_iload_n (pc := 4) (x := x2) d128_4 rfl) ?_
  refine yL.eq (y_aload_n (pc := 5) (x := r) d128_5 rfl) ?_
  refine yL.eq (y_iconst (pc := 6) (v := 0) d128_6 kc_0) ?_
  refine yL.eq (y_iald (pc := 7) (n := 95) d128_7 (yR_a hr)) ?_
  refine yL.eq (if_pos in_0_95) ?_
  show yL _ (yX 128 8 [some (.ref r), some (.int x1), some (.int x2)] ([.int (M r 0), .int x2]) M 0 0)
  refine yL.eq (y_icmp_ge (pc := 8) (t := 25) d128_8 (by decide)) ?_
  refine yL.ite (fun h1 => ?_) (fun h1 => ?_)
  ·
    refine yL.eq (y_iload_n (pc := 11) (x := x1) d128_11 rfl) ?_
    refine yL.eq (y_aload_n (pc := 12) (x := r) d128_12 rfl) ?_
    refine yL.eq (y_iload_n (pc := 13) (x := x2) d128_13 rfl) ?_
    refine y_calls_i (pc := 14) (n := 2) (n' := 4) (nc' := 0) (ns' := 0) [.ref r, .int x2] [.int x1] false d128_14 q128_95 rfl rfl rfl (Nat.le_of_ble_eq_true rfl) (Nat.le_of_ble_eq_true rfl) rfl (by decide +kernel) (by decide +kernel) (fun v3 M2 => ?_)
    refine yL.eq (y_iadd (pc := 17) d128_17) ?_
    refine yL.eq (y_istore_n (pc := 18) (ls' := [some (.ref r), some (.int (x1 + v3)), some (.int x2)]) d128_18 rfl rfl) ?_
    refine yL.eq (y_iinc (pc := 19) (v := 1) (x := x2) (ls' := [some (.ref r), some (.int (x1 + v3)), some (.int (x2 + 1))]) d128_19 kc_1 rfl (Nat.le_of_ble_eq_true rfl) rfl) ?_
    refine yL.eq (y_goto (pc := 22) (t := 4) d128_22 (by decide)) ?_
    exact yL.rf
  ·
    refine yL.eq (y_iload_n (pc := 25) (x := x1) d128_25 rfl) ?_
    exact yL.eq (y_ireti (pc := 26) d128_26 mr_128) yL.rf
set_option maxRecDepth 20000 in
set_option maxHeartbeats 4000000 in
theorem e129 {r : Nat} (hr : yR r) {M : yM} : yL (yX 129 4 [some (.ref r), some (.int 0), some (.int 0), none] [] M 0 0) (yX 129 0 [some (.ref r), none, none, none] [] M 0 0) := by
  refine yL.eq (y_iconst (pc := 0) (v := 0) d129_0 kc_0) ?_
  refine yL.eq (y_istore_n (pc := 1) (ls' := [some (.ref r), some (.int 0), none, none]) d129_1 rfl rfl) ?_
  refine yL.eq (y_iconst (pc := 2) (v := 0) d129_2 kc_0) ?_
  refine yL.eq (y_istore_n (pc := 3) (ls' := [some (.ref r), some (.int 0), some (.int 0), none]) d129_3 rfl rfl) ?_
  exact yL.rf
set_option maxRecDepth 20000 in
set_option maxHeartbeats 4000000 in
theorem e129_4 {r : Nat} {x1 : Int32} {x2 : Int32} {o3 : Option Value} (hr : yR r) {M : yM} : yL (if x2 < (M r 0) then yCi false (yX 125 0 [some (.ref r), some (.int x2), none, none, none, none] [] M 0 0) fun v3 M2 => yCi false (yX 123 0 [some (.ref r), some (.int x2), none] [] M2 0 0) fun v5 M4 => if (v3 - v5) < 0 then yX 129 4 [some (.ref r), some (.int (x1 + (-(v3 - v5)))), some (.int (x2 + 1)), some (.int (v3 - v5))] [] M4 0 0 else yX 129 4 [some (.ref r), some (.int (x1 + (v3 - v5))), some (.int (x2 + 1)), some (.int (v3 - v5))] [] M4 0 0 else yI x1 M) (yX 129 4 [some (.ref r), some (.int x1), some (.int x2), o3] [] M 0 0) := by
  refine yL.eq (y_iload_n (pc := 4) (x := x2) d129_4 rfl) ?_
  refine yL.eq (y_aload_n (pc := 5) (x := r) d129_5 rfl) ?_
  refine yL.eq (y_iconst (pc := 6) (v := 0) d129_6 kc_0) ?_
  refine yL.eq (y_iald (pc := 7) (n := 95) d129_7 (yR_a hr)) ?_
  refine yL.eq (if_pos in_0_95) ?_
  show yL _ (yX 129 8 [some (.ref r), some (.int x1), some (.int x2), o3] ([.int (M r 0), .int x2]) M 0 0)
  refine yL.eq (y_icmp_ge (pc := 8) (t := 42) d129_8 (by decide)) ?_
  refine yL.ite (fun h1 => ?_) (fun h1 => ?_)
  ·
    refine yL.eq (y_aload_n (pc := 11) (x := r) d129_11 rfl) ?_
    refine yL.eq (y_iload_n (pc := 12) (x := x2) d129_12 rfl) ?_
    refine y_calls_i (pc := 13) (n := 2) (n' := 6) (nc' := 0) (ns' := 0) [.ref r, .int x2] [] false d129_13 q129_88 rfl rfl rfl (Nat.le_of_ble_eq_true rfl) (Nat.le_of_ble_eq_true rfl) rfl (by decide +kernel) (by decide +kernel) (fun v3 M2 => ?_)
    refine yL.eq (y_aload_n (pc := 16) (x := r) d129_16 rfl) ?_
    refine yL.eq (y_iload_n (pc := 17) (x := x2) d129_17 rfl) ?_
    refine y_calls_i (pc := 18) (n := 2) (n' := 3) (nc' := 0) (ns' := 0) [.ref r, .int x2] [.int v3] false d129_18 q129_84 rfl rfl rfl (Nat.le_of_ble_eq_true rfl) (Nat.le_of_ble_eq_true rfl) rfl (by decide +kernel) (by decide +kernel) (fun v5 M4 => ?_)
    refine yL.eq (y_isub (pc := 21) d129_21) ?_
    refine yL.eq (y_istore_n (pc := 22) (ls' := [some (.ref r), some (.int x1), some (.int x2), some (.int (v3 - v5))]) d129_22 rfl rfl) ?_
    refine yL.eq (y_iload_n (pc := 23) (x := x1) d129_23 rfl) ?_
    refine yL.eq (y_iload_n (pc := 24) (x := (v3 - v5)) d129_24 rfl) ?_
    refine yL.eq (y_if_ge (pc := 25) (t := 33) d129_25 (by decide)) ?_
    refine yL.ite (fun h6 => ?_) (fun h6 => ?_)
    ·
      refine yL.eq (y_iload_n (pc := 28) (x := (v3 - v5)) d129_28 rfl) ?_
      refine yL.eq (y_ineg (pc := 29) d129_29) ?_
      refine yL.eq (y_goto (pc := 30) (t := 34) d129_30 (by decide)) ?_
      refine yL.eq (y_iadd (pc := 34) d129_34) ?_
      refine yL.eq (y_istore_n (pc := 35) (ls' := [some (.ref r), some (.int (x1 + (-(v3 - v5)))), some (.int x2), some (.int (v3 - v5))]) d129_35 rfl rfl) ?_
      refine yL.eq (y_iinc (pc := 36) (v := 1) (x := x2) (ls' := [some (.ref r), some (.int (x1 + (-(v3 - v5)))), some (.int (x2 + 1)), some (.int (v3 - v5))]) d129_36 kc_1 rfl (Nat.le_of_ble_eq_true rfl) rfl) ?_
      refine yL.eq (y_goto (pc := 39) (t := 4) d129_39 (by decide)) ?_
      exact yL.rf
    ·
      refine yL.eq (y_iload_n (pc := 33) (x := (v3 - v5)) d129_33 rfl) ?_
      refine yL.eq (y_iadd (pc := 34) d129_34) ?_
      refine yL.eq (y_istore_n (pc := 35) (ls' := [some (.ref r), some (.int (x1 + (v3 - v5))), some (.int x2), some (.int (v3 - v5))]) d129_35 rfl rfl) ?_
      refine yL.eq (y_iinc (pc := 36) (v := 1) (x := x2) (ls' := [some (.ref r), some (.int (x1 + (v3 - v5))), some (.int (x2 + 1)), some (.int (v3 - v5))]) d129_36 kc_1 rfl (Nat.le_of_ble_eq_true rfl) rfl) ?_
      refine yL.eq (y_goto (pc := 39) (t := 4) d129_39 (by decide)) ?_
      exact yL.rf
  ·
    refine yL.eq (y_iload_n (pc := 42) (x := x1) d129_42 rfl) ?_
    exact yL.eq (y_ireti (pc := 43) d129_43 mr_129) yL.rf
set_option maxRecDepth 20000 in
set_option maxHeartbeats 4000000 in
theorem e130 {r : Nat} {a1 : Int32} (hr : yR r) {M : yM} : yL (yX 130 4 [some (.ref r), some (.int a1), some (.int 0), some (.int 0)] [] M 0 0) (yX 130 0 [some (.ref r), some (.int a1), none, none] [] M 0 0) := by
  refine yL.eq (y_iconst (pc := 0) (v := 0) d130_0 kc_0) ?_
  refine yL.eq (y_istore_n (pc := 1) (ls' := [some (.ref r), some (.int a1), some (.int 0), none]) d130_1 rfl rfl) ?_
  refine yL.eq (y_iconst (pc := 2) (v := 0) d130_2 kc_0) ?_
  refine yL.eq (y_istore_n (pc := 3) (ls' := [some (.ref r), some (.int a1), some (.int 0), some (.int 0)]) d130_3 rfl rfl) ?_
  exact yL.rf
set_option maxRecDepth 20000 in
set_option maxHeartbeats 4000000 in
theorem e130_4 {r : Nat} {x1 : Int32} {x2 : Int32} {x3 : Int32} (hr : yR r) {M : yM} : yL (if x3 < (M r 15) then if yinB (72 + x3) 95 = true then yCi false (yX 110 0 [some (.int (M r (yx (72 + x3)))), some (.int x1)] [] M 0 0) fun v4 M3 => if v4 = 0 then yX 130 4 [some (.ref r), some (.int x1), some (.int (x2 ||| 0)), some (.int (x3 + 1))] [] M3 0 0 else yX 130 4 [some (.ref r), some (.int x1), some (.int (x2 ||| ((1 : Int32) <<< (x3 &&& 31)))), some (.int (x3 + 1))] [] M3 0 0 else none else yI x2 M) (yX 130 4 [some (.ref r), some (.int x1), some (.int x2), some (.int x3)] [] M 0 0) := by
  refine yL.eq (y_iload_n (pc := 4) (x := x3) d130_4 rfl) ?_
  refine yL.eq (y_aload_n (pc := 5) (x := r) d130_5 rfl) ?_
  refine yL.eq (y_bipush (pc := 6) (v := 15) d130_6 kb_15) ?_
  refine yL.eq (y_iald (pc := 8) (n := 95) d130_8 (yR_a hr)) ?_
  refine yL.eq (if_pos in_15_95) ?_
  show yL _ (yX 130 9 [some (.ref r), some (.int x1), some (.int x2), some (.int x3)] ([.int (M r 15), .int x3]) M 0 0)
  refine yL.eq (y_icmp_ge (pc := 9) (t := 41) d130_9 (by decide)) ?_
  refine yL.ite (fun h1 => ?_) (fun h1 => ?_)
  ·
    refine yL.eq (y_iload_n (pc := 12) (x := x2) d130_12 rfl) ?_
    refine yL.eq (y_aload_n (pc := 13) (x := r) d130_13 rfl) ?_
    refine yL.eq (y_bipush (pc := 14) (v := 72) d130_14 kb_72) ?_
    refine yL.eq (y_iload_n (pc := 16) (x := x3) d130_16 rfl) ?_
    refine yL.eq (y_iadd (pc := 17) d130_17) ?_
    refine yL.eq (y_iald (pc := 18) (n := 95) d130_18 (yR_a hr)) ?_
    refine yL.gd (fun h2 => ?_)
    refine yL.eq (y_iload_n (pc := 19) (x := x1) d130_19 rfl) ?_
    refine y_calls_i (pc := 20) (n := 2) (n' := 2) (nc' := 0) (ns' := 0) [.int (M r (yx (72 + x3))), .int x1] [.int x2] false d130_20 q130_54 rfl rfl rfl (Nat.le_of_ble_eq_true rfl) (Nat.le_of_ble_eq_true rfl) rfl (by decide +kernel) (by decide +kernel) (fun v4 M3 => ?_)
    refine yL.eq (y_if_eq (pc := 23) (t := 32) d130_23 (by decide)) ?_
    refine yL.ite (fun h5 => ?_) (fun h5 => ?_)
    ·
      refine yL.eq (y_iconst (pc := 32) (v := 0) d130_32 kc_0) ?_
      refine yL.eq (y_ior (pc := 33) d130_33) ?_
      refine yL.eq (y_istore_n (pc := 34) (ls' := [some (.ref r), some (.int x1), some (.int (x2 ||| 0)), some (.int x3)]) d130_34 rfl rfl) ?_
      refine yL.eq (y_iinc (pc := 35) (v := 1) (x := x3) (ls' := [some (.ref r), some (.int x1), some (.int (x2 ||| 0)), some (.int (x3 + 1))]) d130_35 kc_1 rfl (Nat.le_of_ble_eq_true rfl) rfl) ?_
      refine yL.eq (y_goto (pc := 38) (t := 4) d130_38 (by decide)) ?_
      exact yL.rf
    ·
      refine yL.eq (y_iconst (pc := 26) (v := 1) d130_26 kc_1) ?_
      refine yL.eq (y_iload_n (pc := 27) (x := x3) d130_27 rfl) ?_
      refine yL.eq (y_ishl (pc := 28) d130_28) ?_
      refine yL.eq (y_goto (pc := 29) (t := 33) d130_29 (by decide)) ?_
      refine yL.eq (y_ior (pc := 33) d130_33) ?_
      refine yL.eq (y_istore_n (pc := 34) (ls' := [some (.ref r), some (.int x1), some (.int (x2 ||| ((1 : Int32) <<< (x3 &&& 31)))), some (.int x3)]) d130_34 rfl rfl) ?_
      refine yL.eq (y_iinc (pc := 35) (v := 1) (x := x3) (ls' := [some (.ref r), some (.int x1), some (.int (x2 ||| ((1 : Int32) <<< (x3 &&& 31)))), some (.int (x3 + 1))]) d130_35 kc_1 rfl (Nat.le_of_ble_eq_true rfl) rfl) ?_
      refine yL.eq (y_goto (pc := 38) (t := 4) d130_38 (by decide)) ?_
      exact yL.rf
  ·
    refine yL.eq (y_iload_n (pc := 41) (x := x2) d130_41 rfl) ?_
    exact yL.eq (y_ireti (pc := 42) d130_42 mr_130) yL.rf
set_option maxRecDepth 20000 in
set_option maxHeartbeats 4000000 in
theorem e131 {r : Nat} {a1 : Int32} (hr : yR r) {M : yM} : yL (if yinB (72 + a1) 95 = true then yX 131 9 [some (.ref r), some (.int a1), some (.int (M r (yx (72 + a1)))), some (.int 0), none] [] M 0 0 else none) (yX 131 0 [some (.ref r), some (.int a1), none, none, none] [] M 0 0) := by
  refine yL.eq (y_aload_n (pc := 0) (x := r) d131_0 rfl) ?_
  refine yL.eq (y_bipush (pc := 1) (v := 72) d131_1 kb_72) ?_
  refine yL.eq (y_iload_n (pc := 3) (x := a1) d131_3 rfl) ?_
  refine yL.eq (y_iadd (pc := 4) d131_4) ?_
  refine yL.eq (y_iald (pc := 5) (n := 95) d131_5 (yR_a hr)) ?_
  refine yL.gd (fun h1 => ?_)
  refine yL.eq (y_istore_n (pc := 6) (ls' := [some (.ref r), some (.int a1), some (.int (M r (yx (72 + a1)))), none, none]) d131_6 rfl rfl) ?_
  refine yL.eq (y_iconst (pc := 7) (v := 0) d131_7 kc_0) ?_
  refine yL.eq (y_istore_n (pc := 8) (ls' := [some (.ref r), some (.int a1), some (.int (M r (yx (72 + a1)))), some (.int 0), none]) d131_8 rfl rfl) ?_
  exact yL.rf
set_option maxRecDepth 20000 in
set_option maxHeartbeats 4000000 in
theorem e131_9 {r : Nat} {o1 : Option Value} {x2 : Int32} {x3 : Int32} {o4 : Option Value} (hr : yR r) {M : yM} : yL (if x3 < (M r 15) then yX 131 20 [some (.ref r), o1, some (.int x2), some (.int x3), some (.int 0)] [] M 0 0 else yI x2 M) (yX 131 9 [some (.ref r), o1, some (.int x2), some (.int x3), o4] [] M 0 0) := by
  refine yL.eq (y_iload_n (pc := 9) (x := x3) d131_9 rfl) ?_
  refine yL.eq (y_aload_n (pc := 10) (x := r) d131_10 rfl) ?_
  refine yL.eq (y_bipush (pc := 11) (v := 15) d131_11 kb_15) ?_
  refine yL.eq (y_iald (pc := 13) (n := 95) d131_13 (yR_a hr)) ?_
  refine yL.eq (if_pos in_15_95) ?_
  show yL _ (yX 131 14 [some (.ref r), o1, some (.int x2), some (.int x3), o4] ([.int (M r 15), .int x3]) M 0 0)
  refine yL.eq (y_icmp_ge (pc := 14) (t := 64) d131_14 (by decide)) ?_
  refine yL.ite (fun h1 => ?_) (fun h1 => ?_)
  ·
    refine yL.eq (y_iconst (pc := 17) (v := 0) d131_17 kc_0) ?_
    refine yL.eq (y_istore (pc := 18) (ls' := [some (.ref r), o1, some (.int x2), some (.int x3), some (.int 0)]) d131_18 rfl rfl) ?_
    exact yL.rf
  ·
    refine yL.eq (y_iload_n (pc := 64) (x := x2) d131_64 rfl) ?_
    exact yL.eq (y_ireti (pc := 65) d131_65 mr_131) yL.rf
set_option maxRecDepth 20000 in
set_option maxHeartbeats 4000000 in
theorem e131_20 {r : Nat} {o1 : Option Value} {x2 : Int32} {x3 : Int32} {x4 : Int32} (hr : yR r) {M : yM} : yL (if x4 < (M r 15) then yCi false (yX 110 0 [some (.int x2), some (.int x4)] [] M 0 0) fun v3 M2 => if v3 = 0 then yX 131 20 [some (.ref r), (xUn o1), some (.int (x2 ||| 0)), some (.int x3), some (.int (x4 + 1))] [] M2 0 0 else if yinB (72 + x4) 95 = true then yX 131 20 [some (.ref r), (xUn o1), some (.int (x2 ||| (M2 r (yx (72 + x4))))), some (.int x3), some (.int (x4 + 1))] [] M2 0 0 else none else yX 131 9 [some (.ref r), o1, some (.int x2), some (.int (x3 + 1)), some (.int x4)] [] M 0 0) (yX 131 20 [some (.ref r), o1, some (.int x2), some (.int x3), some (.int x4)] [] M 0 0) := by
  refine yL.eq (y_iload (pc := 20) (x := x4) d131_20 rfl) ?_
  refine yL.eq (y_aload_n (pc := 22) (x := r) d131_22 rfl) ?_
  refine yL.eq (y_bipush (pc := 23) (v := 15) d131_23 kb_15) ?_
  refine yL.eq (y_iald (pc := 25) (n := 95) d131_25 (yR_a hr)) ?_
  refine yL.eq (if_pos in_15_95) ?_
  show yL _ (yX 131 26 [some (.ref r), o1, some (.int x2), some (.int x3), some (.int x4)] ([.int (M r 15), .int x4]) M 0 0)
  refine yL.eq (y_icmp_ge (pc := 26) (t := 58) d131_26 (by decide)) ?_
  refine yL.ite (fun h1 => ?_) (fun h1 => ?_)
  ·
    refine yL.eq (y_iload_n (pc := 29) (x := x2) d131_29 rfl) ?_
    refine yL.eq (y_iload_n (pc := 30) (x := x2) d131_30 rfl) ?_
    refine yL.eq (y_iload (pc := 31) (x := x4) d131_31 rfl) ?_
    refine y_calls_i (pc := 33) (n := 2) (n' := 2) (nc' := 0) (ns' := 0) [.int x2, .int x4] [.int x2] false d131_33 q131_54 rfl rfl rfl (Nat.le_of_ble_eq_true rfl) (Nat.le_of_ble_eq_true rfl) rfl (by decide +kernel) (by decide +kernel) (fun v3 M2 => ?_)
    refine yL.eq (y_if_eq (pc := 36) (t := 49) d131_36 (by decide)) ?_
    refine yL.ite (fun h4 => ?_) (fun h4 => ?_)
    ·
      refine yL.eq (y_iconst (pc := 49) (v := 0) d131_49 kc_0) ?_
      refine yL.eq (y_ior (pc := 50) d131_50) ?_
      refine yL.eq (y_istore_n (pc := 51) (ls' := [some (.ref r), (xUn o1), some (.int (x2 ||| 0)), some (.int x3), some (.int x4)]) d131_51 rfl rfl) ?_
      refine yL.eq (y_iinc (pc := 52) (v := 1) (x := x4) (ls' := [some (.ref r), (xUn o1), some (.int (x2 ||| 0)), some (.int x3), some (.int (x4 + 1))]) d131_52 kc_1 rfl (Nat.le_of_ble_eq_true rfl) rfl) ?_
      refine yL.eq (y_goto (pc := 55) (t := 20) d131_55 (by decide)) ?_
      exact yL.rf
    ·
      refine yL.eq (y_aload_n (pc := 39) (x := r) d131_39 rfl) ?_
      refine yL.eq (y_bipush (pc := 40) (v := 72) d131_40 kb_72) ?_
      refine yL.eq (y_iload (pc := 42) (x := x4) d131_42 rfl) ?_
      refine yL.eq (y_iadd (pc := 44) d131_44) ?_
      refine yL.eq (y_iald (pc := 45) (n := 95) d131_45 (yR_a hr)) ?_
      refine yL.gd (fun h5 => ?_)
      refine yL.eq (y_goto (pc := 46) (t := 50) d131_46 (by decide)) ?_
      refine yL.eq (y_ior (pc := 50) d131_50) ?_
      refine yL.eq (y_istore_n (pc := 51) (ls' := [some (.ref r), (xUn o1), some (.int (x2 ||| (M2 r (yx (72 + x4))))), some (.int x3), some (.int x4)]) d131_51 rfl rfl) ?_
      refine yL.eq (y_iinc (pc := 52) (v := 1) (x := x4) (ls' := [some (.ref r), (xUn o1), some (.int (x2 ||| (M2 r (yx (72 + x4))))), some (.int x3), some (.int (x4 + 1))]) d131_52 kc_1 rfl (Nat.le_of_ble_eq_true rfl) rfl) ?_
      refine yL.eq (y_goto (pc := 55) (t := 20) d131_55 (by decide)) ?_
      exact yL.rf
  ·
    refine yL.eq (y_iinc (pc := 58) (v := 1) (x := x3) (ls' := [some (.ref r), o1, some (.int x2), some (.int (x3 + 1)), some (.int x4)]) d131_58 kc_1 rfl (Nat.le_of_ble_eq_true rfl) rfl) ?_
    refine yL.eq (y_goto (pc := 61) (t := 9) d131_61 (by decide)) ?_
    exact yL.rf
set_option maxRecDepth 20000 in
set_option maxHeartbeats 4000000 in
theorem e132 {r : Nat} (hr : yR r) {M : yM} : yL (yX 132 2 [some (.ref 190), some (.ref r), some (.int 0), none, none, none] [] M 0 0) (yX 132 0 [some (.ref 190), some (.ref r), none, none, none, none] [] M 0 0) := by
  refine yL.eq (y_iconst (pc := 0) (v := 0) d132_0 kc_0) ?_
  refine yL.eq (y_istore_n (pc := 1) (ls' := [some (.ref 190), some (.ref r), some (.int 0), none, none, none]) d132_1 rfl rfl) ?_
  exact yL.rf
set_option maxRecDepth 20000 in
set_option maxHeartbeats 4000000 in
theorem e132_2 {r : Nat} {x2 : Int32} {o3 : Option Value} {o4 : Option Value} {o5 : Option Value} (hr : yR r) {M : yM} : yL (if x2 < (M r 15) then if yinB x2 14 = true then yLet (yU M 200 (yx x2) 0) fun M2 => yX 132 2 [some (.ref 190), some (.ref r), some (.int (x2 + 1)), o3, o4, o5] [] M2 0 0 else none else yX 132 25 [some (.ref 190), some (.ref r), some (.int 0), o3, o4, o5] [] M 0 0) (yX 132 2 [some (.ref 190), some (.ref r), some (.int x2), o3, o4, o5] [] M 0 0) := by
  refine yL.eq (y_iload_n (pc := 2) (x := x2) d132_2 rfl) ?_
  refine yL.eq (y_aload_n (pc := 3) (x := r) d132_3 rfl) ?_
  refine yL.eq (y_bipush (pc := 4) (v := 15) d132_4 kb_15) ?_
  refine yL.eq (y_iald (pc := 6) (n := 95) d132_6 (yR_a hr)) ?_
  refine yL.eq (if_pos in_15_95) ?_
  show yL _ (yX 132 7 [some (.ref 190), some (.ref r), some (.int x2), o3, o4, o5] ([.int (M r 15), .int x2]) M 0 0)
  refine yL.eq (y_icmp_ge (pc := 7) (t := 23) d132_7 (by decide)) ?_
  refine yL.ite (fun h1 => ?_) (fun h1 => ?_)
  ·
    refine yL.eq (y_aload_n (pc := 10) (x := 190) d132_10 rfl) ?_
    refine yL.eq (y_getr (pc := 11) (r := 200) d132_11 q132_38 s_r_190_12) ?_
    refine yL.eq (y_iload_n (pc := 14) (x := x2) d132_14 rfl) ?_
    refine yL.eq (y_iconst (pc := 15) (v := 0) d132_15 kc_0) ?_
    refine y_iastL (pc := 16) (n := 14) d132_16 s_a_200 (fun h3 M2 => ?_)
    refine yL.eq (y_iinc (pc := 17) (v := 1) (x := x2) (ls' := [some (.ref 190), some (.ref r), some (.int (x2 + 1)), o3, o4, o5]) d132_17 kc_1 rfl (Nat.le_of_ble_eq_true rfl) rfl) ?_
    refine yL.eq (y_goto (pc := 20) (t := 2) d132_20 (by decide)) ?_
    exact yL.rf
  ·
    refine yL.eq (y_iconst (pc := 23) (v := 0) d132_23 kc_0) ?_
    refine yL.eq (y_istore_n (pc := 24) (ls' := [some (.ref 190), some (.ref r), some (.int 0), o3, o4, o5]) d132_24 rfl rfl) ?_
    exact yL.rf
set_option maxRecDepth 20000 in
set_option maxHeartbeats 4000000 in
theorem e132_25 {r : Nat} {x2 : Int32} {o3 : Option Value} {o4 : Option Value} {o5 : Option Value} (hr : yR r) {M : yM} : yL (if x2 < (M r 15) then yX 132 35 [some (.ref 190), some (.ref r), some (.int x2), some (.int 0), o4, o5] [] M 0 0 else yV M) (yX 132 25 [some (.ref 190), some (.ref r), some (.int x2), o3, o4, o5] [] M 0 0) := by
  refine yL.eq (y_iload_n (pc := 25) (x := x2) d132_25 rfl) ?_
  refine yL.eq (y_aload_n (pc := 26) (x := r) d132_26 rfl) ?_
  refine yL.eq (y_bipush (pc := 27) (v := 15) d132_27 kb_15) ?_
  refine yL.eq (y_iald (pc := 29) (n := 95) d132_29 (yR_a hr)) ?_
  refine yL.eq (if_pos in_15_95) ?_
  show yL _ (yX 132 30 [some (.ref 190), some (.ref r), some (.int x2), o3, o4, o5] ([.int (M r 15), .int x2]) M 0 0)
  refine yL.eq (y_icmp_ge (pc := 30) (t := 131) d132_30 (by decide)) ?_
  refine yL.ite (fun h1 => ?_) (fun h1 => ?_)
  ·
    refine yL.eq (y_iconst (pc := 33) (v := 0) d132_33 kc_0) ?_
    refine yL.eq (y_istore_n (pc := 34) (ls' := [some (.ref 190), some (.ref r), some (.int x2), some (.int 0), o4, o5]) d132_34 rfl rfl) ?_
    exact yL.rf
  ·
    exact yL.eq (y_ret (pc := 131) d132_131 mr_132) yL.rf
set_option maxRecDepth 20000 in
set_option maxHeartbeats 4000000 in
theorem e132_35 {r : Nat} {x2 : Int32} {x3 : Int32} {o4 : Option Value} {o5 : Option Value} (hr : yR r) {M : yM} : yL (if x3 < (M r 15) then yX 132 49 [some (.ref 190), some (.ref r), some (.int x2), some (.int x3), some (.int 0), some (.int 0)] [] M 0 0 else yX 132 25 [some (.ref 190), some (.ref r), some (.int (x2 + 1)), some (.int x3), o4, o5] [] M 0 0) (yX 132 35 [some (.ref 190), some (.ref r), some (.int x2), some (.int x3), o4, o5] [] M 0 0) := by
  refine yL.eq (y_iload_n (pc := 35) (x := x3) d132_35 rfl) ?_
  refine yL.eq (y_aload_n (pc := 36) (x := r) d132_36 rfl) ?_
  refine yL.eq (y_bipush (pc := 37) (v := 15) d132_37 kb_15) ?_
  refine yL.eq (y_iald (pc := 39) (n := 95) d132_39 (yR_a hr)) ?_
  refine yL.eq (if_pos in_15_95) ?_
  show yL _ (yX 132 40 [some (.ref 190), some (.ref r), some (.int x2), some (.int x3), o4, o5] ([.int (M r 15), .int x3]) M 0 0)
  refine yL.eq (y_icmp_ge (pc := 40) (t := 125) d132_40 (by decide)) ?_
  refine yL.ite (fun h1 => ?_) (fun h1 => ?_)
  ·
    refine yL.eq (y_iconst (pc := 43) (v := 0) d132_43 kc_0) ?_
    refine yL.eq (y_istore (pc := 44) (ls' := [some (.ref 190), some (.ref r), some (.int x2), some (.int x3), some (.int 0), o5]) d132_44 rfl rfl) ?_
    refine yL.eq (y_iconst (pc := 46) (v := 0) d132_46 kc_0) ?_
    refine yL.eq (y_istore (pc := 47) (ls' := [some (.ref 190), some (.ref r), some (.int x2), some (.int x3), some (.int 0), some (.int 0)]) d132_47 rfl rfl) ?_
    exact yL.rf
  ·
    refine yL.eq (y_iinc (pc := 125) (v := 1) (x := x2) (ls' := [some (.ref 190), some (.ref r), some (.int (x2 + 1)), some (.int x3), o4, o5]) d132_125 kc_1 rfl (Nat.le_of_ble_eq_true rfl) rfl) ?_
    refine yL.eq (y_goto (pc := 128) (t := 25) d132_128 (by decide)) ?_
    exact yL.rf
set_option maxRecDepth 20000 in
set_option maxHeartbeats 4000000 in
theorem e132_49 {r : Nat} {x2 : Int32} {x3 : Int32} {x4 : Int32} {x5 : Int32} (hr : yR r) {M : yM} : yL (if x5 < (M r 15) then if yinB (72 + x5) 95 = true then yCi false (yX 110 0 [some (.int (M r (yx (72 + x5)))), some (.int x3)] [] M 0 0) fun v4 M3 => if v4 = 0 then yX 132 49 [some (.ref 190), some (.ref r), some (.int x2), some (.int x3), some (.int x4), some (.int (x5 + 1))] [] M3 0 0 else if yinB x5 14 = true then if (M3 200 (yx x5)) ≤ x4 then yX 132 49 [some (.ref 190), some (.ref r), some (.int x2), some (.int x3), some (.int x4), some (.int (x5 + 1))] [] M3 0 0 else if yinB x5 14 = true then yX 132 49 [some (.ref 190), some (.ref r), some (.int x2), some (.int x3), some (.int (M3 200 (yx x5))), some (.int (x5 + 1))] [] M3 0 0 else none else none else none else if yinB (16 + x3) 95 = true then if yinB x3 14 = true then yLet (yU M 200 (yx x3) ((M r (yx (16 + x3))) + x4)) fun M10 => yX 132 35 [some (.ref 190), some (.ref r), some (.int x2), some (.int (x3 + 1)), some (.int x4), some (.int x5)] [] M10 0 0 else none else none) (yX 132 49 [some (.ref 190), some (.ref r), some (.int x2), some (.int x3), some (.int x4), some (.int x5)] [] M 0 0) := by
  refine yL.eq (y_iload (pc := 49) (x := x5) d132_49 rfl) ?_
  refine yL.eq (y_aload_n (pc := 51) (x := r) d132_51 rfl) ?_
  refine yL.eq (y_bipush (pc := 52) (v := 15) d132_52 kb_15) ?_
  refine yL.eq (y_iald (pc := 54) (n := 95) d132_54 (yR_a hr)) ?_
  refine yL.eq (if_pos in_15_95) ?_
  show yL _ (yX 132 55 [some (.ref 190), some (.ref r), some (.int x2), some (.int x3), some (.int x4), some (.int x5)] ([.int (M r 15), .int x5]) M 0 0)
  refine yL.eq (y_icmp_ge (pc := 55) (t := 104) d132_55 (by decide)) ?_
  refine yL.ite (fun h1 => ?_) (fun h1 => ?_)
  ·
    refine yL.eq (y_aload_n (pc := 58) (x := r) d132_58 rfl) ?_
    refine yL.eq (y_bipush (pc := 59) (v := 72) d132_59 kb_72) ?_
    refine yL.eq (y_iload (pc := 61) (x := x5) d132_61 rfl) ?_
    refine yL.eq (y_iadd (pc := 63) d132_63) ?_
    refine yL.eq (y_iald (pc := 64) (n := 95) d132_64 (yR_a hr)) ?_
    refine yL.gd (fun h2 => ?_)
    refine yL.eq (y_iload_n (pc := 65) (x := x3) d132_65 rfl) ?_
    refine y_calls_i (pc := 66) (n := 2) (n' := 2) (nc' := 0) (ns' := 0) [.int (M r (yx (72 + x5))), .int x3] [] false d132_66 q132_54 rfl rfl rfl (Nat.le_of_ble_eq_true rfl) (Nat.le_of_ble_eq_true rfl) rfl (by decide +kernel) (by decide +kernel) (fun v4 M3 => ?_)
    refine yL.eq (y_if_eq (pc := 69) (t := 94) d132_69 (by decide)) ?_
    refine yL.ite (fun h5 => ?_) (fun h5 => ?_)
    ·
      refine yL.eq (y_iload (pc := 94) (x := x4) d132_94 rfl) ?_
      refine yL.eq (y_istore (pc := 96) (ls' := [some (.ref 190), some (.ref r), some (.int x2), some (.int x3), some (.int x4), some (.int x5)]) d132_96 rfl rfl) ?_
      refine yL.eq (y_iinc (pc := 98) (v := 1) (x := x5) (ls' := [some (.ref 190), some (.ref r), some (.int x2), some (.int x3), some (.int x4), some (.int (x5 + 1))]) d132_98 kc_1 rfl (Nat.le_of_ble_eq_true rfl) rfl) ?_
      refine yL.eq (y_goto (pc := 101) (t := 49) d132_101 (by decide)) ?_
      exact yL.rf
    ·
      refine yL.eq (y_aload_n (pc := 72) (x := 190) d132_72 rfl) ?_
      refine yL.eq (y_getr (pc := 73) (r := 200) d132_73 q132_38 s_r_190_12) ?_
      refine yL.eq (y_iload (pc := 76) (x := x5) d132_76 rfl) ?_
      refine yL.eq (y_iald (pc := 78) (n := 14) d132_78 s_a_200) ?_
      refine yL.gd (fun h6 => ?_)
      refine yL.eq (y_iload (pc := 79) (x := x4) d132_79 rfl) ?_
      refine yL.eq (y_icmp_le (pc := 81) (t := 94) d132_81 (by decide)) ?_
      refine yL.ite (fun h7 => ?_) (fun h7 => ?_)
      ·
        refine yL.eq (y_iload (pc := 94) (x := x4) d132_94 rfl) ?_
        refine yL.eq (y_istore (pc := 96) (ls' := [some (.ref 190), some (.ref r), some (.int x2), some (.int x3), some (.int x4), some (.int x5)]) d132_96 rfl rfl) ?_
        refine yL.eq (y_iinc (pc := 98) (v := 1) (x := x5) (ls' := [some (.ref 190), some (.ref r), some (.int x2), some (.int x3), some (.int x4), some (.int (x5 + 1))]) d132_98 kc_1 rfl (Nat.le_of_ble_eq_true rfl) rfl) ?_
        refine yL.eq (y_goto (pc := 101) (t := 49) d132_101 (by decide)) ?_
        exact yL.rf
      ·
        refine yL.eq (y_aload_n (pc := 84) (x := 190) d132_84 rfl) ?_
        refine yL.eq (y_getr (pc := 85) (r := 200) d132_85 q132_38 s_r_190_12) ?_
        refine yL.eq (y_iload (pc := 88) (x := x5) d132_88 rfl) ?_
        refine yL.eq (y_iald (pc := 90) (n := 14) d132_90 s_a_200) ?_
        refine yL.gd (fun h8 => ?_)
        refine yL.eq (y_goto (pc := 91) (t := 96) d132_91 (by decide)) ?_
        refine yL.eq (y_istore (pc := 96) (ls' := [some (.ref 190), some (.ref r), some (.int x2), some (.int x3), some (.int (M3 200 (yx x5))), some (.int x5)]) d132_96 rfl rfl) ?_
        refine yL.eq (y_iinc (pc := 98) (v := 1) (x := x5) (ls' := [some (.ref 190), some (.ref r), some (.int x2), some (.int x3), some (.int (M3 200 (yx x5))), some (.int (x5 + 1))]) d132_98 kc_1 rfl (Nat.le_of_ble_eq_true rfl) rfl) ?_
        refine yL.eq (y_goto (pc := 101) (t := 49) d132_101 (by decide)) ?_
        exact yL.rf
  ·
    refine yL.eq (y_aload_n (pc := 104) (x := 190) d132_104 rfl) ?_
    refine yL.eq (y_getr (pc := 105) (r := 200) d132_105 q132_38 s_r_190_12) ?_
    refine yL.eq (y_iload_n (pc := 108) (x := x3) d132_108 rfl) ?_
    refine yL.eq (y_aload_n (pc := 109) (x := r) d132_109 rfl) ?_
    refine yL.eq (y_bipush (pc := 110) (v := 16) d132_110 kb_16) ?_
    refine yL.eq (y_iload_n (pc := 112) (x := x3) d132_112 rfl) ?_
    refine yL.eq (y_iadd (pc := 113) d132_113) ?_
    refine yL.eq (y_iald (pc := 114) (n := 95) d132_114 (yR_a hr)) ?_
    refine yL.gd (fun h9 => ?_)
    refine yL.eq (y_iload (pc := 115) (x := x4) d132_115 rfl) ?_
    refine yL.eq (y_iadd (pc := 117) d132_117) ?_
    refine y_iastL (pc := 118) (n := 14) d132_118 s_a_200 (fun h11 M10 => ?_)
    refine yL.eq (y_iinc (pc := 119) (v := 1) (x := x3) (ls' := [some (.ref 190), some (.ref r), some (.int x2), some (.int (x3 + 1)), some (.int x4), some (.int x5)]) d132_119 kc_1 rfl (Nat.le_of_ble_eq_true rfl) rfl) ?_
    refine yL.eq (y_goto (pc := 122) (t := 35) d132_122 (by decide)) ?_
    exact yL.rf
set_option maxRecDepth 20000 in
set_option maxHeartbeats 4000000 in
theorem e133 {r : Nat} (hr : yR r) {M : yM} : yL (yCv false (yX 132 0 [some (.ref 190), some (.ref r), none, none, none, none] [] M 0 0) fun M1 => yX 133 9 [some (.ref 190), some (.ref r), some (.int 0), some (.int 0)] [] M1 0 0) (yX 133 0 [some (.ref 190), some (.ref r), none, none] [] M 0 0) := by
  refine yL.eq (y_aload_n (pc := 0) (x := 190) d133_0 rfl) ?_
  refine yL.eq (y_aload_n (pc := 1) (x := r) d133_1 rfl) ?_
  refine y_callv_v (pc := 2) (n := 2) (n' := 6) (nc' := 0) (ns' := 0) [.ref r] [] false d133_2 q133_98 mk_132 s_t_190 rfl rfl (Nat.le_of_ble_eq_true rfl) (Nat.le_of_ble_eq_true rfl) rfl (by decide +kernel) (by decide +kernel) (fun M1 => ?_)
  refine yL.eq (y_iconst (pc := 5) (v := 0) d133_5 kc_0) ?_
  refine yL.eq (y_istore_n (pc := 6) (ls' := [some (.ref 190), some (.ref r), some (.int 0), none]) d133_6 rfl rfl) ?_
  refine yL.eq (y_iconst (pc := 7) (v := 0) d133_7 kc_0) ?_
  refine yL.eq (y_istore_n (pc := 8) (ls' := [some (.ref 190), some (.ref r), some (.int 0), some (.int 0)]) d133_8 rfl rfl) ?_
  exact yL.rf
set_option maxRecDepth 20000 in
set_option maxHeartbeats 4000000 in
theorem e133_9 {r : Nat} {x2 : Int32} {x3 : Int32} (hr : yR r) {M : yM} : yL (if x3 < (M r 15) then if yinB x3 14 = true then if (M 200 (yx x3)) ≤ x2 then yX 133 9 [some (.ref 190), some (.ref r), some (.int x2), some (.int (x3 + 1))] [] M 0 0 else if yinB x3 14 = true then yX 133 9 [some (.ref 190), some (.ref r), some (.int (M 200 (yx x3))), some (.int (x3 + 1))] [] M 0 0 else none else none else yI x2 M) (yX 133 9 [some (.ref 190), some (.ref r), some (.int x2), some (.int x3)] [] M 0 0) := by
  refine yL.eq (y_iload_n (pc := 9) (x := x3) d133_9 rfl) ?_
  refine yL.eq (y_aload_n (pc := 10) (x := r) d133_10 rfl) ?_
  refine yL.eq (y_bipush (pc := 11) (v := 15) d133_11 kb_15) ?_
  refine yL.eq (y_iald (pc := 13) (n := 95) d133_13 (yR_a hr)) ?_
  refine yL.eq (if_pos in_15_95) ?_
  show yL _ (yX 133 14 [some (.ref 190), some (.ref r), some (.int x2), some (.int x3)] ([.int (M r 15), .int x3]) M 0 0)
  refine yL.eq (y_icmp_ge (pc := 14) (t := 44) d133_14 (by decide)) ?_
  refine yL.ite (fun h1 => ?_) (fun h1 => ?_)
  ·
    refine yL.eq (y_aload_n (pc := 17) (x := 190) d133_17 rfl) ?_
    refine yL.eq (y_getr (pc := 18) (r := 200) d133_18 q133_38 s_r_190_12) ?_
    refine yL.eq (y_iload_n (pc := 21) (x := x3) d133_21 rfl) ?_
    refine yL.eq (y_iald (pc := 22) (n := 14) d133_22 s_a_200) ?_
    refine yL.gd (fun h2 => ?_)
    refine yL.eq (y_iload_n (pc := 23) (x := x2) d133_23 rfl) ?_
    refine yL.eq (y_icmp_le (pc := 24) (t := 36) d133_24 (by decide)) ?_
    refine yL.ite (fun h3 => ?_) (fun h3 => ?_)
    ·
      refine yL.eq (y_iload_n (pc := 36) (x := x2) d133_36 rfl) ?_
      refine yL.eq (y_istore_n (pc := 37) (ls' := [some (.ref 190), some (.ref r), some (.int x2), some (.int x3)]) d133_37 rfl rfl) ?_
      refine yL.eq (y_iinc (pc := 38) (v := 1) (x := x3) (ls' := [some (.ref 190), some (.ref r), some (.int x2), some (.int (x3 + 1))]) d133_38 kc_1 rfl (Nat.le_of_ble_eq_true rfl) rfl) ?_
      refine yL.eq (y_goto (pc := 41) (t := 9) d133_41 (by decide)) ?_
      exact yL.rf
    ·
      refine yL.eq (y_aload_n (pc := 27) (x := 190) d133_27 rfl) ?_
      refine yL.eq (y_getr (pc := 28) (r := 200) d133_28 q133_38 s_r_190_12) ?_
      refine yL.eq (y_iload_n (pc := 31) (x := x3) d133_31 rfl) ?_
      refine yL.eq (y_iald (pc := 32) (n := 14) d133_32 s_a_200) ?_
      refine yL.gd (fun h4 => ?_)
      refine yL.eq (y_goto (pc := 33) (t := 37) d133_33 (by decide)) ?_
      refine yL.eq (y_istore_n (pc := 37) (ls' := [some (.ref 190), some (.ref r), some (.int (M 200 (yx x3))), some (.int x3)]) d133_37 rfl rfl) ?_
      refine yL.eq (y_iinc (pc := 38) (v := 1) (x := x3) (ls' := [some (.ref 190), some (.ref r), some (.int (M 200 (yx x3))), some (.int (x3 + 1))]) d133_38 kc_1 rfl (Nat.le_of_ble_eq_true rfl) rfl) ?_
      refine yL.eq (y_goto (pc := 41) (t := 9) d133_41 (by decide)) ?_
      exact yL.rf
  ·
    refine yL.eq (y_iload_n (pc := 44) (x := x2) d133_44 rfl) ?_
    exact yL.eq (y_ireti (pc := 45) d133_45 mr_133) yL.rf
set_option maxRecDepth 20000 in
set_option maxHeartbeats 4000000 in
theorem e134 {a1 : Int32} {a2 : Int32} {M : yM} : yL (if yinB a1 14 = true then if (M 197 (yx a1)) = (-1) then yI 0 M else if yinB a1 14 = true then if (M 197 (yx a1)) ≤ a2 then if yinB a1 14 = true then if a2 < (M 198 (yx a1)) then yI 1 M else yI 0 M else none else yI 0 M else none else none) (yX 134 0 [some (.ref 190), some (.int a1), some (.int a2)] [] M 0 0) := by
  refine yL.eq (y_aload_n (pc := 0) (x := 190) d134_0 rfl) ?_
  refine yL.eq (y_getr (pc := 1) (r := 197) d134_1 q134_29 s_r_190_8) ?_
  refine yL.eq (y_iload_n (pc := 4) (x := a1) d134_4 rfl) ?_
  refine yL.eq (y_iald (pc := 5) (n := 14) d134_5 s_a_197) ?_
  refine yL.gd (fun h1 => ?_)
  refine yL.eq (y_iconst (pc := 6) (v := (-1)) d134_6 kc_m1) ?_
  refine yL.eq (y_icmp_eq (pc := 7) (t := 34) d134_7 (by decide)) ?_
  refine yL.ite (fun h2 => ?_) (fun h2 => ?_)
  ·
    refine yL.eq (y_iconst (pc := 34) (v := 0) d134_34 kc_0) ?_
    exact yL.eq (y_iretz (pc := 35) d134_35 mr_134) (yL.eq yZ_0 yL.rf)
  ·
    refine yL.eq (y_aload_n (pc := 10) (x := 190) d134_10 rfl) ?_
    refine yL.eq (y_getr (pc := 11) (r := 197) d134_11 q134_29 s_r_190_8) ?_
    refine yL.eq (y_iload_n (pc := 14) (x := a1) d134_14 rfl) ?_
    refine yL.eq (y_iald (pc := 15) (n := 14) d134_15 s_a_197) ?_
    refine yL.gd (fun h3 => ?_)
    refine yL.eq (y_iload_n (pc := 16) (x := a2) d134_16 rfl) ?_
    refine yL.eq (y_icmp_gt (pc := 17) (t := 34) d134_17 (by decide)) ?_
    refine yL.ite (fun h4 => ?_) (fun h4 => ?_)
    ·
      refine yL.eq (y_iload_n (pc := 20) (x := a2) d134_20 rfl) ?_
      refine yL.eq (y_aload_n (pc := 21) (x := 190) d134_21 rfl) ?_
      refine yL.eq (y_getr (pc := 22) (r := 198) d134_22 q134_32 s_r_190_9) ?_
      refine yL.eq (y_iload_n (pc := 25) (x := a1) d134_25 rfl) ?_
      refine yL.eq (y_iald (pc := 26) (n := 14) d134_26 s_a_198) ?_
      refine yL.gd (fun h5 => ?_)
      refine yL.eq (y_icmp_ge (pc := 27) (t := 34) d134_27 (by decide)) ?_
      refine yL.ite (fun h6 => ?_) (fun h6 => ?_)
      ·
        refine yL.eq (y_iconst (pc := 30) (v := 1) d134_30 kc_1) ?_
        refine yL.eq (y_goto (pc := 31) (t := 35) d134_31 (by decide)) ?_
        exact yL.eq (y_iretz (pc := 35) d134_35 mr_134) (yL.eq yZ_1 yL.rf)
      ·
        refine yL.eq (y_iconst (pc := 34) (v := 0) d134_34 kc_0) ?_
        exact yL.eq (y_iretz (pc := 35) d134_35 mr_134) (yL.eq yZ_0 yL.rf)
    ·
      refine yL.eq (y_iconst (pc := 34) (v := 0) d134_34 kc_0) ?_
      exact yL.eq (y_iretz (pc := 35) d134_35 mr_134) (yL.eq yZ_0 yL.rf)
set_option maxRecDepth 20000 in
set_option maxHeartbeats 4000000 in
theorem e135 {r : Nat} {a2 : Int32} (hr : yR r) {M : yM} : yL (yX 135 5 [some (.ref 190), some (.ref r), some (.int a2), some (.int 0), some (.int 0)] [] M 0 0) (yX 135 0 [some (.ref 190), some (.ref r), some (.int a2), none, none] [] M 0 0) := by
  refine yL.eq (y_iconst (pc := 0) (v := 0) d135_0 kc_0) ?_
  refine yL.eq (y_istore_n (pc := 1) (ls' := [some (.ref 190), some (.ref r), some (.int a2), some (.int 0), none]) d135_1 rfl rfl) ?_
  refine yL.eq (y_iconst (pc := 2) (v := 0) d135_2 kc_0) ?_
  refine yL.eq (y_istore (pc := 3) (ls' := [some (.ref 190), some (.ref r), some (.int a2), some (.int 0), some (.int 0)]) d135_3 rfl rfl) ?_
  exact yL.rf
set_option maxRecDepth 20000 in
set_option maxHeartbeats 4000000 in
theorem e135_5 {r : Nat} {x2 : Int32} {x3 : Int32} {x4 : Int32} (hr : yR r) {M : yM} : yL (if x4 < (M r 15) then if yinB (44 + x4) 95 = true then if (M r (yx (44 + x4))) = 1 then yCi false (yX 134 0 [some (.ref 190), some (.int x4), some (.int x2)] [] M 0 0) fun v5 M4 => if v5 = 0 then yX 135 5 [some (.ref 190), some (.ref r), some (.int x2), some (.int (x3 + 0)), some (.int (x4 + 1))] [] M4 0 0 else yX 135 5 [some (.ref 190), some (.ref r), some (.int x2), some (.int (x3 + 1)), some (.int (x4 + 1))] [] M4 0 0 else yX 135 5 [some (.ref 190), some (.ref r), some (.int x2), some (.int (x3 + 0)), some (.int (x4 + 1))] [] M 0 0 else none else yI x3 M) (yX 135 5 [some (.ref 190), some (.ref r), some (.int x2), some (.int x3), some (.int x4)] [] M 0 0) := by
  refine yL.eq (y_iload (pc := 5) (x := x4) d135_5 rfl) ?_
  refine yL.eq (y_aload_n (pc := 7) (x := r) d135_7 rfl) ?_
  refine yL.eq (y_bipush (pc := 8) (v := 15) d135_8 kb_15) ?_
  refine yL.eq (y_iald (pc := 10) (n := 95) d135_10 (yR_a hr)) ?_
  refine yL.eq (if_pos in_15_95) ?_
  show yL _ (yX 135 11 [some (.ref 190), some (.ref r), some (.int x2), some (.int x3), some (.int x4)] ([.int (M r 15), .int x4]) M 0 0)
  refine yL.eq (y_icmp_ge (pc := 11) (t := 49) d135_11 (by decide)) ?_
  refine yL.ite (fun h1 => ?_) (fun h1 => ?_)
  ·
    refine yL.eq (y_iload_n (pc := 14) (x := x3) d135_14 rfl) ?_
    refine yL.eq (y_aload_n (pc := 15) (x := r) d135_15 rfl) ?_
    refine yL.eq (y_bipush (pc := 16) (v := 44) d135_16 kb_44) ?_
    refine yL.eq (y_iload (pc := 18) (x := x4) d135_18 rfl) ?_
    refine yL.eq (y_iadd (pc := 20) d135_20) ?_
    refine yL.eq (y_iald (pc := 21) (n := 95) d135_21 (yR_a hr)) ?_
    refine yL.gd (fun h2 => ?_)
    refine yL.eq (y_iconst (pc := 22) (v := 1) d135_22 kc_1) ?_
    refine yL.eq (y_icmp_ne (pc := 23) (t := 40) d135_23 (by decide)) ?_
    refine yL.ite (fun h3 => ?_) (fun h3 => ?_)
    ·
      refine yL.eq (y_aload_n (pc := 26) (x := 190) d135_26 rfl) ?_
      refine yL.eq (y_iload (pc := 27) (x := x4) d135_27 rfl) ?_
      refine yL.eq (y_iload_n (pc := 29) (x := x2) d135_29 rfl) ?_
      refine y_callv_i (pc := 30) (n := 3) (n' := 3) (nc' := 0) (ns' := 0) [.int x4, .int x2] [.int x3] false d135_30 q135_101 mk_134 s_t_190 rfl rfl (Nat.le_of_ble_eq_true rfl) (Nat.le_of_ble_eq_true rfl) rfl (by decide +kernel) (by decide +kernel) (fun v5 M4 => ?_)
      refine yL.eq (y_if_eq (pc := 33) (t := 40) d135_33 (by decide)) ?_
      refine yL.ite (fun h6 => ?_) (fun h6 => ?_)
      ·
        refine yL.eq (y_iconst (pc := 40) (v := 0) d135_40 kc_0) ?_
        refine yL.eq (y_iadd (pc := 41) d135_41) ?_
        refine yL.eq (y_istore_n (pc := 42) (ls' := [some (.ref 190), some (.ref r), some (.int x2), some (.int (x3 + 0)), some (.int x4)]) d135_42 rfl rfl) ?_
        refine yL.eq (y_iinc (pc := 43) (v := 1) (x := x4) (ls' := [some (.ref 190), some (.ref r), some (.int x2), some (.int (x3 + 0)), some (.int (x4 + 1))]) d135_43 kc_1 rfl (Nat.le_of_ble_eq_true rfl) rfl) ?_
        refine yL.eq (y_goto (pc := 46) (t := 5) d135_46 (by decide)) ?_
        exact yL.rf
      ·
        refine yL.eq (y_iconst (pc := 36) (v := 1) d135_36 kc_1) ?_
        refine yL.eq (y_goto (pc := 37) (t := 41) d135_37 (by decide)) ?_
        refine yL.eq (y_iadd (pc := 41) d135_41) ?_
        refine yL.eq (y_istore_n (pc := 42) (ls' := [some (.ref 190), some (.ref r), some (.int x2), some (.int (x3 + 1)), some (.int x4)]) d135_42 rfl rfl) ?_
        refine yL.eq (y_iinc (pc := 43) (v := 1) (x := x4) (ls' := [some (.ref 190), some (.ref r), some (.int x2), some (.int (x3 + 1)), some (.int (x4 + 1))]) d135_43 kc_1 rfl (Nat.le_of_ble_eq_true rfl) rfl) ?_
        refine yL.eq (y_goto (pc := 46) (t := 5) d135_46 (by decide)) ?_
        exact yL.rf
    ·
      refine yL.eq (y_iconst (pc := 40) (v := 0) d135_40 kc_0) ?_
      refine yL.eq (y_iadd (pc := 41) d135_41) ?_
      refine yL.eq (y_istore_n (pc := 42) (ls' := [some (.ref 190), some (.ref r), some (.int x2), some (.int (x3 + 0)), some (.int x4)]) d135_42 rfl rfl) ?_
      refine yL.eq (y_iinc (pc := 43) (v := 1) (x := x4) (ls' := [some (.ref 190), some (.ref r), some (.int x2), some (.int (x3 + 0)), some (.int (x4 + 1))]) d135_43 kc_1 rfl (Nat.le_of_ble_eq_true rfl) rfl) ?_
      refine yL.eq (y_goto (pc := 46) (t := 5) d135_46 (by decide)) ?_
      exact yL.rf
  ·
    refine yL.eq (y_iload_n (pc := 49) (x := x3) d135_49 rfl) ?_
    exact yL.eq (y_ireti (pc := 50) d135_50 mr_135) yL.rf
set_option maxRecDepth 20000 in
set_option maxHeartbeats 4000000 in
theorem e136 {r : Nat} {a2 : Int32} {a3 : Int32} (hr : yR r) {M : yM} : yL (yX 136 6 [some (.ref 190), some (.ref r), some (.int a2), some (.int a3), some (.int 0), some (.int 0)] [] M 0 0) (yX 136 0 [some (.ref 190), some (.ref r), some (.int a2), some (.int a3), none, none] [] M 0 0) := by
  refine yL.eq (y_iconst (pc := 0) (v := 0) d136_0 kc_0) ?_
  refine yL.eq (y_istore (pc := 1) (ls' := [some (.ref 190), some (.ref r), some (.int a2), some (.int a3), some (.int 0), none]) d136_1 rfl rfl) ?_
  refine yL.eq (y_iconst (pc := 3) (v := 0) d136_3 kc_0) ?_
  refine yL.eq (y_istore (pc := 4) (ls' := [some (.ref 190), some (.ref r), some (.int a2), some (.int a3), some (.int 0), some (.int 0)]) d136_4 rfl rfl) ?_
  exact yL.rf
set_option maxRecDepth 20000 in
set_option maxHeartbeats 4000000 in
theorem e136_6 {r : Nat} {x2 : Int32} {x3 : Int32} {x4 : Int32} {x5 : Int32} (hr : yR r) {M : yM} : yL (if x5 < (M r 15) then if yinB (30 + x5) 95 = true then if (M r (yx (30 + x5))) = x2 then yCi false (yX 134 0 [some (.ref 190), some (.int x5), some (.int x3)] [] M 0 0) fun v5 M4 => if v5 = 0 then yX 136 6 [some (.ref 190), some (.ref r), some (.int x2), some (.int x3), some (.int (x4 + 0)), some (.int (x5 + 1))] [] M4 0 0 else yX 136 6 [some (.ref 190), some (.ref r), some (.int x2), some (.int x3), some (.int (x4 + 1)), some (.int (x5 + 1))] [] M4 0 0 else yX 136 6 [some (.ref 190), some (.ref r), some (.int x2), some (.int x3), some (.int (x4 + 0)), some (.int (x5 + 1))] [] M 0 0 else none else yI x4 M) (yX 136 6 [some (.ref 190), some (.ref r), some (.int x2), some (.int x3), some (.int x4), some (.int x5)] [] M 0 0) := by
  refine yL.eq (y_iload (pc := 6) (x := x5) d136_6 rfl) ?_
  refine yL.eq (y_aload_n (pc := 8) (x := r) d136_8 rfl) ?_
  refine yL.eq (y_bipush (pc := 9) (v := 15) d136_9 kb_15) ?_
  refine yL.eq (y_iald (pc := 11) (n := 95) d136_11 (yR_a hr)) ?_
  refine yL.eq (if_pos in_15_95) ?_
  show yL _ (yX 136 12 [some (.ref 190), some (.ref r), some (.int x2), some (.int x3), some (.int x4), some (.int x5)] ([.int (M r 15), .int x5]) M 0 0)
  refine yL.eq (y_icmp_ge (pc := 12) (t := 52) d136_12 (by decide)) ?_
  refine yL.ite (fun h1 => ?_) (fun h1 => ?_)
  ·
    refine yL.eq (y_iload (pc := 15) (x := x4) d136_15 rfl) ?_
    refine yL.eq (y_aload_n (pc := 17) (x := r) d136_17 rfl) ?_
    refine yL.eq (y_bipush (pc := 18) (v := 30) d136_18 kb_30) ?_
    refine yL.eq (y_iload (pc := 20) (x := x5) d136_20 rfl) ?_
    refine yL.eq (y_iadd (pc := 22) d136_22) ?_
    refine yL.eq (y_iald (pc := 23) (n := 95) d136_23 (yR_a hr)) ?_
    refine yL.gd (fun h2 => ?_)
    refine yL.eq (y_iload_n (pc := 24) (x := x2) d136_24 rfl) ?_
    refine yL.eq (y_icmp_ne (pc := 25) (t := 42) d136_25 (by decide)) ?_
    refine yL.ite (fun h3 => ?_) (fun h3 => ?_)
    ·
      refine yL.eq (y_aload_n (pc := 28) (x := 190) d136_28 rfl) ?_
      refine yL.eq (y_iload (pc := 29) (x := x5) d136_29 rfl) ?_
      refine yL.eq (y_iload_n (pc := 31) (x := x3) d136_31 rfl) ?_
      refine y_callv_i (pc := 32) (n := 3) (n' := 3) (nc' := 0) (ns' := 0) [.int x5, .int x3] [.int x4] false d136_32 q136_101 mk_134 s_t_190 rfl rfl (Nat.le_of_ble_eq_true rfl) (Nat.le_of_ble_eq_true rfl) rfl (by decide +kernel) (by decide +kernel) (fun v5 M4 => ?_)
      refine yL.eq (y_if_eq (pc := 35) (t := 42) d136_35 (by decide)) ?_
      refine yL.ite (fun h6 => ?_) (fun h6 => ?_)
      ·
        refine yL.eq (y_iconst (pc := 42) (v := 0) d136_42 kc_0) ?_
        refine yL.eq (y_iadd (pc := 43) d136_43) ?_
        refine yL.eq (y_istore (pc := 44) (ls' := [some (.ref 190), some (.ref r), some (.int x2), some (.int x3), some (.int (x4 + 0)), some (.int x5)]) d136_44 rfl rfl) ?_
        refine yL.eq (y_iinc (pc := 46) (v := 1) (x := x5) (ls' := [some (.ref 190), some (.ref r), some (.int x2), some (.int x3), some (.int (x4 + 0)), some (.int (x5 + 1))]) d136_46 kc_1 rfl (Nat.le_of_ble_eq_true rfl) rfl) ?_
        refine yL.eq (y_goto (pc := 49) (t := 6) d136_49 (by decide)) ?_
        exact yL.rf
      ·
        refine yL.eq (y_iconst (pc := 38) (v := 1) d136_38 kc_1) ?_
        refine yL.eq (y_goto (pc := 39) (t := 43) d136_39 (by decide)) ?_
        refine yL.eq (y_iadd (pc := 43) d136_43) ?_
        refine yL.eq (y_istore (pc := 44) (ls' := [some (.ref 190), some (.ref r), some (.int x2), some (.int x3), some (.int (x4 + 1)), some (.int x5)]) d136_44 rfl rfl) ?_
        refine yL.eq (y_iinc (pc := 46) (v := 1) (x := x5) (ls' := [some (.ref 190), some (.ref r), some (.int x2), some (.int x3), some (.int (x4 + 1)), some (.int (x5 + 1))]) d136_46 kc_1 rfl (Nat.le_of_ble_eq_true rfl) rfl) ?_
        refine yL.eq (y_goto (pc := 49) (t := 6) d136_49 (by decide)) ?_
        exact yL.rf
    ·
      refine yL.eq (y_iconst (pc := 42) (v := 0) d136_42 kc_0) ?_
      refine yL.eq (y_iadd (pc := 43) d136_43) ?_
      refine yL.eq (y_istore (pc := 44) (ls' := [some (.ref 190), some (.ref r), some (.int x2), some (.int x3), some (.int (x4 + 0)), some (.int x5)]) d136_44 rfl rfl) ?_
      refine yL.eq (y_iinc (pc := 46) (v := 1) (x := x5) (ls' := [some (.ref 190), some (.ref r), some (.int x2), some (.int x3), some (.int (x4 + 0)), some (.int (x5 + 1))]) d136_46 kc_1 rfl (Nat.le_of_ble_eq_true rfl) rfl) ?_
      refine yL.eq (y_goto (pc := 49) (t := 6) d136_49 (by decide)) ?_
      exact yL.rf
  ·
    refine yL.eq (y_iload (pc := 52) (x := x4) d136_52 rfl) ?_
    exact yL.eq (y_ireti (pc := 54) d136_54 mr_136) yL.rf
set_option maxRecDepth 20000 in
set_option maxHeartbeats 4000000 in
theorem e137 {r : Nat} {a2 : Int32} {a3 : Int32} (hr : yR r) {M : yM} : yL (yX 137 6 [some (.ref 190), some (.ref r), some (.int a2), some (.int a3), some (.int 0), some (.int 0), none] [] M 0 0) (yX 137 0 [some (.ref 190), some (.ref r), some (.int a2), some (.int a3), none, none, none] [] M 0 0) := by
  refine yL.eq (y_iconst (pc := 0) (v := 0) d137_0 kc_0) ?_
  refine yL.eq (y_istore (pc := 1) (ls' := [some (.ref 190), some (.ref r), some (.int a2), some (.int a3), some (.int 0), none, none]) d137_1 rfl rfl) ?_
  refine yL.eq (y_iconst (pc := 3) (v := 0) d137_3 kc_0) ?_
  refine yL.eq (y_istore (pc := 4) (ls' := [some (.ref 190), some (.ref r), some (.int a2), some (.int a3), some (.int 0), some (.int 0), none]) d137_4 rfl rfl) ?_
  exact yL.rf
set_option maxRecDepth 20000 in
set_option maxHeartbeats 4000000 in
theorem e137_6 {r : Nat} {x2 : Int32} {x3 : Int32} {x4 : Int32} {x5 : Int32} {o6 : Option Value} (hr : yR r) {M : yM} : yL (if x5 < (M r 15) then if yinB x5 14 = true then if (M 197 (yx x5)) = (-1) then yX 137 57 [some (.ref 190), some (.ref r), some (.int x2), some (.int x3), some (.int x4), some (.int x5), o6] [] M 0 0 else if yinB x5 14 = true then if (M 198 (yx x5)) ≤ x3 then if yinB x5 14 = true then if x3 < ((M 198 (yx x5)) + (M r 92)) then if yinB (30 + x5) 95 = true then if (M r (yx (30 + x5))) = x2 then yX 137 6 [some (.ref 190), some (.ref r), some (.int x2), some (.int x3), some (.int (x4 + 1)), some (.int (x5 + 1)), some (.int 1)] [] M 0 0 else yX 137 6 [some (.ref 190), some (.ref r), some (.int x2), some (.int x3), some (.int (x4 + 0)), some (.int (x5 + 1)), some (.int 1)] [] M 0 0 else none else yX 137 57 [some (.ref 190), some (.ref r), some (.int x2), some (.int x3), some (.int x4), some (.int x5), o6] [] M 0 0 else none else yX 137 57 [some (.ref 190), some (.ref r), some (.int x2), some (.int x3), some (.int x4), some (.int x5), o6] [] M 0 0 else none else none else yI x4 M) (yX 137 6 [some (.ref 190), some (.ref r), some (.int x2), some (.int x3), some (.int x4), some (.int x5), o6] [] M 0 0) := by
  refine yL.eq (y_iload (pc := 6) (x := x5) d137_6 rfl) ?_
  refine yL.eq (y_aload_n (pc := 8) (x := r) d137_8 rfl) ?_
  refine yL.eq (y_bipush (pc := 9) (v := 15) d137_9 kb_15) ?_
  refine yL.eq (y_iald (pc := 11) (n := 95) d137_11 (yR_a hr)) ?_
  refine yL.eq (if_pos in_15_95) ?_
  show yL _ (yX 137 12 [some (.ref 190), some (.ref r), some (.int x2), some (.int x3), some (.int x4), some (.int x5), o6] ([.int (M r 15), .int x5]) M 0 0)
  refine yL.eq (y_icmp_ge (pc := 12) (t := 92) d137_12 (by decide)) ?_
  refine yL.ite (fun h1 => ?_) (fun h1 => ?_)
  ·
    refine yL.eq (y_aload_n (pc := 15) (x := 190) d137_15 rfl) ?_
    refine yL.eq (y_getr (pc := 16) (r := 197) d137_16 q137_29 s_r_190_8) ?_
    refine yL.eq (y_iload (pc := 19) (x := x5) d137_19 rfl) ?_
    refine yL.eq (y_iald (pc := 21) (n := 14) d137_21 s_a_197) ?_
    refine yL.gd (fun h2 => ?_)
    refine yL.eq (y_iconst (pc := 22) (v := (-1)) d137_22 kc_m1) ?_
    refine yL.eq (y_icmp_eq (pc := 23) (t := 57) d137_23 (by decide)) ?_
    refine yL.ite (fun h3 => ?_) (fun h3 => ?_)
    ·
      exact yL.rf
    ·
      refine yL.eq (y_aload_n (pc := 26) (x := 190) d137_26 rfl) ?_
      refine yL.eq (y_getr (pc := 27) (r := 198) d137_27 q137_32 s_r_190_9) ?_
      refine yL.eq (y_iload (pc := 30) (x := x5) d137_30 rfl) ?_
      refine yL.eq (y_iald (pc := 32) (n := 14) d137_32 s_a_198) ?_
      refine yL.gd (fun h4 => ?_)
      refine yL.eq (y_iload_n (pc := 33) (x := x3) d137_33 rfl) ?_
      refine yL.eq (y_icmp_gt (pc := 34) (t := 57) d137_34 (by decide)) ?_
      refine yL.ite (fun h5 => ?_) (fun h5 => ?_)
      ·
        refine yL.eq (y_iload_n (pc := 37) (x := x3) d137_37 rfl) ?_
        refine yL.eq (y_aload_n (pc := 38) (x := 190) d137_38 rfl) ?_
        refine yL.eq (y_getr (pc := 39) (r := 198) d137_39 q137_32 s_r_190_9) ?_
        refine yL.eq (y_iload (pc := 42) (x := x5) d137_42 rfl) ?_
        refine yL.eq (y_iald (pc := 44) (n := 14) d137_44 s_a_198) ?_
        refine yL.gd (fun h6 => ?_)
        refine yL.eq (y_aload_n (pc := 45) (x := r) d137_45 rfl) ?_
        refine yL.eq (y_bipush (pc := 46) (v := 92) d137_46 kb_92) ?_
        refine yL.eq (y_iald (pc := 48) (n := 95) d137_48 (yR_a hr)) ?_
        refine yL.eq (if_pos in_92_95) ?_
        show yL _ (yX 137 49 [some (.ref 190), some (.ref r), some (.int x2), some (.int x3), some (.int x4), some (.int x5), o6] ([.int (M r 92), .int (M 198 (yx x5)), .int x3]) M 0 0)
        refine yL.eq (y_iadd (pc := 49) d137_49) ?_
        refine yL.eq (y_icmp_ge (pc := 50) (t := 57) d137_50 (by decide)) ?_
        refine yL.ite (fun h7 => ?_) (fun h7 => ?_)
        ·
          refine yL.eq (y_iconst (pc := 53) (v := 1) d137_53 kc_1) ?_
          refine yL.eq (y_goto (pc := 54) (t := 58) d137_54 (by decide)) ?_
          refine yL.eq (y_istore (pc := 58) (ls' := [some (.ref 190), some (.ref r), some (.int x2), some (.int x3), some (.int x4), some (.int x5), some (.int 1)]) d137_58 rfl rfl) ?_
          refine yL.eq (y_iload (pc := 60) (x := x4) d137_60 rfl) ?_
          refine yL.eq (y_aload_n (pc := 62) (x := r) d137_62 rfl) ?_
          refine yL.eq (y_bipush (pc := 63) (v := 30) d137_63 kb_30) ?_
          refine yL.eq (y_iload (pc := 65) (x := x5) d137_65 rfl) ?_
          refine yL.eq (y_iadd (pc := 67) d137_67) ?_
          refine yL.eq (y_iald (pc := 68) (n := 95) d137_68 (yR_a hr)) ?_
          refine yL.gd (fun h8 => ?_)
          refine yL.eq (y_iload_n (pc := 69) (x := x2) d137_69 rfl) ?_
          refine yL.eq (y_icmp_ne (pc := 70) (t := 82) d137_70 (by decide)) ?_
          refine yL.ite (fun h9 => ?_) (fun h9 => ?_)
          ·
            refine yL.eq (y_iload (pc := 73) (x := 1) d137_73 rfl) ?_
            refine yL.eq (y_if_eq (pc := 75) (t := 82) d137_75 (by decide)) ?_
            refine yL.eq (if_neg cn_Int32_1_eq_0) ?_
            refine yL.eq (y_iconst (pc := 78) (v := 1) d137_78 kc_1) ?_
            refine yL.eq (y_goto (pc := 79) (t := 83) d137_79 (by decide)) ?_
            refine yL.eq (y_iadd (pc := 83) d137_83) ?_
            refine yL.eq (y_istore (pc := 84) (ls' := [some (.ref 190), some (.ref r), some (.int x2), some (.int x3), some (.int (x4 + 1)), some (.int x5), some (.int 1)]) d137_84 rfl rfl) ?_
            refine yL.eq (y_iinc (pc := 86) (v := 1) (x := x5) (ls' := [some (.ref 190), some (.ref r), some (.int x2), some (.int x3), some (.int (x4 + 1)), some (.int (x5 + 1)), some (.int 1)]) d137_86 kc_1 rfl (Nat.le_of_ble_eq_true rfl) rfl) ?_
            refine yL.eq (y_goto (pc := 89) (t := 6) d137_89 (by decide)) ?_
            exact yL.rf
          ·
            refine yL.eq (y_iconst (pc := 82) (v := 0) d137_82 kc_0) ?_
            refine yL.eq (y_iadd (pc := 83) d137_83) ?_
            refine yL.eq (y_istore (pc := 84) (ls' := [some (.ref 190), some (.ref r), some (.int x2), some (.int x3), some (.int (x4 + 0)), some (.int x5), some (.int 1)]) d137_84 rfl rfl) ?_
            refine yL.eq (y_iinc (pc := 86) (v := 1) (x := x5) (ls' := [some (.ref 190), some (.ref r), some (.int x2), some (.int x3), some (.int (x4 + 0)), some (.int (x5 + 1)), some (.int 1)]) d137_86 kc_1 rfl (Nat.le_of_ble_eq_true rfl) rfl) ?_
            refine yL.eq (y_goto (pc := 89) (t := 6) d137_89 (by decide)) ?_
            exact yL.rf
        ·
          exact yL.rf
      ·
        exact yL.rf
  ·
    refine yL.eq (y_iload (pc := 92) (x := x4) d137_92 rfl) ?_
    exact yL.eq (y_ireti (pc := 94) d137_94 mr_137) yL.rf
set_option maxRecDepth 20000 in
set_option maxHeartbeats 4000000 in
theorem e137_57 {r : Nat} {x2 : Int32} {x3 : Int32} {x4 : Int32} {x5 : Int32} {o6 : Option Value} (hr : yR r) {M : yM} : yL (if yinB (30 + x5) 95 = true then if (M r (yx (30 + x5))) = x2 then yX 137 6 [some (.ref 190), some (.ref r), some (.int x2), some (.int x3), some (.int (x4 + 0)), some (.int (x5 + 1)), some (.int 0)] [] M 0 0 else yX 137 6 [some (.ref 190), some (.ref r), some (.int x2), some (.int x3), some (.int (x4 + 0)), some (.int (x5 + 1)), some (.int 0)] [] M 0 0 else none) (yX 137 57 [some (.ref 190), some (.ref r), some (.int x2), some (.int x3), some (.int x4), some (.int x5), o6] [] M 0 0) := by
  refine yL.eq (y_iconst (pc := 57) (v := 0) d137_57 kc_0) ?_
  refine yL.eq (y_istore (pc := 58) (ls' := [some (.ref 190), some (.ref r), some (.int x2), some (.int x3), some (.int x4), some (.int x5), some (.int 0)]) d137_58 rfl rfl) ?_
  refine yL.eq (y_iload (pc := 60) (x := x4) d137_60 rfl) ?_
  refine yL.eq (y_aload_n (pc := 62) (x := r) d137_62 rfl) ?_
  refine yL.eq (y_bipush (pc := 63) (v := 30) d137_63 kb_30) ?_
  refine yL.eq (y_iload (pc := 65) (x := x5) d137_65 rfl) ?_
  refine yL.eq (y_iadd (pc := 67) d137_67) ?_
  refine yL.eq (y_iald (pc := 68) (n := 95) d137_68 (yR_a hr)) ?_
  refine yL.gd (fun h1 => ?_)
  refine yL.eq (y_iload_n (pc := 69) (x := x2) d137_69 rfl) ?_
  refine yL.eq (y_icmp_ne (pc := 70) (t := 82) d137_70 (by decide)) ?_
  refine yL.ite (fun h2 => ?_) (fun h2 => ?_)
  ·
    refine yL.eq (y_iload (pc := 73) (x := 0) d137_73 rfl) ?_
    refine yL.eq (y_if_eq (pc := 75) (t := 82) d137_75 (by decide)) ?_
    refine yL.eq (if_pos cp_Int32_0_eq_0) ?_
    refine yL.eq (y_iconst (pc := 82) (v := 0) d137_82 kc_0) ?_
    refine yL.eq (y_iadd (pc := 83) d137_83) ?_
    refine yL.eq (y_istore (pc := 84) (ls' := [some (.ref 190), some (.ref r), some (.int x2), some (.int x3), some (.int (x4 + 0)), some (.int x5), some (.int 0)]) d137_84 rfl rfl) ?_
    refine yL.eq (y_iinc (pc := 86) (v := 1) (x := x5) (ls' := [some (.ref 190), some (.ref r), some (.int x2), some (.int x3), some (.int (x4 + 0)), some (.int (x5 + 1)), some (.int 0)]) d137_86 kc_1 rfl (Nat.le_of_ble_eq_true rfl) rfl) ?_
    refine yL.eq (y_goto (pc := 89) (t := 6) d137_89 (by decide)) ?_
    exact yL.rf
  ·
    refine yL.eq (y_iconst (pc := 82) (v := 0) d137_82 kc_0) ?_
    refine yL.eq (y_iadd (pc := 83) d137_83) ?_
    refine yL.eq (y_istore (pc := 84) (ls' := [some (.ref 190), some (.ref r), some (.int x2), some (.int x3), some (.int (x4 + 0)), some (.int x5), some (.int 0)]) d137_84 rfl rfl) ?_
    refine yL.eq (y_iinc (pc := 86) (v := 1) (x := x5) (ls' := [some (.ref 190), some (.ref r), some (.int x2), some (.int x3), some (.int (x4 + 0)), some (.int (x5 + 1)), some (.int 0)]) d137_86 kc_1 rfl (Nat.le_of_ble_eq_true rfl) rfl) ?_
    refine yL.eq (y_goto (pc := 89) (t := 6) d137_89 (by decide)) ?_
    exact yL.rf
set_option maxRecDepth 20000 in
set_option maxHeartbeats 4000000 in
theorem e138 {r : Nat} {a2 : Int32} (hr : yR r) {M : yM} : yL (yX 138 5 [some (.ref 190), some (.ref r), some (.int a2), some (.int 0), some (.int 0)] [] M 0 0) (yX 138 0 [some (.ref 190), some (.ref r), some (.int a2), none, none] [] M 0 0) := by
  refine yL.eq (y_iconst (pc := 0) (v := 0) d138_0 kc_0) ?_
  refine yL.eq (y_istore_n (pc := 1) (ls' := [some (.ref 190), some (.ref r), some (.int a2), some (.int 0), none]) d138_1 rfl rfl) ?_
  refine yL.eq (y_iconst (pc := 2) (v := 0) d138_2 kc_0) ?_
  refine yL.eq (y_istore (pc := 3) (ls' := [some (.ref 190), some (.ref r), some (.int a2), some (.int 0), some (.int 0)]) d138_3 rfl rfl) ?_
  exact yL.rf
set_option maxRecDepth 20000 in
set_option maxHeartbeats 4000000 in
theorem e138_5 {r : Nat} {x2 : Int32} {x3 : Int32} {x4 : Int32} (hr : yR r) {M : yM} : yL (if x4 < (M r 15) then if yinB x4 14 = true then if (M 197 (yx x4)) = (-1) then yX 138 5 [some (.ref 190), some (.ref r), some (.int x2), some (.int (x3 + 0)), some (.int (x4 + 1))] [] M 0 0 else if yinB x4 14 = true then if (M 198 (yx x4)) ≤ x2 then yX 138 5 [some (.ref 190), some (.ref r), some (.int x2), some (.int (x3 + 1)), some (.int (x4 + 1))] [] M 0 0 else yX 138 5 [some (.ref 190), some (.ref r), some (.int x2), some (.int (x3 + 0)), some (.int (x4 + 1))] [] M 0 0 else none else none else yI x3 M) (yX 138 5 [some (.ref 190), some (.ref r), some (.int x2), some (.int x3), some (.int x4)] [] M 0 0) := by
  refine yL.eq (y_iload (pc := 5) (x := x4) d138_5 rfl) ?_
  refine yL.eq (y_aload_n (pc := 7) (x := r) d138_7 rfl) ?_
  refine yL.eq (y_bipush (pc := 8) (v := 15) d138_8 kb_15) ?_
  refine yL.eq (y_iald (pc := 10) (n := 95) d138_10 (yR_a hr)) ?_
  refine yL.eq (if_pos in_15_95) ?_
  show yL _ (yX 138 11 [some (.ref 190), some (.ref r), some (.int x2), some (.int x3), some (.int x4)] ([.int (M r 15), .int x4]) M 0 0)
  refine yL.eq (y_icmp_ge (pc := 11) (t := 50) d138_11 (by decide)) ?_
  refine yL.ite (fun h1 => ?_) (fun h1 => ?_)
  ·
    refine yL.eq (y_iload_n (pc := 14) (x := x3) d138_14 rfl) ?_
    refine yL.eq (y_aload_n (pc := 15) (x := 190) d138_15 rfl) ?_
    refine yL.eq (y_getr (pc := 16) (r := 197) d138_16 q138_29 s_r_190_8) ?_
    refine yL.eq (y_iload (pc := 19) (x := x4) d138_19 rfl) ?_
    refine yL.eq (y_iald (pc := 21) (n := 14) d138_21 s_a_197) ?_
    refine yL.gd (fun h2 => ?_)
    refine yL.eq (y_iconst (pc := 22) (v := (-1)) d138_22 kc_m1) ?_
    refine yL.eq (y_icmp_eq (pc := 23) (t := 41) d138_23 (by decide)) ?_
    refine yL.ite (fun h3 => ?_) (fun h3 => ?_)
    ·
      refine yL.eq (y_iconst (pc := 41) (v := 0) d138_41 kc_0) ?_
      refine yL.eq (y_iadd (pc := 42) d138_42) ?_
      refine yL.eq (y_istore_n (pc := 43) (ls' := [some (.ref 190), some (.ref r), some (.int x2), some (.int (x3 + 0)), some (.int x4)]) d138_43 rfl rfl) ?_
      refine yL.eq (y_iinc (pc := 44) (v := 1) (x := x4) (ls' := [some (.ref 190), some (.ref r), some (.int x2), some (.int (x3 + 0)), some (.int (x4 + 1))]) d138_44 kc_1 rfl (Nat.le_of_ble_eq_true rfl) rfl) ?_
      refine yL.eq (y_goto (pc := 47) (t := 5) d138_47 (by decide)) ?_
      exact yL.rf
    ·
      refine yL.eq (y_aload_n (pc := 26) (x := 190) d138_26 rfl) ?_
      refine yL.eq (y_getr (pc := 27) (r := 198) d138_27 q138_32 s_r_190_9) ?_
      refine yL.eq (y_iload (pc := 30) (x := x4) d138_30 rfl) ?_
      refine yL.eq (y_iald (pc := 32) (n := 14) d138_32 s_a_198) ?_
      refine yL.gd (fun h4 => ?_)
      refine yL.eq (y_iload_n (pc := 33) (x := x2) d138_33 rfl) ?_
      refine yL.eq (y_icmp_gt (pc := 34) (t := 41) d138_34 (by decide)) ?_
      refine yL.ite (fun h5 => ?_) (fun h5 => ?_)
      ·
        refine yL.eq (y_iconst (pc := 37) (v := 1) d138_37 kc_1) ?_
        refine yL.eq (y_goto (pc := 38) (t := 42) d138_38 (by decide)) ?_
        refine yL.eq (y_iadd (pc := 42) d138_42) ?_
        refine yL.eq (y_istore_n (pc := 43) (ls' := [some (.ref 190), some (.ref r), some (.int x2), some (.int (x3 + 1)), some (.int x4)]) d138_43 rfl rfl) ?_
        refine yL.eq (y_iinc (pc := 44) (v := 1) (x := x4) (ls' := [some (.ref 190), some (.ref r), some (.int x2), some (.int (x3 + 1)), some (.int (x4 + 1))]) d138_44 kc_1 rfl (Nat.le_of_ble_eq_true rfl) rfl) ?_
        refine yL.eq (y_goto (pc := 47) (t := 5) d138_47 (by decide)) ?_
        exact yL.rf
      ·
        refine yL.eq (y_iconst (pc := 41) (v := 0) d138_41 kc_0) ?_
        refine yL.eq (y_iadd (pc := 42) d138_42) ?_
        refine yL.eq (y_istore_n (pc := 43) (ls' := [some (.ref 190), some (.ref r), some (.int x2), some (.int (x3 + 0)), some (.int x4)]) d138_43 rfl rfl) ?_
        refine yL.eq (y_iinc (pc := 44) (v := 1) (x := x4) (ls' := [some (.ref 190), some (.ref r), some (.int x2), some (.int (x3 + 0)), some (.int (x4 + 1))]) d138_44 kc_1 rfl (Nat.le_of_ble_eq_true rfl) rfl) ?_
        refine yL.eq (y_goto (pc := 47) (t := 5) d138_47 (by decide)) ?_
        exact yL.rf
  ·
    refine yL.eq (y_iload_n (pc := 50) (x := x3) d138_50 rfl) ?_
    exact yL.eq (y_ireti (pc := 51) d138_51 mr_138) yL.rf
set_option maxRecDepth 20000 in
set_option maxHeartbeats 4000000 in
theorem e139 {r : Nat} {a2 : Int32} {a3 : Int32} (hr : yR r) {M : yM} : yL (if yinB a2 14 = true then if (M 197 (yx a2)) = (-1) then yX 139 20 [some (.ref 190), some (.ref r), some (.int a2), some (.int a3), some (.int 1), some (.int 0)] [] M 0 0 else yX 139 20 [some (.ref 190), some (.ref r), some (.int a2), some (.int a3), some (.int 0), some (.int 0)] [] M 0 0 else none) (yX 139 0 [some (.ref 190), some (.ref r), some (.int a2), some (.int a3), none, none] [] M 0 0) := by
  refine yL.eq (y_aload_n (pc := 0) (x := 190) d139_0 rfl) ?_
  refine yL.eq (y_getr (pc := 1) (r := 197) d139_1 q139_29 s_r_190_8) ?_
  refine yL.eq (y_iload_n (pc := 4) (x := a2) d139_4 rfl) ?_
  refine yL.eq (y_iald (pc := 5) (n := 14) d139_5 s_a_197) ?_
  refine yL.gd (fun h1 => ?_)
  refine yL.eq (y_iconst (pc := 6) (v := (-1)) d139_6 kc_m1) ?_
  refine yL.eq (y_icmp_ne (pc := 7) (t := 14) d139_7 (by decide)) ?_
  refine yL.ite (fun h2 => ?_) (fun h2 => ?_)
  ·
    refine yL.eq (y_iconst (pc := 10) (v := 1) d139_10 kc_1) ?_
    refine yL.eq (y_goto (pc := 11) (t := 15) d139_11 (by decide)) ?_
    refine yL.eq (y_istore (pc := 15) (ls' := [some (.ref 190), some (.ref r), some (.int a2), some (.int a3), some (.int 1), none]) d139_15 rfl rfl) ?_
    refine yL.eq (y_iconst (pc := 17) (v := 0) d139_17 kc_0) ?_
    refine yL.eq (y_istore (pc := 18) (ls' := [some (.ref 190), some (.ref r), some (.int a2), some (.int a3), some (.int 1), some (.int 0)]) d139_18 rfl rfl) ?_
    exact yL.rf
  ·
    refine yL.eq (y_iconst (pc := 14) (v := 0) d139_14 kc_0) ?_
    refine yL.eq (y_istore (pc := 15) (ls' := [some (.ref 190), some (.ref r), some (.int a2), some (.int a3), some (.int 0), none]) d139_15 rfl rfl) ?_
    refine yL.eq (y_iconst (pc := 17) (v := 0) d139_17 kc_0) ?_
    refine yL.eq (y_istore (pc := 18) (ls' := [some (.ref 190), some (.ref r), some (.int a2), some (.int a3), some (.int 0), some (.int 0)]) d139_18 rfl rfl) ?_
    exact yL.rf
set_option maxRecDepth 20000 in
set_option maxHeartbeats 4000000 in
theorem e139_20 {r : Nat} {x2 : Int32} {x3 : Int32} {x4 : Int32} {x5 : Int32} (hr : yR r) {M : yM} : yL (if x5 < (M r 15) then if x4 = 0 then yX 139 83 [some (.ref 190), some (.ref r), some (.int x2), some (.int x3), some (.int x4), some (.int x5)] [] M 0 0 else if yinB (72 + x2) 95 = true then yCi false (yX 110 0 [some (.int (M r (yx (72 + x2)))), some (.int x5)] [] M 0 0) fun v5 M4 => if v5 = 0 then yX 139 20 [some (.ref 190), some (.ref r), some (.int x2), some (.int x3), some (.int 1), some (.int (x5 + 1))] [] M4 0 0 else if yinB x5 14 = true then if (M4 197 (yx x5)) = (-1) then yX 139 20 [some (.ref 190), some (.ref r), some (.int x2), some (.int x3), some (.int 0), some (.int (x5 + 1))] [] M4 0 0 else if yinB x5 14 = true then if (M4 198 (yx x5)) ≤ x3 then yX 139 20 [some (.ref 190), some (.ref r), some (.int x2), some (.int x3), some (.int 1), some (.int (x5 + 1))] [] M4 0 0 else yX 139 20 [some (.ref 190), some (.ref r), some (.int x2), some (.int x3), some (.int 0), some (.int (x5 + 1))] [] M4 0 0 else none else none else none else yX 139 83 [some (.ref 190), some (.ref r), some (.int x2), some (.int x3), some (.int x4), some (.int x5)] [] M 0 0) (yX 139 20 [some (.ref 190), some (.ref r), some (.int x2), some (.int x3), some (.int x4), some (.int x5)] [] M 0 0) := by
  refine yL.eq (y_iload (pc := 20) (x := x5) d139_20 rfl) ?_
  refine yL.eq (y_aload_n (pc := 22) (x := r) d139_22 rfl) ?_
  refine yL.eq (y_bipush (pc := 23) (v := 15) d139_23 kb_15) ?_
  refine yL.eq (y_iald (pc := 25) (n := 95) d139_25 (yR_a hr)) ?_
  refine yL.eq (if_pos in_15_95) ?_
  show yL _ (yX 139 26 [some (.ref 190), some (.ref r), some (.int x2), some (.int x3), some (.int x4), some (.int x5)] ([.int (M r 15), .int x5]) M 0 0)
  refine yL.eq (y_icmp_ge (pc := 26) (t := 83) d139_26 (by decide)) ?_
  refine yL.ite (fun h1 => ?_) (fun h1 => ?_)
  ·
    refine yL.eq (y_iload (pc := 29) (x := x4) d139_29 rfl) ?_
    refine yL.eq (y_if_eq (pc := 31) (t := 83) d139_31 (by decide)) ?_
    refine yL.ite (fun h2 => ?_) (fun h2 => ?_)
    ·
      exact yL.rf
    ·
      refine yL.eq (y_aload_n (pc := 34) (x := r) d139_34 rfl) ?_
      refine yL.eq (y_bipush (pc := 35) (v := 72) d139_35 kb_72) ?_
      refine yL.eq (y_iload_n (pc := 37) (x := x2) d139_37 rfl) ?_
      refine yL.eq (y_iadd (pc := 38) d139_38) ?_
      refine yL.eq (y_iald (pc := 39) (n := 95) d139_39 (yR_a hr)) ?_
      refine yL.gd (fun h3 => ?_)
      refine yL.eq (y_iload (pc := 40) (x := x5) d139_40 rfl) ?_
      refine y_calls_i (pc := 42) (n := 2) (n' := 2) (nc' := 0) (ns' := 0) [.int (M r (yx (72 + x2))), .int x5] [] false d139_42 q139_54 rfl rfl rfl (Nat.le_of_ble_eq_true rfl) (Nat.le_of_ble_eq_true rfl) rfl (by decide +kernel) (by decide +kernel) (fun v5 M4 => ?_)
      refine yL.eq (y_if_eq (pc := 45) (t := 70) d139_45 (by decide)) ?_
      refine yL.ite (fun h6 => ?_) (fun h6 => ?_)
      ·
        refine yL.eq (y_iconst (pc := 70) (v := 1) d139_70 kc_1) ?_
        refine yL.eq (y_goto (pc := 71) (t := 75) d139_71 (by decide)) ?_
        refine yL.eq (y_istore (pc := 75) (ls' := [some (.ref 190), some (.ref r), some (.int x2), some (.int x3), some (.int 1), some (.int x5)]) d139_75 rfl rfl) ?_
        refine yL.eq (y_iinc (pc := 77) (v := 1) (x := x5) (ls' := [some (.ref 190), some (.ref r), some (.int x2), some (.int x3), some (.int 1), some (.int (x5 + 1))]) d139_77 kc_1 rfl (Nat.le_of_ble_eq_true rfl) rfl) ?_
        refine yL.eq (y_goto (pc := 80) (t := 20) d139_80 (by decide)) ?_
        exact yL.rf
      ·
        refine yL.eq (y_aload_n (pc := 48) (x := 190) d139_48 rfl) ?_
        refine yL.eq (y_getr (pc := 49) (r := 197) d139_49 q139_29 s_r_190_8) ?_
        refine yL.eq (y_iload (pc := 52) (x := x5) d139_52 rfl) ?_
        refine yL.eq (y_iald (pc := 54) (n := 14) d139_54 s_a_197) ?_
        refine yL.gd (fun h7 => ?_)
        refine yL.eq (y_iconst (pc := 55) (v := (-1)) d139_55 kc_m1) ?_
        refine yL.eq (y_icmp_eq (pc := 56) (t := 74) d139_56 (by decide)) ?_
        refine yL.ite (fun h8 => ?_) (fun h8 => ?_)
        ·
          refine yL.eq (y_iconst (pc := 74) (v := 0) d139_74 kc_0) ?_
          refine yL.eq (y_istore (pc := 75) (ls' := [some (.ref 190), some (.ref r), some (.int x2), some (.int x3), some (.int 0), some (.int x5)]) d139_75 rfl rfl) ?_
          refine yL.eq (y_iinc (pc := 77) (v := 1) (x := x5) (ls' := [some (.ref 190), some (.ref r), some (.int x2), some (.int x3), some (.int 0), some (.int (x5 + 1))]) d139_77 kc_1 rfl (Nat.le_of_ble_eq_true rfl) rfl) ?_
          refine yL.eq (y_goto (pc := 80) (t := 20) d139_80 (by decide)) ?_
          exact yL.rf
        ·
          refine yL.eq (y_aload_n (pc := 59) (x := 190) d139_59 rfl) ?_
          refine yL.eq (y_getr (pc := 60) (r := 198) d139_60 q139_32 s_r_190_9) ?_
          refine yL.eq (y_iload (pc := 63) (x := x5) d139_63 rfl) ?_
          refine yL.eq (y_iald (pc := 65) (n := 14) d139_65 s_a_198) ?_
          refine yL.gd (fun h9 => ?_)
          refine yL.eq (y_iload_n (pc := 66) (x := x3) d139_66 rfl) ?_
          refine yL.eq (y_icmp_gt (pc := 67) (t := 74) d139_67 (by decide)) ?_
          refine yL.ite (fun h10 => ?_) (fun h10 => ?_)
          ·
            refine yL.eq (y_iconst (pc := 70) (v := 1) d139_70 kc_1) ?_
            refine yL.eq (y_goto (pc := 71) (t := 75) d139_71 (by decide)) ?_
            refine yL.eq (y_istore (pc := 75) (ls' := [some (.ref 190), some (.ref r), some (.int x2), some (.int x3), some (.int 1), some (.int x5)]) d139_75 rfl rfl) ?_
            refine yL.eq (y_iinc (pc := 77) (v := 1) (x := x5) (ls' := [some (.ref 190), some (.ref r), some (.int x2), some (.int x3), some (.int 1), some (.int (x5 + 1))]) d139_77 kc_1 rfl (Nat.le_of_ble_eq_true rfl) rfl) ?_
            refine yL.eq (y_goto (pc := 80) (t := 20) d139_80 (by decide)) ?_
            exact yL.rf
          ·
            refine yL.eq (y_iconst (pc := 74) (v := 0) d139_74 kc_0) ?_
            refine yL.eq (y_istore (pc := 75) (ls' := [some (.ref 190), some (.ref r), some (.int x2), some (.int x3), some (.int 0), some (.int x5)]) d139_75 rfl rfl) ?_
            refine yL.eq (y_iinc (pc := 77) (v := 1) (x := x5) (ls' := [some (.ref 190), some (.ref r), some (.int x2), some (.int x3), some (.int 0), some (.int (x5 + 1))]) d139_77 kc_1 rfl (Nat.le_of_ble_eq_true rfl) rfl) ?_
            refine yL.eq (y_goto (pc := 80) (t := 20) d139_80 (by decide)) ?_
            exact yL.rf
  ·
    exact yL.rf
set_option maxRecDepth 20000 in
set_option maxHeartbeats 4000000 in
theorem e139_83 {r : Nat} {x2 : Int32} {x3 : Int32} {x4 : Int32} {o5 : Option Value} (hr : yR r) {M : yM} : yL (if yinB (30 + x2) 95 = true then if x4 = 0 then yX 139 122 [some (.ref 190), some (.ref r), some (.int x2), some (.int x3), some (.int x4), some (.int (M r (yx (30 + x2))))] [] M 0 0 else if yinB (44 + x2) 95 = true then if (M r (yx (44 + x2))) = 0 then yX 139 118 [some (.ref 190), some (.ref r), some (.int x2), some (.int x3), some (.int x4), some (.int (M r (yx (30 + x2))))] [] M 0 0 else yCi false (yX 135 0 [some (.ref 190), some (.ref r), some (.int x3), none, none] [] M 0 0) fun v6 M5 => if v6 < (M5 r 93) then yX 139 118 [some (.ref 190), some (.ref r), some (.int x2), some (.int x3), some (.int x4), some (.int (M r (yx (30 + x2))))] [] M5 0 0 else yX 139 122 [some (.ref 190), some (.ref r), some (.int x2), some (.int x3), some (.int x4), some (.int (M r (yx (30 + x2))))] [] M5 0 0 else none else none) (yX 139 83 [some (.ref 190), some (.ref r), some (.int x2), some (.int x3), some (.int x4), o5] [] M 0 0) := by
  refine yL.eq (y_aload_n (pc := 83) (x := r) d139_83 rfl) ?_
  refine yL.eq (y_bipush (pc := 84) (v := 30) d139_84 kb_30) ?_
  refine yL.eq (y_iload_n (pc := 86) (x := x2) d139_86 rfl) ?_
  refine yL.eq (y_iadd (pc := 87) d139_87) ?_
  refine yL.eq (y_iald (pc := 88) (n := 95) d139_88 (yR_a hr)) ?_
  refine yL.gd (fun h1 => ?_)
  refine yL.eq (y_istore (pc := 89) (ls' := [some (.ref 190), some (.ref r), some (.int x2), some (.int x3), some (.int x4), some (.int (M r (yx (30 + x2))))]) d139_89 rfl rfl) ?_
  refine yL.eq (y_iload (pc := 91) (x := x4) d139_91 rfl) ?_
  refine yL.eq (y_if_eq (pc := 93) (t := 122) d139_93 (by decide)) ?_
  refine yL.ite (fun h2 => ?_) (fun h2 => ?_)
  ·
    exact yL.rf
  ·
    refine yL.eq (y_aload_n (pc := 96) (x := r) d139_96 rfl) ?_
    refine yL.eq (y_bipush (pc := 97) (v := 44) d139_97 kb_44) ?_
    refine yL.eq (y_iload_n (pc := 99) (x := x2) d139_99 rfl) ?_
    refine yL.eq (y_iadd (pc := 100) d139_100) ?_
    refine yL.eq (y_iald (pc := 101) (n := 95) d139_101 (yR_a hr)) ?_
    refine yL.gd (fun h3 => ?_)
    refine yL.eq (y_if_eq (pc := 102) (t := 118) d139_102 (by decide)) ?_
    refine yL.ite (fun h4 => ?_) (fun h4 => ?_)
    ·
      exact yL.rf
    ·
      refine yL.eq (y_aload_n (pc := 105) (x := 190) d139_105 rfl) ?_
      refine yL.eq (y_aload_n (pc := 106) (x := r) d139_106 rfl) ?_
      refine yL.eq (y_iload_n (pc := 107) (x := x3) d139_107 rfl) ?_
      refine y_callv_i (pc := 108) (n := 3) (n' := 5) (nc' := 0) (ns' := 0) [.ref r, .int x3] [] false d139_108 q139_104 mk_135 s_t_190 rfl rfl (Nat.le_of_ble_eq_true rfl) (Nat.le_of_ble_eq_true rfl) rfl (by decide +kernel) (by decide +kernel) (fun v6 M5 => ?_)
      refine yL.eq (y_aload_n (pc := 111) (x := r) d139_111 rfl) ?_
      refine yL.eq (y_bipush (pc := 112) (v := 93) d139_112 kb_93) ?_
      refine yL.eq (y_iald (pc := 114) (n := 95) d139_114 (yR_a hr)) ?_
      refine yL.eq (if_pos in_93_95) ?_
      show yL _ (yX 139 115 [some (.ref 190), some (.ref r), some (.int x2), some (.int x3), some (.int x4), some (.int (M r (yx (30 + x2))))] ([.int (M5 r 93), .int v6]) M5 0 0)
      refine yL.eq (y_icmp_ge (pc := 115) (t := 122) d139_115 (by decide)) ?_
      refine yL.ite (fun h7 => ?_) (fun h7 => ?_)
      ·
        exact yL.rf
      ·
        exact yL.rf
set_option maxRecDepth 20000 in
set_option maxHeartbeats 4000000 in
theorem e139_122 {r : Nat} {o2 : Option Value} {x3 : Int32} {o4 : Option Value} {x5 : Int32} (hr : yR r) {M : yM} : yL (yI 0 M) (yX 139 122 [some (.ref 190), some (.ref r), o2, some (.int x3), o4, some (.int x5)] [] M 0 0) := by
  refine yL.eq (y_iconst (pc := 122) (v := 0) d139_122 kc_0) ?_
  refine yL.eq (y_istore (pc := 123) (ls' := [some (.ref 190), some (.ref r), o2, some (.int x3), some (.int 0), some (.int x5)]) d139_123 rfl rfl) ?_
  refine yL.eq (y_iload (pc := 125) (x := 0) d139_125 rfl) ?_
  refine yL.eq (y_if_eq (pc := 127) (t := 167) d139_127 (by decide)) ?_
  refine yL.eq (if_pos cp_Int32_0_eq_0) ?_
  refine yL.eq (y_iconst (pc := 167) (v := 0) d139_167 kc_0) ?_
  exact yL.eq (y_iretz (pc := 168) d139_168 mr_139) (yL.eq yZ_0 yL.rf)
set_option maxRecDepth 20000 in
set_option maxHeartbeats 4000000 in
theorem e139_118 {r : Nat} {o2 : Option Value} {x3 : Int32} {o4 : Option Value} {x5 : Int32} (hr : yR r) {M : yM} : yL (if x5 = (-1) then yI 1 M else yCi false (yX 136 0 [some (.ref 190), some (.ref r), some (.int x5), some (.int x3), none, none] [] M 0 0) fun v3 M2 => yCi false (yX 137 0 [some (.ref 190), some (.ref r), some (.int x5), some (.int x3), none, none, none] [] M2 0 0) fun v5 M4 => if yinB (86 + x5) 95 = true then if (v3 + v5) < (M4 r (yx (86 + x5))) then yI 1 M4 else yI 0 M4 else none) (yX 139 118 [some (.ref 190), some (.ref r), o2, some (.int x3), o4, some (.int x5)] [] M 0 0) := by
  refine yL.eq (y_iconst (pc := 118) (v := 1) d139_118 kc_1) ?_
  refine yL.eq (y_goto (pc := 119) (t := 123) d139_119 (by decide)) ?_
  refine yL.eq (y_istore (pc := 123) (ls' := [some (.ref 190), some (.ref r), o2, some (.int x3), some (.int 1), some (.int x5)]) d139_123 rfl rfl) ?_
  refine yL.eq (y_iload (pc := 125) (x := 1) d139_125 rfl) ?_
  refine yL.eq (y_if_eq (pc := 127) (t := 167) d139_127 (by decide)) ?_
  refine yL.eq (if_neg cn_Int32_1_eq_0) ?_
  refine yL.eq (y_iload (pc := 130) (x := x5) d139_130 rfl) ?_
  refine yL.eq (y_iconst (pc := 132) (v := (-1)) d139_132 kc_m1) ?_
  refine yL.eq (y_icmp_eq (pc := 133) (t := 163) d139_133 (by decide)) ?_
  refine yL.ite (fun h1 => ?_) (fun h1 => ?_)
  ·
    refine yL.eq (y_iconst (pc := 163) (v := 1) d139_163 kc_1) ?_
    refine yL.eq (y_goto (pc := 164) (t := 168) d139_164 (by decide)) ?_
    exact yL.eq (y_iretz (pc := 168) d139_168 mr_139) (yL.eq yZ_1 yL.rf)
  ·
    refine yL.eq (y_aload_n (pc := 136) (x := 190) d139_136 rfl) ?_
    refine yL.eq (y_aload_n (pc := 137) (x := r) d139_137 rfl) ?_
    refine yL.eq (y_iload (pc := 138) (x := x5) d139_138 rfl) ?_
    refine yL.eq (y_iload_n (pc := 140) (x := x3) d139_140 rfl) ?_
    refine y_callv_i (pc := 141) (n := 4) (n' := 6) (nc' := 0) (ns' := 0) [.ref r, .int x5, .int x3] [] false d139_141 q139_107 mk_136 s_t_190 rfl rfl (Nat.le_of_ble_eq_true rfl) (Nat.le_of_ble_eq_true rfl) rfl (by decide +kernel) (by decide +kernel) (fun v3 M2 => ?_)
    refine yL.eq (y_aload_n (pc := 144) (x := 190) d139_144 rfl) ?_
    refine yL.eq (y_aload_n (pc := 145) (x := r) d139_145 rfl) ?_
    refine yL.eq (y_iload (pc := 146) (x := x5) d139_146 rfl) ?_
    refine yL.eq (y_iload_n (pc := 148) (x := x3) d139_148 rfl) ?_
    refine y_callv_i (pc := 149) (n := 4) (n' := 7) (nc' := 0) (ns' := 0) [.ref r, .int x5, .int x3] [.int v3] false d139_149 q139_110 mk_137 s_t_190 rfl rfl (Nat.le_of_ble_eq_true rfl) (Nat.le_of_ble_eq_true rfl) rfl (by decide +kernel) (by decide +kernel) (fun v5 M4 => ?_)
    refine yL.eq (y_iadd (pc := 152) d139_152) ?_
    refine yL.eq (y_aload_n (pc := 153) (x := r) d139_153 rfl) ?_
    refine yL.eq (y_bipush (pc := 154) (v := 86) d139_154 kb_86) ?_
    refine yL.eq (y_iload (pc := 156) (x := x5) d139_156 rfl) ?_
    refine yL.eq (y_iadd (pc := 158) d139_158) ?_
    refine yL.eq (y_iald (pc := 159) (n := 95) d139_159 (yR_a hr)) ?_
    refine yL.gd (fun h6 => ?_)
    refine yL.eq (y_icmp_ge (pc := 160) (t := 167) d139_160 (by decide)) ?_
    refine yL.ite (fun h7 => ?_) (fun h7 => ?_)
    ·
      refine yL.eq (y_iconst (pc := 163) (v := 1) d139_163 kc_1) ?_
      refine yL.eq (y_goto (pc := 164) (t := 168) d139_164 (by decide)) ?_
      exact yL.eq (y_iretz (pc := 168) d139_168 mr_139) (yL.eq yZ_1 yL.rf)
    ·
      refine yL.eq (y_iconst (pc := 167) (v := 0) d139_167 kc_0) ?_
      exact yL.eq (y_iretz (pc := 168) d139_168 mr_139) (yL.eq yZ_0 yL.rf)
set_option maxRecDepth 20000 in
set_option maxHeartbeats 4000000 in
theorem e140 {r : Nat} {a2 : Int32} (hr : yR r) {M : yM} : yL (if (M r 94) = 1 then if yinB (16 + a2) 95 = true then yI (M r (yx (16 + a2))) M else none else if (M r 94) = 2 then if yinB a2 14 = true then yI (M 200 (yx a2)) M else none else if (M r 94) = 3 then yCi false (yX 130 0 [some (.ref r), some (.int a2), none, none] [] M 0 0) fun v7 M6 => yCi false (yX 111 0 [some (.int v7), some (.int (M6 r 15)), none, none] [] M6 0 0) fun v9 M8 => yI v9 M8 else yI 0 M) (yX 140 0 [some (.ref 190), some (.ref r), some (.int a2)] [] M 0 0) := by
  refine yL.eq (y_aload_n (pc := 0) (x := r) d140_0 rfl) ?_
  refine yL.eq (y_bipush (pc := 1) (v := 94) d140_1 kb_94) ?_
  refine yL.eq (y_iald (pc := 3) (n := 95) d140_3 (yR_a hr)) ?_
  refine yL.eq (if_pos in_94_95) ?_
  show yL _ (yX 140 4 [some (.ref 190), some (.ref r), some (.int a2)] ([.int (M r 94)]) M 0 0)
  refine yL.eq (y_tsw (pc := 4) (ts := [32, 39, 46]) (d := 59) d140_4 (by decide +kernel)) ?_
  refine yL.eq (y_ts (c := 1) (lo' := 2) kc_1 (by decide)) ?_
  refine yL.ite (fun h1 => ?_) (fun h1 => ?_)
  ·
    refine yL.eq (y_aload_n (pc := 32) (x := r) d140_32 rfl) ?_
    refine yL.eq (y_bipush (pc := 33) (v := 16) d140_33 kb_16) ?_
    refine yL.eq (y_iload_n (pc := 35) (x := a2) d140_35 rfl) ?_
    refine yL.eq (y_iadd (pc := 36) d140_36) ?_
    refine yL.eq (y_iald (pc := 37) (n := 95) d140_37 (yR_a hr)) ?_
    refine yL.gd (fun h2 => ?_)
    exact yL.eq (y_ireti (pc := 38) d140_38 mr_140) yL.rf
  ·
    refine yL.eq (y_ts (c := 2) (lo' := 3) kc_2 (by decide)) ?_
    refine yL.ite (fun h3 => ?_) (fun h3 => ?_)
    ·
      refine yL.eq (y_aload_n (pc := 39) (x := 190) d140_39 rfl) ?_
      refine yL.eq (y_getr (pc := 40) (r := 200) d140_40 q140_38 s_r_190_12) ?_
      refine yL.eq (y_iload_n (pc := 43) (x := a2) d140_43 rfl) ?_
      refine yL.eq (y_iald (pc := 44) (n := 14) d140_44 s_a_200) ?_
      refine yL.gd (fun h4 => ?_)
      exact yL.eq (y_ireti (pc := 45) d140_45 mr_140) yL.rf
    ·
      refine yL.eq (y_ts (c := 3) (lo' := 4) kc_3 (by decide)) ?_
      refine yL.ite (fun h5 => ?_) (fun h5 => ?_)
      ·
        refine yL.eq (y_aload_n (pc := 46) (x := r) d140_46 rfl) ?_
        refine yL.eq (y_iload_n (pc := 47) (x := a2) d140_47 rfl) ?_
        refine y_calls_i (pc := 48) (n := 2) (n' := 4) (nc' := 0) (ns' := 0) [.ref r, .int a2] [] false d140_48 q140_113 rfl rfl rfl (Nat.le_of_ble_eq_true rfl) (Nat.le_of_ble_eq_true rfl) rfl (by decide +kernel) (by decide +kernel) (fun v7 M6 => ?_)
        refine yL.eq (y_aload_n (pc := 51) (x := r) d140_51 rfl) ?_
        refine yL.eq (y_bipush (pc := 52) (v := 15) d140_52 kb_15) ?_
        refine yL.eq (y_iald (pc := 54) (n := 95) d140_54 (yR_a hr)) ?_
        refine yL.eq (if_pos in_15_95) ?_
        show yL _ (yX 140 55 [some (.ref 190), some (.ref r), some (.int a2)] ([.int (M6 r 15), .int v7]) M6 0 0)
        refine y_calls_i (pc := 55) (n := 2) (n' := 4) (nc' := 0) (ns' := 0) [.int v7, .int (M6 r 15)] [] false d140_55 q140_116 rfl rfl rfl (Nat.le_of_ble_eq_true rfl) (Nat.le_of_ble_eq_true rfl) rfl (by decide +kernel) (by decide +kernel) (fun v9 M8 => ?_)
        exact yL.eq (y_ireti (pc := 58) d140_58 mr_140) yL.rf
      ·
        refine yL.eq y_tsn ?_
        refine yL.eq (y_iconst (pc := 59) (v := 0) d140_59 kc_0) ?_
        exact yL.eq (y_ireti (pc := 60) d140_60 mr_140) yL.rf
set_option maxRecDepth 20000 in
set_option maxHeartbeats 4000000 in
theorem e141 {r : Nat} {a2 : Int32} (hr : yR r) {M : yM} : yL (yX 141 5 [some (.ref 190), some (.ref r), some (.int a2), some (.int (-1)), some (.int 0)] [] M 0 0) (yX 141 0 [some (.ref 190), some (.ref r), some (.int a2), none, none] [] M 0 0) := by
  refine yL.eq (y_iconst (pc := 0) (v := (-1)) d141_0 kc_m1) ?_
  refine yL.eq (y_istore_n (pc := 1) (ls' := [some (.ref 190), some (.ref r), some (.int a2), some (.int (-1)), none]) d141_1 rfl rfl) ?_
  refine yL.eq (y_iconst (pc := 2) (v := 0) d141_2 kc_0) ?_
  refine yL.eq (y_istore (pc := 3) (ls' := [some (.ref 190), some (.ref r), some (.int a2), some (.int (-1)), some (.int 0)]) d141_3 rfl rfl) ?_
  exact yL.rf
set_option maxRecDepth 20000 in
set_option maxHeartbeats 4000000 in
theorem e141_5 {r : Nat} {x2 : Int32} {x3 : Int32} {x4 : Int32} (hr : yR r) {M : yM} : yL (if x4 < (M r 15) then yCi false (yX 139 0 [some (.ref 190), some (.ref r), some (.int x4), some (.int x2), none, none] [] M 0 0) fun v3 M2 => if v3 = 0 then yX 141 5 [some (.ref 190), some (.ref r), some (.int x2), some (.int x3), some (.int (x4 + 1))] [] M2 0 0 else if x3 = (-1) then yX 141 5 [some (.ref 190), some (.ref r), some (.int x2), some (.int x4), some (.int (x4 + 1))] [] M2 0 0 else yCi false (yX 140 0 [some (.ref 190), some (.ref r), some (.int x4)] [] M2 0 0) fun v7 M6 => yCi false (yX 140 0 [some (.ref 190), some (.ref r), some (.int x3)] [] M6 0 0) fun v9 M8 => if v7 ≤ v9 then yX 141 5 [some (.ref 190), some (.ref r), some (.int x2), some (.int x3), some (.int (x4 + 1))] [] M8 0 0 else yX 141 5 [some (.ref 190), some (.ref r), some (.int x2), some (.int x4), some (.int (x4 + 1))] [] M8 0 0 else yI x3 M) (yX 141 5 [some (.ref 190), some (.ref r), some (.int x2), some (.int x3), some (.int x4)] [] M 0 0) := by
  refine yL.eq (y_iload (pc := 5) (x := x4) d141_5 rfl) ?_
  refine yL.eq (y_aload_n (pc := 7) (x := r) d141_7 rfl) ?_
  refine yL.eq (y_bipush (pc := 8) (v := 15) d141_8 kb_15) ?_
  refine yL.eq (y_iald (pc := 10) (n := 95) d141_10 (yR_a hr)) ?_
  refine yL.eq (if_pos in_15_95) ?_
  show yL _ (yX 141 11 [some (.ref 190), some (.ref r), some (.int x2), some (.int x3), some (.int x4)] ([.int (M r 15), .int x4]) M 0 0)
  refine yL.eq (y_icmp_ge (pc := 11) (t := 55) d141_11 (by decide)) ?_
  refine yL.ite (fun h1 => ?_) (fun h1 => ?_)
  ·
    refine yL.eq (y_aload_n (pc := 14) (x := 190) d141_14 rfl) ?_
    refine yL.eq (y_aload_n (pc := 15) (x := r) d141_15 rfl) ?_
    refine yL.eq (y_iload (pc := 16) (x := x4) d141_16 rfl) ?_
    refine yL.eq (y_iload_n (pc := 18) (x := x2) d141_18 rfl) ?_
    refine y_callv_i (pc := 19) (n := 4) (n' := 6) (nc' := 0) (ns' := 0) [.ref r, .int x4, .int x2] [] false d141_19 q141_120 mk_139 s_t_190 rfl rfl (Nat.le_of_ble_eq_true rfl) (Nat.le_of_ble_eq_true rfl) rfl (by decide +kernel) (by decide +kernel) (fun v3 M2 => ?_)
    refine yL.eq (y_if_eq (pc := 22) (t := 49) d141_22 (by decide)) ?_
    refine yL.ite (fun h4 => ?_) (fun h4 => ?_)
    ·
      refine yL.eq (y_iinc (pc := 49) (v := 1) (x := x4) (ls' := [some (.ref 190), some (.ref r), some (.int x2), some (.int x3), some (.int (x4 + 1))]) d141_49 kc_1 rfl (Nat.le_of_ble_eq_true rfl) rfl) ?_
      refine yL.eq (y_goto (pc := 52) (t := 5) d141_52 (by decide)) ?_
      exact yL.rf
    ·
      refine yL.eq (y_iload_n (pc := 25) (x := x3) d141_25 rfl) ?_
      refine yL.eq (y_iconst (pc := 26) (v := (-1)) d141_26 kc_m1) ?_
      refine yL.eq (y_icmp_eq (pc := 27) (t := 46) d141_27 (by decide)) ?_
      refine yL.ite (fun h5 => ?_) (fun h5 => ?_)
      ·
        refine yL.eq (y_iload (pc := 46) (x := x4) d141_46 rfl) ?_
        refine yL.eq (y_istore_n (pc := 48) (ls' := [some (.ref 190), some (.ref r), some (.int x2), some (.int x4), some (.int x4)]) d141_48 rfl rfl) ?_
        refine yL.eq (y_iinc (pc := 49) (v := 1) (x := x4) (ls' := [some (.ref 190), some (.ref r), some (.int x2), some (.int x4), some (.int (x4 + 1))]) d141_49 kc_1 rfl (Nat.le_of_ble_eq_true rfl) rfl) ?_
        refine yL.eq (y_goto (pc := 52) (t := 5) d141_52 (by decide)) ?_
        exact yL.rf
      ·
        refine yL.eq (y_aload_n (pc := 30) (x := 190) d141_30 rfl) ?_
        refine yL.eq (y_aload_n (pc := 31) (x := r) d141_31 rfl) ?_
        refine yL.eq (y_iload (pc := 32) (x := x4) d141_32 rfl) ?_
        refine y_callv_i (pc := 34) (n := 3) (n' := 3) (nc' := 0) (ns' := 0) [.ref r, .int x4] [] false d141_34 q141_124 mk_140 s_t_190 rfl rfl (Nat.le_of_ble_eq_true rfl) (Nat.le_of_ble_eq_true rfl) rfl (by decide +kernel) (by decide +kernel) (fun v7 M6 => ?_)
        refine yL.eq (y_aload_n (pc := 37) (x := 190) d141_37 rfl) ?_
        refine yL.eq (y_aload_n (pc := 38) (x := r) d141_38 rfl) ?_
        refine yL.eq (y_iload_n (pc := 39) (x := x3) d141_39 rfl) ?_
        refine y_callv_i (pc := 40) (n := 3) (n' := 3) (nc' := 0) (ns' := 0) [.ref r, .int x3] [.int v7] false d141_40 q141_124 mk_140 s_t_190 rfl rfl (Nat.le_of_ble_eq_true rfl) (Nat.le_of_ble_eq_true rfl) rfl (by decide +kernel) (by decide +kernel) (fun v9 M8 => ?_)
        refine yL.eq (y_icmp_le (pc := 43) (t := 49) d141_43 (by decide)) ?_
        refine yL.ite (fun h10 => ?_) (fun h10 => ?_)
        ·
          refine yL.eq (y_iinc (pc := 49) (v := 1) (x := x4) (ls' := [some (.ref 190), some (.ref r), some (.int x2), some (.int x3), some (.int (x4 + 1))]) d141_49 kc_1 rfl (Nat.le_of_ble_eq_true rfl) rfl) ?_
          refine yL.eq (y_goto (pc := 52) (t := 5) d141_52 (by decide)) ?_
          exact yL.rf
        ·
          refine yL.eq (y_iload (pc := 46) (x := x4) d141_46 rfl) ?_
          refine yL.eq (y_istore_n (pc := 48) (ls' := [some (.ref 190), some (.ref r), some (.int x2), some (.int x4), some (.int x4)]) d141_48 rfl rfl) ?_
          refine yL.eq (y_iinc (pc := 49) (v := 1) (x := x4) (ls' := [some (.ref 190), some (.ref r), some (.int x2), some (.int x4), some (.int (x4 + 1))]) d141_49 kc_1 rfl (Nat.le_of_ble_eq_true rfl) rfl) ?_
          refine yL.eq (y_goto (pc := 52) (t := 5) d141_52 (by decide)) ?_
          exact yL.rf
  ·
    refine yL.eq (y_iload_n (pc := 55) (x := x3) d141_55 rfl) ?_
    exact yL.eq (y_ireti (pc := 56) d141_56 mr_141) yL.rf
set_option maxRecDepth 20000 in
set_option maxHeartbeats 4000000 in
theorem e142 {r : Nat} {a2 : Int32} (hr : yR r) {M : yM} : yL (yX 142 5 [some (.ref 190), some (.ref r), some (.int a2), some (.int (-1)), some (.int 0), none, none] [] M 0 0) (yX 142 0 [some (.ref 190), some (.ref r), some (.int a2), none, none, none, none] [] M 0 0) := by
  refine yL.eq (y_iconst (pc := 0) (v := (-1)) d142_0 kc_m1) ?_
  refine yL.eq (y_istore_n (pc := 1) (ls' := [some (.ref 190), some (.ref r), some (.int a2), some (.int (-1)), none, none, none]) d142_1 rfl rfl) ?_
  refine yL.eq (y_iconst (pc := 2) (v := 0) d142_2 kc_0) ?_
  refine yL.eq (y_istore (pc := 3) (ls' := [some (.ref 190), some (.ref r), some (.int a2), some (.int (-1)), some (.int 0), none, none]) d142_3 rfl rfl) ?_
  exact yL.rf
set_option maxRecDepth 20000 in
set_option maxHeartbeats 4000000 in
theorem e142_5 {r : Nat} {x2 : Int32} {x3 : Int32} {x4 : Int32} {o5 : Option Value} {o6 : Option Value} (hr : yR r) {M : yM} : yL (if x4 < (M r 15) then if yinB x4 14 = true then if (M 197 (yx x4)) = (-1) then yX 142 5 [some (.ref 190), some (.ref r), some (.int x2), some (.int x3), some (.int (x4 + 1)), o5, o6] [] M 0 0 else if yinB x4 14 = true then if yinB x4 14 = true then if (M 198 (yx x4)) ≤ x2 then if ((M 198 (yx x4)) + (M r 92)) ≤ x2 then yX 142 5 [some (.ref 190), some (.ref r), some (.int x2), some (.int x3), some (.int (x4 + 1)), some (.int ((M 198 (yx x4)) + (M r 92))), some (.int (-1))] [] M 0 0 else if ((M 198 (yx x4)) + (M r 92)) = (-1) then yX 142 5 [some (.ref 190), some (.ref r), some (.int x2), some (.int x3), some (.int (x4 + 1)), some (.int ((M 198 (yx x4)) + (M r 92))), some (.int ((M 198 (yx x4)) + (M r 92)))] [] M 0 0 else if x3 = (-1) then yX 142 5 [some (.ref 190), some (.ref r), some (.int x2), some (.int ((M 198 (yx x4)) + (M r 92))), some (.int (x4 + 1)), some (.int ((M 198 (yx x4)) + (M r 92))), some (.int ((M 198 (yx x4)) + (M r 92)))] [] M 0 0 else if ((M 198 (yx x4)) + (M r 92)) < x3 then yX 142 5 [some (.ref 190), some (.ref r), some (.int x2), some (.int ((M 198 (yx x4)) + (M r 92))), some (.int (x4 + 1)), some (.int ((M 198 (yx x4)) + (M r 92))), some (.int ((M 198 (yx x4)) + (M r 92)))] [] M 0 0 else yX 142 5 [some (.ref 190), some (.ref r), some (.int x2), some (.int x3), some (.int (x4 + 1)), some (.int ((M 198 (yx x4)) + (M r 92))), some (.int ((M 198 (yx x4)) + (M r 92)))] [] M 0 0 else if yinB x4 14 = true then if (M 198 (yx x4)) = (-1) then yX 142 5 [some (.ref 190), some (.ref r), some (.int x2), some (.int x3), some (.int (x4 + 1)), some (.int ((M 198 (yx x4)) + (M r 92))), some (.int (M 198 (yx x4)))] [] M 0 0 else if x3 = (-1) then yX 142 5 [some (.ref 190), some (.ref r), some (.int x2), some (.int (M 198 (yx x4))), some (.int (x4 + 1)), some (.int ((M 198 (yx x4)) + (M r 92))), some (.int (M 198 (yx x4)))] [] M 0 0 else if (M 198 (yx x4)) < x3 then yX 142 5 [some (.ref 190), some (.ref r), some (.int x2), some (.int (M 198 (yx x4))), some (.int (x4 + 1)), some (.int ((M 198 (yx x4)) + (M r 92))), some (.int (M 198 (yx x4)))] [] M 0 0 else yX 142 5 [some (.ref 190), some (.ref r), some (.int x2), some (.int x3), some (.int (x4 + 1)), some (.int ((M 198 (yx x4)) + (M r 92))), some (.int (M 198 (yx x4)))] [] M 0 0 else none else none else none else none else yI x3 M) (yX 142 5 [some (.ref 190), some (.ref r), some (.int x2), some (.int x3), some (.int x4), o5, o6] [] M 0 0) := by
  refine yL.eq (y_iload (pc := 5) (x := x4) d142_5 rfl) ?_
  refine yL.eq (y_aload_n (pc := 7) (x := r) d142_7 rfl) ?_
  refine yL.eq (y_bipush (pc := 8) (v := 15) d142_8 kb_15) ?_
  refine yL.eq (y_iald (pc := 10) (n := 95) d142_10 (yR_a hr)) ?_
  refine yL.eq (if_pos in_15_95) ?_
  show yL _ (yX 142 11 [some (.ref 190), some (.ref r), some (.int x2), some (.int x3), some (.int x4), o5, o6] ([.int (M r 15), .int x4]) M 0 0)
  refine yL.eq (y_icmp_ge (pc := 11) (t := 104) d142_11 (by decide)) ?_
  refine yL.ite (fun h1 => ?_) (fun h1 => ?_)
  ·
    refine yL.eq (y_aload_n (pc := 14) (x := 190) d142_14 rfl) ?_
    refine yL.eq (y_getr (pc := 15) (r := 197) d142_15 q142_29 s_r_190_8) ?_
    refine yL.eq (y_iload (pc := 18) (x := x4) d142_18 rfl) ?_
    refine yL.eq (y_iald (pc := 20) (n := 14) d142_20 s_a_197) ?_
    refine yL.gd (fun h2 => ?_)
    refine yL.eq (y_iconst (pc := 21) (v := (-1)) d142_21 kc_m1) ?_
    refine yL.eq (y_icmp_eq (pc := 22) (t := 98) d142_22 (by decide)) ?_
    refine yL.ite (fun h3 => ?_) (fun h3 => ?_)
    ·
      refine yL.eq (y_iinc (pc := 98) (v := 1) (x := x4) (ls' := [some (.ref 190), some (.ref r), some (.int x2), some (.int x3), some (.int (x4 + 1)), o5, o6]) d142_98 kc_1 rfl (Nat.le_of_ble_eq_true rfl) rfl) ?_
      refine yL.eq (y_goto (pc := 101) (t := 5) d142_101 (by decide)) ?_
      exact yL.rf
    ·
      refine yL.eq (y_aload_n (pc := 25) (x := 190) d142_25 rfl) ?_
      refine yL.eq (y_getr (pc := 26) (r := 198) d142_26 q142_32 s_r_190_9) ?_
      refine yL.eq (y_iload (pc := 29) (x := x4) d142_29 rfl) ?_
      refine yL.eq (y_iald (pc := 31) (n := 14) d142_31 s_a_198) ?_
      refine yL.gd (fun h4 => ?_)
      refine yL.eq (y_aload_n (pc := 32) (x := r) d142_32 rfl) ?_
      refine yL.eq (y_bipush (pc := 33) (v := 92) d142_33 kb_92) ?_
      refine yL.eq (y_iald (pc := 35) (n := 95) d142_35 (yR_a hr)) ?_
      refine yL.eq (if_pos in_92_95) ?_
      show yL _ (yX 142 36 [some (.ref 190), some (.ref r), some (.int x2), some (.int x3), some (.int x4), o5, o6] ([.int (M r 92), .int (M 198 (yx x4))]) M 0 0)
      refine yL.eq (y_iadd (pc := 36) d142_36) ?_
      refine yL.eq (y_istore (pc := 37) (ls' := [some (.ref 190), some (.ref r), some (.int x2), some (.int x3), some (.int x4), some (.int ((M 198 (yx x4)) + (M r 92))), o6]) d142_37 rfl rfl) ?_
      refine yL.eq (y_aload_n (pc := 39) (x := 190) d142_39 rfl) ?_
      refine yL.eq (y_getr (pc := 40) (r := 198) d142_40 q142_32 s_r_190_9) ?_
      refine yL.eq (y_iload (pc := 43) (x := x4) d142_43 rfl) ?_
      refine yL.eq (y_iald (pc := 45) (n := 14) d142_45 s_a_198) ?_
      refine yL.gd (fun h5 => ?_)
      refine yL.eq (y_iload_n (pc := 46) (x := x2) d142_46 rfl) ?_
      refine yL.eq (y_icmp_le (pc := 47) (t := 60) d142_47 (by decide)) ?_
      refine yL.ite (fun h6 => ?_) (fun h6 => ?_)
      ·
        refine yL.eq (y_iload (pc := 60) (x := ((M 198 (yx x4)) + (M r 92))) d142_60 rfl) ?_
        refine yL.eq (y_iload_n (pc := 62) (x := x2) d142_62 rfl) ?_
        refine yL.eq (y_icmp_le (pc := 63) (t := 71) d142_63 (by decide)) ?_
        refine yL.ite (fun h7 => ?_) (fun h7 => ?_)
        ·
          refine yL.eq (y_iconst (pc := 71) (v := (-1)) d142_71 kc_m1) ?_
          refine yL.eq (y_istore (pc := 72) (ls' := [some (.ref 190), some (.ref r), some (.int x2), some (.int x3), some (.int x4), some (.int ((M 198 (yx x4)) + (M r 92))), some (.int (-1))]) d142_72 rfl rfl) ?_
          refine yL.eq (y_iload (pc := 74) (x := (-1)) d142_74 rfl) ?_
          refine yL.eq (y_iconst (pc := 76) (v := (-1)) d142_76 kc_m1) ?_
          refine yL.eq (y_icmp_eq (pc := 77) (t := 96) d142_77 (by decide)) ?_
          refine yL.eq (if_pos cp_Int32_m1_eq_m1) ?_
          refine yL.eq (y_iload_n (pc := 96) (x := x3) d142_96 rfl) ?_
          refine yL.eq (y_istore_n (pc := 97) (ls' := [some (.ref 190), some (.ref r), some (.int x2), some (.int x3), some (.int x4), some (.int ((M 198 (yx x4)) + (M r 92))), some (.int (-1))]) d142_97 rfl rfl) ?_
          refine yL.eq (y_iinc (pc := 98) (v := 1) (x := x4) (ls' := [some (.ref 190), some (.ref r), some (.int x2), some (.int x3), some (.int (x4 + 1)), some (.int ((M 198 (yx x4)) + (M r 92))), some (.int (-1))]) d142_98 kc_1 rfl (Nat.le_of_ble_eq_true rfl) rfl) ?_
          refine yL.eq (y_goto (pc := 101) (t := 5) d142_101 (by decide)) ?_
          exact yL.rf
        ·
          refine yL.eq (y_iload (pc := 66) (x := ((M 198 (yx x4)) + (M r 92))) d142_66 rfl) ?_
          refine yL.eq (y_goto (pc := 68) (t := 72) d142_68 (by decide)) ?_
          refine yL.eq (y_istore (pc := 72) (ls' := [some (.ref 190), some (.ref r), some (.int x2), some (.int x3), some (.int x4), some (.int ((M 198 (yx x4)) + (M r 92))), some (.int ((M 198 (yx x4)) + (M r 92)))]) d142_72 rfl rfl) ?_
          refine yL.eq (y_iload (pc := 74) (x := ((M 198 (yx x4)) + (M r 92))) d142_74 rfl) ?_
          refine yL.eq (y_iconst (pc := 76) (v := (-1)) d142_76 kc_m1) ?_
          refine yL.eq (y_icmp_eq (pc := 77) (t := 96) d142_77 (by decide)) ?_
          refine yL.ite (fun h8 => ?_) (fun h8 => ?_)
          ·
            refine yL.eq (y_iload_n (pc := 96) (x := x3) d142_96 rfl) ?_
            refine yL.eq (y_istore_n (pc := 97) (ls' := [some (.ref 190), some (.ref r), some (.int x2), some (.int x3), some (.int x4), some (.int ((M 198 (yx x4)) + (M r 92))), some (.int ((M 198 (yx x4)) + (M r 92)))]) d142_97 rfl rfl) ?_
            refine yL.eq (y_iinc (pc := 98) (v := 1) (x := x4) (ls' := [some (.ref 190), some (.ref r), some (.int x2), some (.int x3), some (.int (x4 + 1)), some (.int ((M 198 (yx x4)) + (M r 92))), some (.int ((M 198 (yx x4)) + (M r 92)))]) d142_98 kc_1 rfl (Nat.le_of_ble_eq_true rfl) rfl) ?_
            refine yL.eq (y_goto (pc := 101) (t := 5) d142_101 (by decide)) ?_
            exact yL.rf
          ·
            refine yL.eq (y_iload_n (pc := 80) (x := x3) d142_80 rfl) ?_
            refine yL.eq (y_iconst (pc := 81) (v := (-1)) d142_81 kc_m1) ?_
            refine yL.eq (y_icmp_eq (pc := 82) (t := 91) d142_82 (by decide)) ?_
            refine yL.ite (fun h9 => ?_) (fun h9 => ?_)
            ·
              refine yL.eq (y_iload (pc := 91) (x := ((M 198 (yx x4)) + (M r 92))) d142_91 rfl) ?_
              refine yL.eq (y_goto (pc := 93) (t := 97) d142_93 (by decide)) ?_
              refine yL.eq (y_istore_n (pc := 97) (ls' := [some (.ref 190), some (.ref r), some (.int x2), some (.int ((M 198 (yx x4)) + (M r 92))), some (.int x4), some (.int ((M 198 (yx x4)) + (M r 92))), some (.int ((M 198 (yx x4)) + (M r 92)))]) d142_97 rfl rfl) ?_
              refine yL.eq (y_iinc (pc := 98) (v := 1) (x := x4) (ls' := [some (.ref 190), some (.ref r), some (.int x2), some (.int ((M 198 (yx x4)) + (M r 92))), some (.int (x4 + 1)), some (.int ((M 198 (yx x4)) + (M r 92))), some (.int ((M 198 (yx x4)) + (M r 92)))]) d142_98 kc_1 rfl (Nat.le_of_ble_eq_true rfl) rfl) ?_
              refine yL.eq (y_goto (pc := 101) (t := 5) d142_101 (by decide)) ?_
              exact yL.rf
            ·
              refine yL.eq (y_iload (pc := 85) (x := ((M 198 (yx x4)) + (M r 92))) d142_85 rfl) ?_
              refine yL.eq (y_iload_n (pc := 87) (x := x3) d142_87 rfl) ?_
              refine yL.eq (y_icmp_ge (pc := 88) (t := 96) d142_88 (by decide)) ?_
              refine yL.ite (fun h10 => ?_) (fun h10 => ?_)
              ·
                refine yL.eq (y_iload (pc := 91) (x := ((M 198 (yx x4)) + (M r 92))) d142_91 rfl) ?_
                refine yL.eq (y_goto (pc := 93) (t := 97) d142_93 (by decide)) ?_
                refine yL.eq (y_istore_n (pc := 97) (ls' := [some (.ref 190), some (.ref r), some (.int x2), some (.int ((M 198 (yx x4)) + (M r 92))), some (.int x4), some (.int ((M 198 (yx x4)) + (M r 92))), some (.int ((M 198 (yx x4)) + (M r 92)))]) d142_97 rfl rfl) ?_
                refine yL.eq (y_iinc (pc := 98) (v := 1) (x := x4) (ls' := [some (.ref 190), some (.ref r), some (.int x2), some (.int ((M 198 (yx x4)) + (M r 92))), some (.int (x4 + 1)), some (.int ((M 198 (yx x4)) + (M r 92))), some (.int ((M 198 (yx x4)) + (M r 92)))]) d142_98 kc_1 rfl (Nat.le_of_ble_eq_true rfl) rfl) ?_
                refine yL.eq (y_goto (pc := 101) (t := 5) d142_101 (by decide)) ?_
                exact yL.rf
              ·
                refine yL.eq (y_iload_n (pc := 96) (x := x3) d142_96 rfl) ?_
                refine yL.eq (y_istore_n (pc := 97) (ls' := [some (.ref 190), some (.ref r), some (.int x2), some (.int x3), some (.int x4), some (.int ((M 198 (yx x4)) + (M r 92))), some (.int ((M 198 (yx x4)) + (M r 92)))]) d142_97 rfl rfl) ?_
                refine yL.eq (y_iinc (pc := 98) (v := 1) (x := x4) (ls' := [some (.ref 190), some (.ref r), some (.int x2), some (.int x3), some (.int (x4 + 1)), some (.int ((M 198 (yx x4)) + (M r 92))), some (.int ((M 198 (yx x4)) + (M r 92)))]) d142_98 kc_1 rfl (Nat.le_of_ble_eq_true rfl) rfl) ?_
                refine yL.eq (y_goto (pc := 101) (t := 5) d142_101 (by decide)) ?_
                exact yL.rf
      ·
        refine yL.eq (y_aload_n (pc := 50) (x := 190) d142_50 rfl) ?_
        refine yL.eq (y_getr (pc := 51) (r := 198) d142_51 q142_32 s_r_190_9) ?_
        refine yL.eq (y_iload (pc := 54) (x := x4) d142_54 rfl) ?_
        refine yL.eq (y_iald (pc := 56) (n := 14) d142_56 s_a_198) ?_
        refine yL.gd (fun h11 => ?_)
        refine yL.eq (y_goto (pc := 57) (t := 72) d142_57 (by decide)) ?_
        refine yL.eq (y_istore (pc := 72) (ls' := [some (.ref 190), some (.ref r), some (.int x2), some (.int x3), some (.int x4), some (.int ((M 198 (yx x4)) + (M r 92))), some (.int (M 198 (yx x4)))]) d142_72 rfl rfl) ?_
        refine yL.eq (y_iload (pc := 74) (x := (M 198 (yx x4))) d142_74 rfl) ?_
        refine yL.eq (y_iconst (pc := 76) (v := (-1)) d142_76 kc_m1) ?_
        refine yL.eq (y_icmp_eq (pc := 77) (t := 96) d142_77 (by decide)) ?_
        refine yL.ite (fun h12 => ?_) (fun h12 => ?_)
        ·
          refine yL.eq (y_iload_n (pc := 96) (x := x3) d142_96 rfl) ?_
          refine yL.eq (y_istore_n (pc := 97) (ls' := [some (.ref 190), some (.ref r), some (.int x2), some (.int x3), some (.int x4), some (.int ((M 198 (yx x4)) + (M r 92))), some (.int (M 198 (yx x4)))]) d142_97 rfl rfl) ?_
          refine yL.eq (y_iinc (pc := 98) (v := 1) (x := x4) (ls' := [some (.ref 190), some (.ref r), some (.int x2), some (.int x3), some (.int (x4 + 1)), some (.int ((M 198 (yx x4)) + (M r 92))), some (.int (M 198 (yx x4)))]) d142_98 kc_1 rfl (Nat.le_of_ble_eq_true rfl) rfl) ?_
          refine yL.eq (y_goto (pc := 101) (t := 5) d142_101 (by decide)) ?_
          exact yL.rf
        ·
          refine yL.eq (y_iload_n (pc := 80) (x := x3) d142_80 rfl) ?_
          refine yL.eq (y_iconst (pc := 81) (v := (-1)) d142_81 kc_m1) ?_
          refine yL.eq (y_icmp_eq (pc := 82) (t := 91) d142_82 (by decide)) ?_
          refine yL.ite (fun h13 => ?_) (fun h13 => ?_)
          ·
            refine yL.eq (y_iload (pc := 91) (x := (M 198 (yx x4))) d142_91 rfl) ?_
            refine yL.eq (y_goto (pc := 93) (t := 97) d142_93 (by decide)) ?_
            refine yL.eq (y_istore_n (pc := 97) (ls' := [some (.ref 190), some (.ref r), some (.int x2), some (.int (M 198 (yx x4))), some (.int x4), some (.int ((M 198 (yx x4)) + (M r 92))), some (.int (M 198 (yx x4)))]) d142_97 rfl rfl) ?_
            refine yL.eq (y_iinc (pc := 98) (v := 1) (x := x4) (ls' := [some (.ref 190), some (.ref r), some (.int x2), some (.int (M 198 (yx x4))), some (.int (x4 + 1)), some (.int ((M 198 (yx x4)) + (M r 92))), some (.int (M 198 (yx x4)))]) d142_98 kc_1 rfl (Nat.le_of_ble_eq_true rfl) rfl) ?_
            refine yL.eq (y_goto (pc := 101) (t := 5) d142_101 (by decide)) ?_
            exact yL.rf
          ·
            refine yL.eq (y_iload (pc := 85) (x := (M 198 (yx x4))) d142_85 rfl) ?_
            refine yL.eq (y_iload_n (pc := 87) (x := x3) d142_87 rfl) ?_
            refine yL.eq (y_icmp_ge (pc := 88) (t := 96) d142_88 (by decide)) ?_
            refine yL.ite (fun h14 => ?_) (fun h14 => ?_)
            ·
              refine yL.eq (y_iload (pc := 91) (x := (M 198 (yx x4))) d142_91 rfl) ?_
              refine yL.eq (y_goto (pc := 93) (t := 97) d142_93 (by decide)) ?_
              refine yL.eq (y_istore_n (pc := 97) (ls' := [some (.ref 190), some (.ref r), some (.int x2), some (.int (M 198 (yx x4))), some (.int x4), some (.int ((M 198 (yx x4)) + (M r 92))), some (.int (M 198 (yx x4)))]) d142_97 rfl rfl) ?_
              refine yL.eq (y_iinc (pc := 98) (v := 1) (x := x4) (ls' := [some (.ref 190), some (.ref r), some (.int x2), some (.int (M 198 (yx x4))), some (.int (x4 + 1)), some (.int ((M 198 (yx x4)) + (M r 92))), some (.int (M 198 (yx x4)))]) d142_98 kc_1 rfl (Nat.le_of_ble_eq_true rfl) rfl) ?_
              refine yL.eq (y_goto (pc := 101) (t := 5) d142_101 (by decide)) ?_
              exact yL.rf
            ·
              refine yL.eq (y_iload_n (pc := 96) (x := x3) d142_96 rfl) ?_
              refine yL.eq (y_istore_n (pc := 97) (ls' := [some (.ref 190), some (.ref r), some (.int x2), some (.int x3), some (.int x4), some (.int ((M 198 (yx x4)) + (M r 92))), some (.int (M 198 (yx x4)))]) d142_97 rfl rfl) ?_
              refine yL.eq (y_iinc (pc := 98) (v := 1) (x := x4) (ls' := [some (.ref 190), some (.ref r), some (.int x2), some (.int x3), some (.int (x4 + 1)), some (.int ((M 198 (yx x4)) + (M r 92))), some (.int (M 198 (yx x4)))]) d142_98 kc_1 rfl (Nat.le_of_ble_eq_true rfl) rfl) ?_
              refine yL.eq (y_goto (pc := 101) (t := 5) d142_101 (by decide)) ?_
              exact yL.rf
  ·
    refine yL.eq (y_iload_n (pc := 104) (x := x3) d142_104 rfl) ?_
    exact yL.eq (y_ireti (pc := 105) d142_105 mr_142) yL.rf
set_option maxRecDepth 20000 in
set_option maxHeartbeats 4000000 in
theorem e143 {r : Nat} (hr : yR r) {M : yM} : yL (yLet (yU M 190 11 0) fun M1 => yX 143 7 [some (.ref 190), some (.ref r), some (.int 0), none] [] M1 0 0) (yX 143 0 [some (.ref 190), some (.ref r), none, none] [] M 0 0) := by
  refine yL.eq (y_aload_n (pc := 0) (x := 190) d143_0 rfl) ?_
  refine yL.eq (y_iconst (pc := 1) (v := 0) d143_1 kc_0) ?_
  refine y_putiL (pc := 2) d143_2 q143_127 s_i_190_11 rfl (fun M1 => ?_)
  refine yL.eq (y_iconst (pc := 5) (v := 0) d143_5 kc_0) ?_
  refine yL.eq (y_istore_n (pc := 6) (ls' := [some (.ref 190), some (.ref r), some (.int 0), none]) d143_6 rfl rfl) ?_
  exact yL.rf
set_option maxRecDepth 20000 in
set_option maxHeartbeats 4000000 in
theorem e143_7 {r : Nat} {x2 : Int32} {o3 : Option Value} (hr : yR r) {M : yM} : yL (if x2 < 14 then if yinB x2 14 = true then yLet (yU M 197 (yx x2) (-1)) fun M2 => if yinB x2 14 = true then yLet (yU M2 198 (yx x2) (-1)) fun M4 => yX 143 7 [some (.ref 190), some (.ref r), some (.int (x2 + 1)), o3] [] M4 0 0 else none else none else yCv false (yX 132 0 [some (.ref 190), some (.ref r), none, none, none, none] [] M 0 0) fun M6 => yX 143 40 [some (.ref 190), some (.ref r), some (.int 0), o3] [] M6 0 0) (yX 143 7 [some (.ref 190), some (.ref r), some (.int x2), o3] [] M 0 0) := by
  refine yL.eq (y_iload_n (pc := 7) (x := x2) d143_7 rfl) ?_
  refine yL.eq (y_bipush (pc := 8) (v := 14) d143_8 kb_14) ?_
  refine yL.eq (y_icmp_ge (pc := 10) (t := 33) d143_10 (by decide)) ?_
  refine yL.ite (fun h1 => ?_) (fun h1 => ?_)
  ·
    refine yL.eq (y_aload_n (pc := 13) (x := 190) d143_13 rfl) ?_
    refine yL.eq (y_getr (pc := 14) (r := 197) d143_14 q143_29 s_r_190_8) ?_
    refine yL.eq (y_iload_n (pc := 17) (x := x2) d143_17 rfl) ?_
    refine yL.eq (y_iconst (pc := 18) (v := (-1)) d143_18 kc_m1) ?_
    refine y_iastL (pc := 19) (n := 14) d143_19 s_a_197 (fun h3 M2 => ?_)
    refine yL.eq (y_aload_n (pc := 20) (x := 190) d143_20 rfl) ?_
    refine yL.eq (y_getr (pc := 21) (r := 198) d143_21 q143_32 s_r_190_9) ?_
    refine yL.eq (y_iload_n (pc := 24) (x := x2) d143_24 rfl) ?_
    refine yL.eq (y_iconst (pc := 25) (v := (-1)) d143_25 kc_m1) ?_
    refine y_iastL (pc := 26) (n := 14) d143_26 s_a_198 (fun h5 M4 => ?_)
    refine yL.eq (y_iinc (pc := 27) (v := 1) (x := x2) (ls' := [some (.ref 190), some (.ref r), some (.int (x2 + 1)), o3]) d143_27 kc_1 rfl (Nat.le_of_ble_eq_true rfl) rfl) ?_
    refine yL.eq (y_goto (pc := 30) (t := 7) d143_30 (by decide)) ?_
    exact yL.rf
  ·
    refine yL.eq (y_aload_n (pc := 33) (x := 190) d143_33 rfl) ?_
    refine yL.eq (y_aload_n (pc := 34) (x := r) d143_34 rfl) ?_
    refine y_callv_v (pc := 35) (n := 2) (n' := 6) (nc' := 0) (ns' := 0) [.ref r] [] false d143_35 q143_98 mk_132 s_t_190 rfl rfl (Nat.le_of_ble_eq_true rfl) (Nat.le_of_ble_eq_true rfl) rfl (by decide +kernel) (by decide +kernel) (fun M6 => ?_)
    refine yL.eq (y_iconst (pc := 38) (v := 0) d143_38 kc_0) ?_
    refine yL.eq (y_istore_n (pc := 39) (ls' := [some (.ref 190), some (.ref r), some (.int 0), o3]) d143_39 rfl rfl) ?_
    exact yL.rf
set_option maxRecDepth 20000 in
set_option maxHeartbeats 4000000 in
theorem e143_40 {r : Nat} {x2 : Int32} {o3 : Option Value} (hr : yR r) {M : yM} : yL (if x2 = (-1) then yV M else yCi false (yX 141 0 [some (.ref 190), some (.ref r), some (.int x2), none, none] [] M 0 0) fun v3 M2 => yX 143 52 [some (.ref 190), some (.ref r), some (.int x2), some (.int v3)] [] M2 0 0) (yX 143 40 [some (.ref 190), some (.ref r), some (.int x2), o3] [] M 0 0) := by
  refine yL.eq (y_iload_n (pc := 40) (x := x2) d143_40 rfl) ?_
  refine yL.eq (y_iconst (pc := 41) (v := (-1)) d143_41 kc_m1) ?_
  refine yL.eq (y_icmp_eq (pc := 42) (t := 118) d143_42 (by decide)) ?_
  refine yL.ite (fun h1 => ?_) (fun h1 => ?_)
  ·
    exact yL.eq (y_ret (pc := 118) d143_118 mr_143) yL.rf
  ·
    refine yL.eq (y_aload_n (pc := 45) (x := 190) d143_45 rfl) ?_
    refine yL.eq (y_aload_n (pc := 46) (x := r) d143_46 rfl) ?_
    refine yL.eq (y_iload_n (pc := 47) (x := x2) d143_47 rfl) ?_
    refine y_callv_i (pc := 48) (n := 3) (n' := 5) (nc' := 0) (ns' := 0) [.ref r, .int x2] [] false d143_48 q143_130 mk_141 s_t_190 rfl rfl (Nat.le_of_ble_eq_true rfl) (Nat.le_of_ble_eq_true rfl) rfl (by decide +kernel) (by decide +kernel) (fun v3 M2 => ?_)
    refine yL.eq (y_istore_n (pc := 51) (ls' := [some (.ref 190), some (.ref r), some (.int x2), some (.int v3)]) d143_51 rfl rfl) ?_
    exact yL.rf
set_option maxRecDepth 20000 in
set_option maxHeartbeats 4000000 in
theorem e143_52 {r : Nat} {x2 : Int32} {x3 : Int32} (hr : yR r) {M : yM} : yL (if x3 = (-1) then yCi false (yX 142 0 [some (.ref 190), some (.ref r), some (.int x2), none, none, none, none] [] M 0 0) fun v3 M2 => yX 143 40 [some (.ref 190), some (.ref r), some (.int v3), some (.int x3)] [] M2 0 0 else if yinB x3 14 = true then yLet (yU M 197 (yx x3) x2) fun M4 => if yinB (16 + x3) 95 = true then if yinB x3 14 = true then yLet (yU M4 198 (yx x3) (x2 + (M4 r (yx (16 + x3))))) fun M7 => if yinB (M7 190 11) 14 = true then yLet (yU M7 199 (yx (M7 190 11)) x3) fun M9 => yLet (yU M9 190 11 ((M9 190 11) + 1)) fun M11 => yCi false (yX 141 0 [some (.ref 190), some (.ref r), some (.int x2), none, none] [] M11 0 0) fun v13 M12 => yX 143 52 [some (.ref 190), some (.ref r), some (.int x2), some (.int v13)] [] M12 0 0 else none else none else none else none) (yX 143 52 [some (.ref 190), some (.ref r), some (.int x2), some (.int x3)] [] M 0 0) := by
  refine yL.eq (y_iload_n (pc := 52) (x := x3) d143_52 rfl) ?_
  refine yL.eq (y_iconst (pc := 53) (v := (-1)) d143_53 kc_m1) ?_
  refine yL.eq (y_icmp_eq (pc := 54) (t := 108) d143_54 (by decide)) ?_
  refine yL.ite (fun h1 => ?_) (fun h1 => ?_)
  ·
    refine yL.eq (y_aload_n (pc := 108) (x := 190) d143_108 rfl) ?_
    refine yL.eq (y_aload_n (pc := 109) (x := r) d143_109 rfl) ?_
    refine yL.eq (y_iload_n (pc := 110) (x := x2) d143_110 rfl) ?_
    refine y_callv_i (pc := 111) (n := 3) (n' := 7) (nc' := 0) (ns' := 0) [.ref r, .int x2] [] false d143_111 q143_133 mk_142 s_t_190 rfl rfl (Nat.le_of_ble_eq_true rfl) (Nat.le_of_ble_eq_true rfl) rfl (by decide +kernel) (by decide +kernel) (fun v3 M2 => ?_)
    refine yL.eq (y_istore_n (pc := 114) (ls' := [some (.ref 190), some (.ref r), some (.int v3), some (.int x3)]) d143_114 rfl rfl) ?_
    refine yL.eq (y_goto (pc := 115) (t := 40) d143_115 (by decide)) ?_
    exact yL.rf
  ·
    refine yL.eq (y_aload_n (pc := 57) (x := 190) d143_57 rfl) ?_
    refine yL.eq (y_getr (pc := 58) (r := 197) d143_58 q143_29 s_r_190_8) ?_
    refine yL.eq (y_iload_n (pc := 61) (x := x3) d143_61 rfl) ?_
    refine yL.eq (y_iload_n (pc := 62) (x := x2) d143_62 rfl) ?_
    refine y_iastL (pc := 63) (n := 14) d143_63 s_a_197 (fun h5 M4 => ?_)
    refine yL.eq (y_aload_n (pc := 64) (x := 190) d143_64 rfl) ?_
    refine yL.eq (y_getr (pc := 65) (r := 198) d143_65 q143_32 s_r_190_9) ?_
    refine yL.eq (y_iload_n (pc := 68) (x := x3) d143_68 rfl) ?_
    refine yL.eq (y_iload_n (pc := 69) (x := x2) d143_69 rfl) ?_
    refine yL.eq (y_aload_n (pc := 70) (x := r) d143_70 rfl) ?_
    refine yL.eq (y_bipush (pc := 71) (v := 16) d143_71 kb_16) ?_
    refine yL.eq (y_iload_n (pc := 73) (x := x3) d143_73 rfl) ?_
    refine yL.eq (y_iadd (pc := 74) d143_74) ?_
    refine yL.eq (y_iald (pc := 75) (n := 95) d143_75 (yR_a hr)) ?_
    refine yL.gd (fun h6 => ?_)
    refine yL.eq (y_iadd (pc := 76) d143_76) ?_
    refine y_iastL (pc := 77) (n := 14) d143_77 s_a_198 (fun h8 M7 => ?_)
    refine yL.eq (y_aload_n (pc := 78) (x := 190) d143_78 rfl) ?_
    refine yL.eq (y_getr (pc := 79) (r := 199) d143_79 q143_35 s_r_190_10) ?_
    refine yL.eq (y_aload_n (pc := 82) (x := 190) d143_82 rfl) ?_
    refine yL.eq (y_geti (pc := 83) d143_83 q143_127 s_i_190_11) ?_
    refine yL.eq (y_iload_n (pc := 86) (x := x3) d143_86 rfl) ?_
    refine y_iastL (pc := 87) (n := 14) d143_87 s_a_199 (fun h10 M9 => ?_)
    refine yL.eq (y_aload_n (pc := 88) (x := 190) d143_88 rfl) ?_
    refine yL.eq (y_dup (pc := 89) d143_89 rfl) ?_
    refine yL.eq (y_geti (pc := 90) d143_90 q143_127 s_i_190_11) ?_
    refine yL.eq (y_iconst (pc := 93) (v := 1) d143_93 kc_1) ?_
    refine yL.eq (y_iadd (pc := 94) d143_94) ?_
    refine y_putiL (pc := 95) d143_95 q143_127 s_i_190_11 rfl (fun M11 => ?_)
    refine yL.eq (y_aload_n (pc := 98) (x := 190) d143_98 rfl) ?_
    refine yL.eq (y_aload_n (pc := 99) (x := r) d143_99 rfl) ?_
    refine yL.eq (y_iload_n (pc := 100) (x := x2) d143_100 rfl) ?_
    refine y_callv_i (pc := 101) (n := 3) (n' := 5) (nc' := 0) (ns' := 0) [.ref r, .int x2] [] false d143_101 q143_130 mk_141 s_t_190 rfl rfl (Nat.le_of_ble_eq_true rfl) (Nat.le_of_ble_eq_true rfl) rfl (by decide +kernel) (by decide +kernel) (fun v13 M12 => ?_)
    refine yL.eq (y_istore_n (pc := 104) (ls' := [some (.ref 190), some (.ref r), some (.int x2), some (.int v13)]) d143_104 rfl rfl) ?_
    refine yL.eq (y_goto (pc := 105) (t := 52) d143_105 (by decide)) ?_
    exact yL.rf
set_option maxRecDepth 20000 in
set_option maxHeartbeats 4000000 in
theorem e144 {r : Nat} (hr : yR r) {M : yM} : yL (yCv false (yX 143 0 [some (.ref 190), some (.ref r), none, none] [] M 0 0) fun M1 => yX 144 9 [some (.ref 190), some (.ref r), some (.int 0), some (.int 0)] [] M1 0 0) (yX 144 0 [some (.ref 190), some (.ref r), none, none] [] M 0 0) := by
  refine yL.eq (y_aload_n (pc := 0) (x := 190) d144_0 rfl) ?_
  refine yL.eq (y_aload_n (pc := 1) (x := r) d144_1 rfl) ?_
  refine y_callv_v (pc := 2) (n := 2) (n' := 4) (nc' := 0) (ns' := 0) [.ref r] [] false d144_2 q144_136 mk_143 s_t_190 rfl rfl (Nat.le_of_ble_eq_true rfl) (Nat.le_of_ble_eq_true rfl) rfl (by decide +kernel) (by decide +kernel) (fun M1 => ?_)
  refine yL.eq (y_iconst (pc := 5) (v := 0) d144_5 kc_0) ?_
  refine yL.eq (y_istore_n (pc := 6) (ls' := [some (.ref 190), some (.ref r), some (.int 0), none]) d144_6 rfl rfl) ?_
  refine yL.eq (y_iconst (pc := 7) (v := 0) d144_7 kc_0) ?_
  refine yL.eq (y_istore_n (pc := 8) (ls' := [some (.ref 190), some (.ref r), some (.int 0), some (.int 0)]) d144_8 rfl rfl) ?_
  exact yL.rf
set_option maxRecDepth 20000 in
set_option maxHeartbeats 4000000 in
theorem e144_9 {r : Nat} {x2 : Int32} {x3 : Int32} (hr : yR r) {M : yM} : yL (if x3 < (M r 15) then if yinB x3 14 = true then if (M 198 (yx x3)) ≤ x2 then yX 144 9 [some (.ref 190), some (.ref r), some (.int x2), some (.int (x3 + 1))] [] M 0 0 else if yinB x3 14 = true then yX 144 9 [some (.ref 190), some (.ref r), some (.int (M 198 (yx x3))), some (.int (x3 + 1))] [] M 0 0 else none else none else yI x2 M) (yX 144 9 [some (.ref 190), some (.ref r), some (.int x2), some (.int x3)] [] M 0 0) := by
  refine yL.eq (y_iload_n (pc := 9) (x := x3) d144_9 rfl) ?_
  refine yL.eq (y_aload_n (pc := 10) (x := r) d144_10 rfl) ?_
  refine yL.eq (y_bipush (pc := 11) (v := 15) d144_11 kb_15) ?_
  refine yL.eq (y_iald (pc := 13) (n := 95) d144_13 (yR_a hr)) ?_
  refine yL.eq (if_pos in_15_95) ?_
  show yL _ (yX 144 14 [some (.ref 190), some (.ref r), some (.int x2), some (.int x3)] ([.int (M r 15), .int x3]) M 0 0)
  refine yL.eq (y_icmp_ge (pc := 14) (t := 44) d144_14 (by decide)) ?_
  refine yL.ite (fun h1 => ?_) (fun h1 => ?_)
  ·
    refine yL.eq (y_aload_n (pc := 17) (x := 190) d144_17 rfl) ?_
    refine yL.eq (y_getr (pc := 18) (r := 198) d144_18 q144_32 s_r_190_9) ?_
    refine yL.eq (y_iload_n (pc := 21) (x := x3) d144_21 rfl) ?_
    refine yL.eq (y_iald (pc := 22) (n := 14) d144_22 s_a_198) ?_
    refine yL.gd (fun h2 => ?_)
    refine yL.eq (y_iload_n (pc := 23) (x := x2) d144_23 rfl) ?_
    refine yL.eq (y_icmp_le (pc := 24) (t := 36) d144_24 (by decide)) ?_
    refine yL.ite (fun h3 => ?_) (fun h3 => ?_)
    ·
      refine yL.eq (y_iload_n (pc := 36) (x := x2) d144_36 rfl) ?_
      refine yL.eq (y_istore_n (pc := 37) (ls' := [some (.ref 190), some (.ref r), some (.int x2), some (.int x3)]) d144_37 rfl rfl) ?_
      refine yL.eq (y_iinc (pc := 38) (v := 1) (x := x3) (ls' := [some (.ref 190), some (.ref r), some (.int x2), some (.int (x3 + 1))]) d144_38 kc_1 rfl (Nat.le_of_ble_eq_true rfl) rfl) ?_
      refine yL.eq (y_goto (pc := 41) (t := 9) d144_41 (by decide)) ?_
      exact yL.rf
    ·
      refine yL.eq (y_aload_n (pc := 27) (x := 190) d144_27 rfl) ?_
      refine yL.eq (y_getr (pc := 28) (r := 198) d144_28 q144_32 s_r_190_9) ?_
      refine yL.eq (y_iload_n (pc := 31) (x := x3) d144_31 rfl) ?_
      refine yL.eq (y_iald (pc := 32) (n := 14) d144_32 s_a_198) ?_
      refine yL.gd (fun h4 => ?_)
      refine yL.eq (y_goto (pc := 33) (t := 37) d144_33 (by decide)) ?_
      refine yL.eq (y_istore_n (pc := 37) (ls' := [some (.ref 190), some (.ref r), some (.int (M 198 (yx x3))), some (.int x3)]) d144_37 rfl rfl) ?_
      refine yL.eq (y_iinc (pc := 38) (v := 1) (x := x3) (ls' := [some (.ref 190), some (.ref r), some (.int (M 198 (yx x3))), some (.int (x3 + 1))]) d144_38 kc_1 rfl (Nat.le_of_ble_eq_true rfl) rfl) ?_
      refine yL.eq (y_goto (pc := 41) (t := 9) d144_41 (by decide)) ?_
      exact yL.rf
  ·
    refine yL.eq (y_iload_n (pc := 44) (x := x2) d144_44 rfl) ?_
    exact yL.eq (y_ireti (pc := 45) d144_45 mr_144) yL.rf
set_option maxRecDepth 20000 in
set_option maxHeartbeats 4000000 in
theorem e145 {r : Nat} (hr : yR r) {M : yM} : yL (yCv false (yX 143 0 [some (.ref 190), some (.ref r), none, none] [] M 0 0) fun M1 => yI ((M1 r 15) - (M1 190 11)) M1) (yX 145 0 [some (.ref 190), some (.ref r)] [] M 0 0) := by
  refine yL.eq (y_aload_n (pc := 0) (x := 190) d145_0 rfl) ?_
  refine yL.eq (y_aload_n (pc := 1) (x := r) d145_1 rfl) ?_
  refine y_callv_v (pc := 2) (n := 2) (n' := 4) (nc' := 0) (ns' := 0) [.ref r] [] false d145_2 q145_136 mk_143 s_t_190 rfl rfl (Nat.le_of_ble_eq_true rfl) (Nat.le_of_ble_eq_true rfl) rfl (by decide +kernel) (by decide +kernel) (fun M1 => ?_)
  refine yL.eq (y_aload_n (pc := 5) (x := r) d145_5 rfl) ?_
  refine yL.eq (y_bipush (pc := 6) (v := 15) d145_6 kb_15) ?_
  refine yL.eq (y_iald (pc := 8) (n := 95) d145_8 (yR_a hr)) ?_
  refine yL.eq (if_pos in_15_95) ?_
  show yL _ (yX 145 9 [some (.ref 190), some (.ref r)] ([.int (M1 r 15)]) M1 0 0)
  refine yL.eq (y_aload_n (pc := 9) (x := 190) d145_9 rfl) ?_
  refine yL.eq (y_geti (pc := 10) d145_10 q145_127 s_i_190_11) ?_
  refine yL.eq (y_isub (pc := 13) d145_13) ?_
  exact yL.eq (y_ireti (pc := 14) d145_14 mr_145) yL.rf
set_option maxRecDepth 20000 in
set_option maxHeartbeats 4000000 in
theorem e146 {r : Nat} {a1 : Int32} {a2 : Int32} (hr : yR r) {M : yM} : yL (if yinB a1 95 = true then if yinB a1 95 = true then yLet (yU M r (yx a1) a2) fun M2 => yI (M r (yx a1)) M2 else none else none) (yX 146 0 [some (.ref r), some (.int a1), some (.int a2), none] [] M 0 0) := by
  refine yL.eq (y_aload_n (pc := 0) (x := r) d146_0 rfl) ?_
  refine yL.eq (y_iload_n (pc := 1) (x := a1) d146_1 rfl) ?_
  refine yL.eq (y_iald (pc := 2) (n := 95) d146_2 (yR_a hr)) ?_
  refine yL.gd (fun h1 => ?_)
  refine yL.eq (y_istore_n (pc := 3) (ls' := [some (.ref r), some (.int a1), some (.int a2), some (.int (M r (yx a1)))]) d146_3 rfl rfl) ?_
  refine yL.eq (y_aload_n (pc := 4) (x := r) d146_4 rfl) ?_
  refine yL.eq (y_iload_n (pc := 5) (x := a1) d146_5 rfl) ?_
  refine yL.eq (y_iload_n (pc := 6) (x := a2) d146_6 rfl) ?_
  refine y_iastL (pc := 7) (n := 95) d146_7 (yR_a hr) (fun h3 M2 => ?_)
  refine yL.eq (y_iload_n (pc := 8) (x := (M r (yx a1))) d146_8 rfl) ?_
  exact yL.eq (y_ireti (pc := 9) d146_9 mr_146) yL.rf
set_option maxRecDepth 20000 in
set_option maxHeartbeats 4000000 in
theorem e147 {r : Nat} {a1 : Int32} (hr : yR r) {M : yM} : yL (if yinB (1 + (M r 0)) 95 = true then yLet (yU M r (yx (1 + (M r 0))) a1) fun M1 => if yinB 0 95 = true then yLet (yU M1 r (yx 0) ((M1 r 0) + 1)) fun M3 => yI ((M3 r 0) - 1) M3 else none else none) (yX 147 0 [some (.ref r), some (.int a1)] [] M 0 0) := by
  refine yL.eq (y_aload_n (pc := 0) (x := r) d147_0 rfl) ?_
  refine yL.eq (y_iconst (pc := 1) (v := 1) d147_1 kc_1) ?_
  refine yL.eq (y_aload_n (pc := 2) (x := r) d147_2 rfl) ?_
  refine yL.eq (y_iconst (pc := 3) (v := 0) d147_3 kc_0) ?_
  refine yL.eq (y_iald (pc := 4) (n := 95) d147_4 (yR_a hr)) ?_
  refine yL.eq (if_pos in_0_95) ?_
  show yL _ (yX 147 5 [some (.ref r), some (.int a1)] ([.int (M r 0), .int 1, .ref r]) M 0 0)
  refine yL.eq (y_iadd (pc := 5) d147_5) ?_
  refine yL.eq (y_iload_n (pc := 6) (x := a1) d147_6 rfl) ?_
  refine y_iastL (pc := 7) (n := 95) d147_7 (yR_a hr) (fun h2 M1 => ?_)
  refine yL.eq (y_aload_n (pc := 8) (x := r) d147_8 rfl) ?_
  refine yL.eq (y_iconst (pc := 9) (v := 0) d147_9 kc_0) ?_
  refine yL.eq (y_dup2 (pc := 10) d147_10 rfl) ?_
  refine yL.eq (y_iald (pc := 11) (n := 95) d147_11 (yR_a hr)) ?_
  refine yL.eq (if_pos in_0_95) ?_
  show yL _ (yX 147 12 [some (.ref r), some (.int a1)] ([.int (M1 r 0), .int 0, .ref r]) M1 0 0)
  refine yL.eq (y_iconst (pc := 12) (v := 1) d147_12 kc_1) ?_
  refine yL.eq (y_iadd (pc := 13) d147_13) ?_
  refine y_iastL (pc := 14) (n := 95) d147_14 (yR_a hr) (fun h4 M3 => ?_)
  refine yL.eq (y_aload_n (pc := 15) (x := r) d147_15 rfl) ?_
  refine yL.eq (y_iconst (pc := 16) (v := 0) d147_16 kc_0) ?_
  refine yL.eq (y_iald (pc := 17) (n := 95) d147_17 (yR_a hr)) ?_
  refine yL.eq (if_pos in_0_95) ?_
  show yL _ (yX 147 18 [some (.ref r), some (.int a1)] ([.int (M3 r 0)]) M3 0 0)
  refine yL.eq (y_iconst (pc := 18) (v := 1) d147_18 kc_1) ?_
  refine yL.eq (y_isub (pc := 19) d147_19) ?_
  exact yL.eq (y_ireti (pc := 20) d147_20 mr_147) yL.rf
set_option maxRecDepth 20000 in
set_option maxHeartbeats 4000000 in
theorem e148 {r : Nat} {a1 : Int32} {a2 : Int32} (hr : yR r) {M : yM} : yL (if yinB 13 95 = true then yLet (yU M r (yx 13) a1) fun M1 => if yinB 14 95 = true then yLet (yU M1 r (yx 14) a2) fun M3 => yCi false (yX 128 0 [some (.ref r), none, none] [] M3 0 0) fun v6 M5 => yI v6 M5 else none else none) (yX 148 0 [some (.ref r), some (.int a1), some (.int a2)] [] M 0 0) := by
  refine yL.eq (y_aload_n (pc := 0) (x := r) d148_0 rfl) ?_
  refine yL.eq (y_bipush (pc := 1) (v := 13) d148_1 kb_13) ?_
  refine yL.eq (y_iload_n (pc := 3) (x := a1) d148_3 rfl) ?_
  refine y_iastL (pc := 4) (n := 95) d148_4 (yR_a hr) (fun h2 M1 => ?_)
  refine yL.eq (y_aload_n (pc := 5) (x := r) d148_5 rfl) ?_
  refine yL.eq (y_bipush (pc := 6) (v := 14) d148_6 kb_14) ?_
  refine yL.eq (y_iload_n (pc := 8) (x := a2) d148_8 rfl) ?_
  refine y_iastL (pc := 9) (n := 95) d148_9 (yR_a hr) (fun h4 M3 => ?_)
  refine yL.eq (y_aload_n (pc := 10) (x := r) d148_10 rfl) ?_
  refine y_calls_i (pc := 11) (n := 1) (n' := 3) (nc' := 0) (ns' := 0) [.ref r] [] false d148_11 q148_139 rfl rfl rfl (Nat.le_of_ble_eq_true rfl) (Nat.le_of_ble_eq_true rfl) rfl (by decide +kernel) (by decide +kernel) (fun v6 M5 => ?_)
  exact yL.eq (y_ireti (pc := 14) d148_14 mr_148) yL.rf
set_option maxRecDepth 20000 in
set_option maxHeartbeats 4000000 in
theorem e149 {a0 : Int32} {a1 : Int32} {M : yM} : yL (yCi false (yX 118 0 [some (.int a0)] [] M 0 0) fun v2 M1 => if v2 = 0 then yI 0 M1 else yCi false (yX 108 0 [some (.long a1.toInt64), none, some (.long (-1)), none, some (.long 3), none] [] M1 0 0) fun v5 M4 => if v5 = 0 then yI 0 M4 else yI 1 M4) (yX 149 0 [some (.int a0), some (.int a1)] [] M 0 0) := by
  refine yL.eq (y_iload_n (pc := 0) (x := a0) d149_0 rfl) ?_
  refine y_calls_i (pc := 1) (n := 1) (n' := 1) (nc' := 0) (ns' := 0) [.int a0] [] false d149_1 q149_142 rfl rfl rfl (Nat.le_of_ble_eq_true rfl) (Nat.le_of_ble_eq_true rfl) rfl (by decide +kernel) (by decide +kernel) (fun v2 M1 => ?_)
  refine yL.eq (y_if_eq (pc := 4) (t := 25) d149_4 (by decide)) ?_
  refine yL.ite (fun h3 => ?_) (fun h3 => ?_)
  ·
    refine yL.eq (y_iconst (pc := 25) (v := 0) d149_25 kc_0) ?_
    exact yL.eq (y_iretz (pc := 26) d149_26 mr_149) (yL.eq yZ_0 yL.rf)
  ·
    refine yL.eq (y_iload_n (pc := 7) (x := a1) d149_7 rfl) ?_
    refine yL.eq (y_i2l (pc := 8) d149_8) ?_
    refine yL.eq (y_ldc2_w (pc := 9) (v := (-1)) d149_9 q149_146) ?_
    refine yL.eq (y_ldc2_w (pc := 12) (v := 3) d149_12 q149_62) ?_
    refine y_calls_i (pc := 15) (n := 3) (n' := 6) (nc' := 0) (ns' := 0) [.long a1.toInt64, .long (-1), .long 3] [] false d149_15 q149_58 rfl rfl rfl (Nat.le_of_ble_eq_true rfl) (Nat.le_of_ble_eq_true rfl) rfl (by decide +kernel) (by decide +kernel) (fun v5 M4 => ?_)
    refine yL.eq (y_if_eq (pc := 18) (t := 25) d149_18 (by decide)) ?_
    refine yL.ite (fun h6 => ?_) (fun h6 => ?_)
    ·
      refine yL.eq (y_iconst (pc := 25) (v := 0) d149_25 kc_0) ?_
      exact yL.eq (y_iretz (pc := 26) d149_26 mr_149) (yL.eq yZ_0 yL.rf)
    ·
      refine yL.eq (y_iconst (pc := 21) (v := 1) d149_21 kc_1) ?_
      refine yL.eq (y_goto (pc := 22) (t := 26) d149_22 (by decide)) ?_
      exact yL.eq (y_iretz (pc := 26) d149_26 mr_149) (yL.eq yZ_1 yL.rf)
set_option maxRecDepth 20000 in
set_option maxHeartbeats 4000000 in
theorem e150 {r : Nat} {a1 : Int32} {a2 : Int32} {a3 : Int32} (hr : yR r) {M : yM} : yL (if yinB (16 + (M r 15)) 95 = true then yLet (yU M r (yx (16 + (M r 15))) a1) fun M1 => if yinB (30 + (M r 15)) 95 = true then yLet (yU M1 r (yx (30 + (M r 15))) a2) fun M3 => if a3 = 0 then if yinB (44 + (M r 15)) 95 = true then yLet (yU M3 r (yx (44 + (M r 15))) 0) fun M6 => if yinB (58 + (M r 15)) 95 = true then yLet (yU M6 r (yx (58 + (M r 15))) 0) fun M8 => if yinB (72 + (M r 15)) 95 = true then yLet (yU M8 r (yx (72 + (M r 15))) 0) fun M10 => if yinB 15 95 = true then yLet (yU M10 r (yx 15) ((M10 r 15) + 1)) fun M12 => yI (M r 15) M12 else none else none else none else none else if yinB (44 + (M r 15)) 95 = true then yLet (yU M3 r (yx (44 + (M r 15))) 1) fun M14 => if yinB (58 + (M r 15)) 95 = true then yLet (yU M14 r (yx (58 + (M r 15))) 0) fun M16 => if yinB (72 + (M r 15)) 95 = true then yLet (yU M16 r (yx (72 + (M r 15))) 0) fun M18 => if yinB 15 95 = true then yLet (yU M18 r (yx 15) ((M18 r 15) + 1)) fun M20 => yI (M r 15) M20 else none else none else none else none else none else none) (yX 150 0 [some (.ref r), some (.int a1), some (.int a2), some (.int a3), none] [] M 0 0) := by
  refine yL.eq (y_aload_n (pc := 0) (x := r) d150_0 rfl) ?_
  refine yL.eq (y_bipush (pc := 1) (v := 15) d150_1 kb_15) ?_
  refine yL.eq (y_iald (pc := 3) (n := 95) d150_3 (yR_a hr)) ?_
  refine yL.eq (if_pos in_15_95) ?_
  show yL _ (yX 150 4 [some (.ref r), some (.int a1), some (.int a2), some (.int a3), none] ([.int (M r 15)]) M 0 0)
  refine yL.eq (y_istore (pc := 4) (ls' := [some (.ref r), some (.int a1), some (.int a2), some (.int a3), some (.int (M r 15))]) d150_4 rfl rfl) ?_
  refine yL.eq (y_aload_n (pc := 6) (x := r) d150_6 rfl) ?_
  refine yL.eq (y_bipush (pc := 7) (v := 16) d150_7 kb_16) ?_
  refine yL.eq (y_iload (pc := 9) (x := (M r 15)) d150_9 rfl) ?_
  refine yL.eq (y_iadd (pc := 11) d150_11) ?_
  refine yL.eq (y_iload_n (pc := 12) (x := a1) d150_12 rfl) ?_
  refine y_iastL (pc := 13) (n := 95) d150_13 (yR_a hr) (fun h2 M1 => ?_)
  refine yL.eq (y_aload_n (pc := 14) (x := r) d150_14 rfl) ?_
  refine yL.eq (y_bipush (pc := 15) (v := 30) d150_15 kb_30) ?_
  refine yL.eq (y_iload (pc := 17) (x := (M r 15)) d150_17 rfl) ?_
  refine yL.eq (y_iadd (pc := 19) d150_19) ?_
  refine yL.eq (y_iload_n (pc := 20) (x := a2) d150_20 rfl) ?_
  refine y_iastL (pc := 21) (n := 95) d150_21 (yR_a hr) (fun h4 M3 => ?_)
  refine yL.eq (y_aload_n (pc := 22) (x := r) d150_22 rfl) ?_
  refine yL.eq (y_bipush (pc := 23) (v := 44) d150_23 kb_44) ?_
  refine yL.eq (y_iload (pc := 25) (x := (M r 15)) d150_25 rfl) ?_
  refine yL.eq (y_iadd (pc := 27) d150_27) ?_
  refine yL.eq (y_iload_n (pc := 28) (x := a3) d150_28 rfl) ?_
  refine yL.eq (y_if_eq (pc := 29) (t := 36) d150_29 (by decide)) ?_
  refine yL.ite (fun h5 => ?_) (fun h5 => ?_)
  ·
    refine yL.eq (y_iconst (pc := 36) (v := 0) d150_36 kc_0) ?_
    refine y_iastL (pc := 37) (n := 95) d150_37 (yR_a hr) (fun h7 M6 => ?_)
    refine yL.eq (y_aload_n (pc := 38) (x := r) d150_38 rfl) ?_
    refine yL.eq (y_bipush (pc := 39) (v := 58) d150_39 kb_58) ?_
    refine yL.eq (y_iload (pc := 41) (x := (M r 15)) d150_41 rfl) ?_
    refine yL.eq (y_iadd (pc := 43) d150_43) ?_
    refine yL.eq (y_iconst (pc := 44) (v := 0) d150_44 kc_0) ?_
    refine y_iastL (pc := 45) (n := 95) d150_45 (yR_a hr) (fun h9 M8 => ?_)
    refine yL.eq (y_aload_n (pc := 46) (x := r) d150_46 rfl) ?_
    refine yL.eq (y_bipush (pc := 47) (v := 72) d150_47 kb_72) ?_
    refine yL.eq (y_iload (pc := 49) (x := (M r 15)) d150_49 rfl) ?_
    refine yL.eq (y_iadd (pc := 51) d150_51) ?_
    refine yL.eq (y_iconst (pc := 52) (v := 0) d150_52 kc_0) ?_
    refine y_iastL (pc := 53) (n := 95) d150_53 (yR_a hr) (fun h11 M10 => ?_)
    refine yL.eq (y_aload_n (pc := 54) (x := r) d150_54 rfl) ?_
    refine yL.eq (y_bipush (pc := 55) (v := 15) d150_55 kb_15) ?_
    refine yL.eq (y_dup2 (pc := 57) d150_57 rfl) ?_
    refine yL.eq (y_iald (pc := 58) (n := 95) d150_58 (yR_a hr)) ?_
    refine yL.eq (if_pos in_15_95) ?_
    show yL _ (yX 150 59 [some (.ref r), some (.int a1), some (.int a2), some (.int a3), some (.int (M r 15))] ([.int (M10 r 15), .int 15, .ref r]) M10 0 0)
    refine yL.eq (y_iconst (pc := 59) (v := 1) d150_59 kc_1) ?_
    refine yL.eq (y_iadd (pc := 60) d150_60) ?_
    refine y_iastL (pc := 61) (n := 95) d150_61 (yR_a hr) (fun h13 M12 => ?_)
    refine yL.eq (y_iload (pc := 62) (x := (M r 15)) d150_62 rfl) ?_
    exact yL.eq (y_ireti (pc := 64) d150_64 mr_150) yL.rf
  ·
    refine yL.eq (y_iconst (pc := 32) (v := 1) d150_32 kc_1) ?_
    refine yL.eq (y_goto (pc := 33) (t := 37) d150_33 (by decide)) ?_
    refine y_iastL (pc := 37) (n := 95) d150_37 (yR_a hr) (fun h15 M14 => ?_)
    refine yL.eq (y_aload_n (pc := 38) (x := r) d150_38 rfl) ?_
    refine yL.eq (y_bipush (pc := 39) (v := 58) d150_39 kb_58) ?_
    refine yL.eq (y_iload (pc := 41) (x := (M r 15)) d150_41 rfl) ?_
    refine yL.eq (y_iadd (pc := 43) d150_43) ?_
    refine yL.eq (y_iconst (pc := 44) (v := 0) d150_44 kc_0) ?_
    refine y_iastL (pc := 45) (n := 95) d150_45 (yR_a hr) (fun h17 M16 => ?_)
    refine yL.eq (y_aload_n (pc := 46) (x := r) d150_46 rfl) ?_
    refine yL.eq (y_bipush (pc := 47) (v := 72) d150_47 kb_72) ?_
    refine yL.eq (y_iload (pc := 49) (x := (M r 15)) d150_49 rfl) ?_
    refine yL.eq (y_iadd (pc := 51) d150_51) ?_
    refine yL.eq (y_iconst (pc := 52) (v := 0) d150_52 kc_0) ?_
    refine y_iastL (pc := 53) (n := 95) d150_53 (yR_a hr) (fun h19 M18 => ?_)
    refine yL.eq (y_aload_n (pc := 54) (x := r) d150_54 rfl) ?_
    refine yL.eq (y_bipush (pc := 55) (v := 15) d150_55 kb_15) ?_
    refine yL.eq (y_dup2 (pc := 57) d150_57 rfl) ?_
    refine yL.eq (y_iald (pc := 58) (n := 95) d150_58 (yR_a hr)) ?_
    refine yL.eq (if_pos in_15_95) ?_
    show yL _ (yX 150 59 [some (.ref r), some (.int a1), some (.int a2), some (.int a3), some (.int (M r 15))] ([.int (M18 r 15), .int 15, .ref r]) M18 0 0)
    refine yL.eq (y_iconst (pc := 59) (v := 1) d150_59 kc_1) ?_
    refine yL.eq (y_iadd (pc := 60) d150_60) ?_
    refine y_iastL (pc := 61) (n := 95) d150_61 (yR_a hr) (fun h21 M20 => ?_)
    refine yL.eq (y_iload (pc := 62) (x := (M r 15)) d150_62 rfl) ?_
    exact yL.eq (y_ireti (pc := 64) d150_64 mr_150) yL.rf
set_option maxRecDepth 20000 in
set_option maxHeartbeats 4000000 in
theorem e151 {r : Nat} {a1 : Int32} {a2 : Int32} {a3 : Int32} (hr : yR r) {M : yM} : yL (if yinB (58 + a1) 95 = true then if a3 = 0 then if yinB (58 + a1) 95 = true then yLet (yU M r (yx (58 + a1)) ((M r (yx (58 + a1))) &&& (((1 : Int32) <<< (a2 &&& 31)) ^^^ (-1)))) fun M3 => if yinB (58 + a1) 95 = true then yCi false (yX 111 0 [some (.int (M3 r (yx (58 + a1)))), some (.int 12), none, none] [] M3 0 0) fun v7 M6 => yI v7 M6 else none else none else if yinB (58 + a1) 95 = true then yLet (yU M r (yx (58 + a1)) (((M r (yx (58 + a1))) &&& (((1 : Int32) <<< (a2 &&& 31)) ^^^ (-1))) ||| ((1 : Int32) <<< (a2 &&& 31)))) fun M8 => if yinB (58 + a1) 95 = true then yCi false (yX 111 0 [some (.int (M8 r (yx (58 + a1)))), some (.int 12), none, none] [] M8 0 0) fun v12 M11 => yI v12 M11 else none else none else none) (yX 151 0 [some (.ref r), some (.int a1), some (.int a2), some (.int a3), none] [] M 0 0) := by
  refine yL.eq (y_aload_n (pc := 0) (x := r) d151_0 rfl) ?_
  refine yL.eq (y_bipush (pc := 1) (v := 58) d151_1 kb_58) ?_
  refine yL.eq (y_iload_n (pc := 3) (x := a1) d151_3 rfl) ?_
  refine yL.eq (y_iadd (pc := 4) d151_4) ?_
  refine yL.eq (y_iald (pc := 5) (n := 95) d151_5 (yR_a hr)) ?_
  refine yL.gd (fun h1 => ?_)
  refine yL.eq (y_iconst (pc := 6) (v := 1) d151_6 kc_1) ?_
  refine yL.eq (y_iload_n (pc := 7) (x := a2) d151_7 rfl) ?_
  refine yL.eq (y_ishl (pc := 8) d151_8) ?_
  refine yL.eq (y_iconst (pc := 9) (v := (-1)) d151_9 kc_m1) ?_
  refine yL.eq (y_ixor (pc := 10) d151_10) ?_
  refine yL.eq (y_iand (pc := 11) d151_11) ?_
  refine yL.eq (y_istore (pc := 12) (ls' := [some (.ref r), some (.int a1), some (.int a2), some (.int a3), some (.int ((M r (yx (58 + a1))) &&& (((1 : Int32) <<< (a2 &&& 31)) ^^^ (-1))))]) d151_12 rfl rfl) ?_
  refine yL.eq (y_aload_n (pc := 14) (x := r) d151_14 rfl) ?_
  refine yL.eq (y_bipush (pc := 15) (v := 58) d151_15 kb_58) ?_
  refine yL.eq (y_iload_n (pc := 17) (x := a1) d151_17 rfl) ?_
  refine yL.eq (y_iadd (pc := 18) d151_18) ?_
  refine yL.eq (y_iload_n (pc := 19) (x := a3) d151_19 rfl) ?_
  refine yL.eq (y_if_eq (pc := 20) (t := 32) d151_20 (by decide)) ?_
  refine yL.ite (fun h2 => ?_) (fun h2 => ?_)
  ·
    refine yL.eq (y_iload (pc := 32) (x := ((M r (yx (58 + a1))) &&& (((1 : Int32) <<< (a2 &&& 31)) ^^^ (-1)))) d151_32 rfl) ?_
    refine y_iastL (pc := 34) (n := 95) d151_34 (yR_a hr) (fun h4 M3 => ?_)
    refine yL.eq (y_aload_n (pc := 35) (x := r) d151_35 rfl) ?_
    refine yL.eq (y_bipush (pc := 36) (v := 58) d151_36 kb_58) ?_
    refine yL.eq (y_iload_n (pc := 38) (x := a1) d151_38 rfl) ?_
    refine yL.eq (y_iadd (pc := 39) d151_39) ?_
    refine yL.eq (y_iald (pc := 40) (n := 95) d151_40 (yR_a hr)) ?_
    refine yL.gd (fun h5 => ?_)
    refine yL.eq (y_bipush (pc := 41) (v := 12) d151_41 kb_12) ?_
    refine y_calls_i (pc := 43) (n := 2) (n' := 4) (nc' := 0) (ns' := 0) [.int (M3 r (yx (58 + a1))), .int 12] [] false d151_43 q151_116 rfl rfl rfl (Nat.le_of_ble_eq_true rfl) (Nat.le_of_ble_eq_true rfl) rfl (by decide +kernel) (by decide +kernel) (fun v7 M6 => ?_)
    exact yL.eq (y_ireti (pc := 46) d151_46 mr_151) yL.rf
  ·
    refine yL.eq (y_iload (pc := 23) (x := ((M r (yx (58 + a1))) &&& (((1 : Int32) <<< (a2 &&& 31)) ^^^ (-1)))) d151_23 rfl) ?_
    refine yL.eq (y_iconst (pc := 25) (v := 1) d151_25 kc_1) ?_
    refine yL.eq (y_iload_n (pc := 26) (x := a2) d151_26 rfl) ?_
    refine yL.eq (y_ishl (pc := 27) d151_27) ?_
    refine yL.eq (y_ior (pc := 28) d151_28) ?_
    refine yL.eq (y_goto (pc := 29) (t := 34) d151_29 (by decide)) ?_
    refine y_iastL (pc := 34) (n := 95) d151_34 (yR_a hr) (fun h9 M8 => ?_)
    refine yL.eq (y_aload_n (pc := 35) (x := r) d151_35 rfl) ?_
    refine yL.eq (y_bipush (pc := 36) (v := 58) d151_36 kb_58) ?_
    refine yL.eq (y_iload_n (pc := 38) (x := a1) d151_38 rfl) ?_
    refine yL.eq (y_iadd (pc := 39) d151_39) ?_
    refine yL.eq (y_iald (pc := 40) (n := 95) d151_40 (yR_a hr)) ?_
    refine yL.gd (fun h10 => ?_)
    refine yL.eq (y_bipush (pc := 41) (v := 12) d151_41 kb_12) ?_
    refine y_calls_i (pc := 43) (n := 2) (n' := 4) (nc' := 0) (ns' := 0) [.int (M8 r (yx (58 + a1))), .int 12] [] false d151_43 q151_116 rfl rfl rfl (Nat.le_of_ble_eq_true rfl) (Nat.le_of_ble_eq_true rfl) rfl (by decide +kernel) (by decide +kernel) (fun v12 M11 => ?_)
    exact yL.eq (y_ireti (pc := 46) d151_46 mr_151) yL.rf
set_option maxRecDepth 20000 in
set_option maxHeartbeats 4000000 in
theorem e152 {r : Nat} {a1 : Int32} {a2 : Int32} {a3 : Int32} (hr : yR r) {M : yM} : yL (if a3 = 0 then yI 1 M else if a1 = a2 then yI 0 M else yCi false (yX 131 0 [some (.ref r), some (.int a2), none, none, none] [] M 0 0) fun v4 M3 => yCi false (yX 110 0 [some (.int v4), some (.int a1)] [] M3 0 0) fun v6 M5 => if v6 = 0 then yI 1 M5 else yI 0 M5) (yX 152 0 [some (.ref r), some (.int a1), some (.int a2), some (.int a3)] [] M 0 0) := by
  refine yL.eq (y_iload_n (pc := 0) (x := a3) d152_0 rfl) ?_
  refine yL.eq (y_if_eq (pc := 1) (t := 21) d152_1 (by decide)) ?_
  refine yL.ite (fun h1 => ?_) (fun h1 => ?_)
  ·
    refine yL.eq (y_iconst (pc := 21) (v := 1) d152_21 kc_1) ?_
    refine yL.eq (y_goto (pc := 22) (t := 26) d152_22 (by decide)) ?_
    exact yL.eq (y_iretz (pc := 26) d152_26 mr_152) (yL.eq yZ_1 yL.rf)
  ·
    refine yL.eq (y_iload_n (pc := 4) (x := a1) d152_4 rfl) ?_
    refine yL.eq (y_iload_n (pc := 5) (x := a2) d152_5 rfl) ?_
    refine yL.eq (y_icmp_eq (pc := 6) (t := 25) d152_6 (by decide)) ?_
    refine yL.ite (fun h2 => ?_) (fun h2 => ?_)
    ·
      refine yL.eq (y_iconst (pc := 25) (v := 0) d152_25 kc_0) ?_
      exact yL.eq (y_iretz (pc := 26) d152_26 mr_152) (yL.eq yZ_0 yL.rf)
    ·
      refine yL.eq (y_aload_n (pc := 9) (x := r) d152_9 rfl) ?_
      refine yL.eq (y_iload_n (pc := 10) (x := a2) d152_10 rfl) ?_
      refine y_calls_i (pc := 11) (n := 2) (n' := 5) (nc' := 0) (ns' := 0) [.ref r, .int a2] [] false d152_11 q152_148 rfl rfl rfl (Nat.le_of_ble_eq_true rfl) (Nat.le_of_ble_eq_true rfl) rfl (by decide +kernel) (by decide +kernel) (fun v4 M3 => ?_)
      refine yL.eq (y_iload_n (pc := 14) (x := a1) d152_14 rfl) ?_
      refine y_calls_i (pc := 15) (n := 2) (n' := 2) (nc' := 0) (ns' := 0) [.int v4, .int a1] [] false d152_15 q152_54 rfl rfl rfl (Nat.le_of_ble_eq_true rfl) (Nat.le_of_ble_eq_true rfl) rfl (by decide +kernel) (by decide +kernel) (fun v6 M5 => ?_)
      refine yL.eq (y_if_ne (pc := 18) (t := 25) d152_18 (by decide)) ?_
      refine yL.ite (fun h7 => ?_) (fun h7 => ?_)
      ·
        refine yL.eq (y_iconst (pc := 21) (v := 1) d152_21 kc_1) ?_
        refine yL.eq (y_goto (pc := 22) (t := 26) d152_22 (by decide)) ?_
        exact yL.eq (y_iretz (pc := 26) d152_26 mr_152) (yL.eq yZ_1 yL.rf)
      ·
        refine yL.eq (y_iconst (pc := 25) (v := 0) d152_25 kc_0) ?_
        exact yL.eq (y_iretz (pc := 26) d152_26 mr_152) (yL.eq yZ_0 yL.rf)
set_option maxRecDepth 20000 in
set_option maxHeartbeats 4000000 in
theorem e153 {r : Nat} {a1 : Int32} {a2 : Int32} {a3 : Int32} (hr : yR r) {M : yM} : yL (if yinB (72 + a1) 95 = true then if a3 = 0 then if yinB (72 + a1) 95 = true then yLet (yU M r (yx (72 + a1)) ((M r (yx (72 + a1))) &&& (((1 : Int32) <<< (a2 &&& 31)) ^^^ (-1)))) fun M3 => if yinB (72 + a1) 95 = true then yCi false (yX 111 0 [some (.int (M3 r (yx (72 + a1)))), some (.int 14), none, none] [] M3 0 0) fun v7 M6 => yI v7 M6 else none else none else if yinB (72 + a1) 95 = true then yLet (yU M r (yx (72 + a1)) (((M r (yx (72 + a1))) &&& (((1 : Int32) <<< (a2 &&& 31)) ^^^ (-1))) ||| ((1 : Int32) <<< (a2 &&& 31)))) fun M8 => if yinB (72 + a1) 95 = true then yCi false (yX 111 0 [some (.int (M8 r (yx (72 + a1)))), some (.int 14), none, none] [] M8 0 0) fun v12 M11 => yI v12 M11 else none else none else none) (yX 153 0 [some (.ref r), some (.int a1), some (.int a2), some (.int a3), none] [] M 0 0) := by
  refine yL.eq (y_aload_n (pc := 0) (x := r) d153_0 rfl) ?_
  refine yL.eq (y_bipush (pc := 1) (v := 72) d153_1 kb_72) ?_
  refine yL.eq (y_iload_n (pc := 3) (x := a1) d153_3 rfl) ?_
  refine yL.eq (y_iadd (pc := 4) d153_4) ?_
  refine yL.eq (y_iald (pc := 5) (n := 95) d153_5 (yR_a hr)) ?_
  refine yL.gd (fun h1 => ?_)
  refine yL.eq (y_iconst (pc := 6) (v := 1) d153_6 kc_1) ?_
  refine yL.eq (y_iload_n (pc := 7) (x := a2) d153_7 rfl) ?_
  refine yL.eq (y_ishl (pc := 8) d153_8) ?_
  refine yL.eq (y_iconst (pc := 9) (v := (-1)) d153_9 kc_m1) ?_
  refine yL.eq (y_ixor (pc := 10) d153_10) ?_
  refine yL.eq (y_iand (pc := 11) d153_11) ?_
  refine yL.eq (y_istore (pc := 12) (ls' := [some (.ref r), some (.int a1), some (.int a2), some (.int a3), some (.int ((M r (yx (72 + a1))) &&& (((1 : Int32) <<< (a2 &&& 31)) ^^^ (-1))))]) d153_12 rfl rfl) ?_
  refine yL.eq (y_aload_n (pc := 14) (x := r) d153_14 rfl) ?_
  refine yL.eq (y_bipush (pc := 15) (v := 72) d153_15 kb_72) ?_
  refine yL.eq (y_iload_n (pc := 17) (x := a1) d153_17 rfl) ?_
  refine yL.eq (y_iadd (pc := 18) d153_18) ?_
  refine yL.eq (y_iload_n (pc := 19) (x := a3) d153_19 rfl) ?_
  refine yL.eq (y_if_eq (pc := 20) (t := 32) d153_20 (by decide)) ?_
  refine yL.ite (fun h2 => ?_) (fun h2 => ?_)
  ·
    refine yL.eq (y_iload (pc := 32) (x := ((M r (yx (72 + a1))) &&& (((1 : Int32) <<< (a2 &&& 31)) ^^^ (-1)))) d153_32 rfl) ?_
    refine y_iastL (pc := 34) (n := 95) d153_34 (yR_a hr) (fun h4 M3 => ?_)
    refine yL.eq (y_aload_n (pc := 35) (x := r) d153_35 rfl) ?_
    refine yL.eq (y_bipush (pc := 36) (v := 72) d153_36 kb_72) ?_
    refine yL.eq (y_iload_n (pc := 38) (x := a1) d153_38 rfl) ?_
    refine yL.eq (y_iadd (pc := 39) d153_39) ?_
    refine yL.eq (y_iald (pc := 40) (n := 95) d153_40 (yR_a hr)) ?_
    refine yL.gd (fun h5 => ?_)
    refine yL.eq (y_bipush (pc := 41) (v := 14) d153_41 kb_14) ?_
    refine y_calls_i (pc := 43) (n := 2) (n' := 4) (nc' := 0) (ns' := 0) [.int (M3 r (yx (72 + a1))), .int 14] [] false d153_43 q153_116 rfl rfl rfl (Nat.le_of_ble_eq_true rfl) (Nat.le_of_ble_eq_true rfl) rfl (by decide +kernel) (by decide +kernel) (fun v7 M6 => ?_)
    exact yL.eq (y_ireti (pc := 46) d153_46 mr_153) yL.rf
  ·
    refine yL.eq (y_iload (pc := 23) (x := ((M r (yx (72 + a1))) &&& (((1 : Int32) <<< (a2 &&& 31)) ^^^ (-1)))) d153_23 rfl) ?_
    refine yL.eq (y_iconst (pc := 25) (v := 1) d153_25 kc_1) ?_
    refine yL.eq (y_iload_n (pc := 26) (x := a2) d153_26 rfl) ?_
    refine yL.eq (y_ishl (pc := 27) d153_27) ?_
    refine yL.eq (y_ior (pc := 28) d153_28) ?_
    refine yL.eq (y_goto (pc := 29) (t := 34) d153_29 (by decide)) ?_
    refine y_iastL (pc := 34) (n := 95) d153_34 (yR_a hr) (fun h9 M8 => ?_)
    refine yL.eq (y_aload_n (pc := 35) (x := r) d153_35 rfl) ?_
    refine yL.eq (y_bipush (pc := 36) (v := 72) d153_36 kb_72) ?_
    refine yL.eq (y_iload_n (pc := 38) (x := a1) d153_38 rfl) ?_
    refine yL.eq (y_iadd (pc := 39) d153_39) ?_
    refine yL.eq (y_iald (pc := 40) (n := 95) d153_40 (yR_a hr)) ?_
    refine yL.gd (fun h10 => ?_)
    refine yL.eq (y_bipush (pc := 41) (v := 14) d153_41 kb_14) ?_
    refine y_calls_i (pc := 43) (n := 2) (n' := 4) (nc' := 0) (ns' := 0) [.int (M8 r (yx (72 + a1))), .int 14] [] false d153_43 q153_116 rfl rfl rfl (Nat.le_of_ble_eq_true rfl) (Nat.le_of_ble_eq_true rfl) rfl (by decide +kernel) (by decide +kernel) (fun v12 M11 => ?_)
    exact yL.eq (y_ireti (pc := 46) d153_46 mr_153) yL.rf
set_option maxRecDepth 20000 in
set_option maxHeartbeats 4000000 in
theorem e154  {M : yM} : yL (if (M 190 5) = 14 then yX 154 11 [some (.ref 190), some (.int 0)] [] M 0 0 else yX 154 51 [some (.ref 190), some (.int 0)] [] M 0 0) (yX 154 0 [some (.ref 190), none] [] M 0 0) := by
  refine yL.eq (y_aload_n (pc := 0) (x := 190) d154_0 rfl) ?_
  refine yL.eq (y_geti (pc := 1) d154_1 q154_151 s_i_190_5) ?_
  refine yL.eq (y_bipush (pc := 4) (v := 14) d154_4 kb_14) ?_
  refine yL.eq (y_icmp_ne (pc := 6) (t := 49) d154_6 (by decide)) ?_
  refine yL.ite (fun h1 => ?_) (fun h1 => ?_)
  ·
    refine yL.eq (y_iconst (pc := 9) (v := 0) d154_9 kc_0) ?_
    refine yL.eq (y_istore_n (pc := 10) (ls' := [some (.ref 190), some (.int 0)]) d154_10 rfl rfl) ?_
    exact yL.rf
  ·
    refine yL.eq (y_iconst (pc := 49) (v := 0) d154_49 kc_0) ?_
    refine yL.eq (y_istore_n (pc := 50) (ls' := [some (.ref 190), some (.int 0)]) d154_50 rfl rfl) ?_
    exact yL.rf
set_option maxRecDepth 20000 in
set_option maxHeartbeats 4000000 in
theorem e154_11 {x1 : Int32} {M : yM} : yL (if x1 < 1235 then if yinB (95 + x1) 1330 = true then if yinB x1 1330 = true then yLet (yU M 194 (yx x1) (M 194 (yx (95 + x1)))) fun M3 => yX 154 11 [some (.ref 190), some (.int (x1 + 1))] [] M3 0 0 else none else none else yLet (yU M 190 5 ((M 190 5) - 1)) fun M5 => yX 154 51 [some (.ref 190), some (.int 0)] [] M5 0 0) (yX 154 11 [some (.ref 190), some (.int x1)] [] M 0 0) := by
  refine yL.eq (y_iload_n (pc := 11) (x := x1) d154_11 rfl) ?_
  refine yL.eq (y_sipush (pc := 12) (v := 1235) d154_12 ks_1235) ?_
  refine yL.eq (y_icmp_ge (pc := 15) (t := 39) d154_15 (by decide)) ?_
  refine yL.ite (fun h1 => ?_) (fun h1 => ?_)
  ·
    refine yL.eq (y_aload_n (pc := 18) (x := 190) d154_18 rfl) ?_
    refine yL.eq (y_getr (pc := 19) (r := 194) d154_19 q154_19 s_r_190_4) ?_
    refine yL.eq (y_iload_n (pc := 22) (x := x1) d154_22 rfl) ?_
    refine yL.eq (y_aload_n (pc := 23) (x := 190) d154_23 rfl) ?_
    refine yL.eq (y_getr (pc := 24) (r := 194) d154_24 q154_19 s_r_190_4) ?_
    refine yL.eq (y_bipush (pc := 27) (v := 95) d154_27 kb_95) ?_
    refine yL.eq (y_iload_n (pc := 29) (x := x1) d154_29 rfl) ?_
    refine yL.eq (y_iadd (pc := 30) d154_30) ?_
    refine yL.eq (y_iald (pc := 31) (n := 1330) d154_31 s_a_194) ?_
    refine yL.gd (fun h2 => ?_)
    refine y_iastL (pc := 32) (n := 1330) d154_32 s_a_194 (fun h4 M3 => ?_)
    refine yL.eq (y_iinc (pc := 33) (v := 1) (x := x1) (ls' := [some (.ref 190), some (.int (x1 + 1))]) d154_33 kc_1 rfl (Nat.le_of_ble_eq_true rfl) rfl) ?_
    refine yL.eq (y_goto (pc := 36) (t := 11) d154_36 (by decide)) ?_
    exact yL.rf
  ·
    refine yL.eq (y_aload_n (pc := 39) (x := 190) d154_39 rfl) ?_
    refine yL.eq (y_dup (pc := 40) d154_40 rfl) ?_
    refine yL.eq (y_geti (pc := 41) d154_41 q154_151 s_i_190_5) ?_
    refine yL.eq (y_iconst (pc := 44) (v := 1) d154_44 kc_1) ?_
    refine yL.eq (y_isub (pc := 45) d154_45) ?_
    refine y_putiL (pc := 46) d154_46 q154_151 s_i_190_5 rfl (fun M5 => ?_)
    refine yL.eq (y_iconst (pc := 49) (v := 0) d154_49 kc_0) ?_
    refine yL.eq (y_istore_n (pc := 50) (ls' := [some (.ref 190), some (.int 0)]) d154_50 rfl rfl) ?_
    exact yL.rf
set_option maxRecDepth 20000 in
set_option maxHeartbeats 4000000 in
theorem e154_51 {x1 : Int32} {M : yM} : yL (if x1 < 95 then if yinB x1 95 = true then if yinB ((95 * (M 190 5)) + x1) 1330 = true then yLet (yU M 194 (yx ((95 * (M 190 5)) + x1)) (M 191 (yx x1))) fun M3 => yX 154 51 [some (.ref 190), some (.int (x1 + 1))] [] M3 0 0 else none else none else yLet (yU M 190 5 ((M 190 5) + 1)) fun M5 => yV M5) (yX 154 51 [some (.ref 190), some (.int x1)] [] M 0 0) := by
  refine yL.eq (y_iload_n (pc := 51) (x := x1) d154_51 rfl) ?_
  refine yL.eq (y_bipush (pc := 52) (v := 95) d154_52 kb_95) ?_
  refine yL.eq (y_icmp_ge (pc := 54) (t := 83) d154_54 (by decide)) ?_
  refine yL.ite (fun h1 => ?_) (fun h1 => ?_)
  ·
    refine yL.eq (y_aload_n (pc := 57) (x := 190) d154_57 rfl) ?_
    refine yL.eq (y_getr (pc := 58) (r := 194) d154_58 q154_19 s_r_190_4) ?_
    refine yL.eq (y_bipush (pc := 61) (v := 95) d154_61 kb_95) ?_
    refine yL.eq (y_aload_n (pc := 63) (x := 190) d154_63 rfl) ?_
    refine yL.eq (y_geti (pc := 64) d154_64 q154_151 s_i_190_5) ?_
    refine yL.eq (y_imul (pc := 67) d154_67) ?_
    refine yL.eq (y_iload_n (pc := 68) (x := x1) d154_68 rfl) ?_
    refine yL.eq (y_iadd (pc := 69) d154_69) ?_
    refine yL.eq (y_aload_n (pc := 70) (x := 190) d154_70 rfl) ?_
    refine yL.eq (y_getr (pc := 71) (r := 191) d154_71 q154_7 s_r_190_1) ?_
    refine yL.eq (y_iload_n (pc := 74) (x := x1) d154_74 rfl) ?_
    refine yL.eq (y_iald (pc := 75) (n := 95) d154_75 (yR_a yR191)) ?_
    refine yL.gd (fun h2 => ?_)
    refine y_iastL (pc := 76) (n := 1330) d154_76 s_a_194 (fun h4 M3 => ?_)
    refine yL.eq (y_iinc (pc := 77) (v := 1) (x := x1) (ls' := [some (.ref 190), some (.int (x1 + 1))]) d154_77 kc_1 rfl (Nat.le_of_ble_eq_true rfl) rfl) ?_
    refine yL.eq (y_goto (pc := 80) (t := 51) d154_80 (by decide)) ?_
    exact yL.rf
  ·
    refine yL.eq (y_aload_n (pc := 83) (x := 190) d154_83 rfl) ?_
    refine yL.eq (y_dup (pc := 84) d154_84 rfl) ?_
    refine yL.eq (y_geti (pc := 85) d154_85 q154_151 s_i_190_5) ?_
    refine yL.eq (y_iconst (pc := 88) (v := 1) d154_88 kc_1) ?_
    refine yL.eq (y_iadd (pc := 89) d154_89) ?_
    refine y_putiL (pc := 90) d154_90 q154_151 s_i_190_5 rfl (fun M5 => ?_)
    exact yL.eq (y_ret (pc := 93) d154_93 mr_154) yL.rf
