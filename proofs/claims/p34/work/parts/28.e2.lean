set_option maxRecDepth 20000 in
set_option maxHeartbeats 4000000 in
theorem e45 {p : Nat} (hp : yP p) {M : yM} : yL (yCv false (yX 46 0 [some (.ref p), none, none] [] M 0 0) fun M1 => yLet (yU M1 p 6 0) fun M2 => yLet (yU M2 p 8 0) fun M3 => yX 45 16 [some (.ref p), some (.int 0), none] [] M3 0 0) (yX 45 0 [some (.ref p), none, none] [] M 0 0) := by
  refine yL.eq (y_aload_n (pc := 0) (x := p) d45_0 rfl) ?_
  refine y_callv_v (pc := 1) (n := 1) (n' := 3) (nc' := 0) (ns' := 0) [] [] false d45_1 q45_81 mk_46 (yP_t hp) rfl rfl (Nat.le_of_ble_eq_true rfl) (Nat.le_of_ble_eq_true rfl) rfl (by decide +kernel) (by decide +kernel) (fun M1 => ?_)
  refine yL.eq (y_aload_n (pc := 4) (x := p) d45_4 rfl) ?_
  refine yL.eq (y_iconst (pc := 5) (v := 0) d45_5 kc_0) ?_
  refine y_putiL (pc := 6) d45_6 q45_50 (yP_i hp).1 rfl (fun M2 => ?_)
  refine yL.eq (y_aload_n (pc := 9) (x := p) d45_9 rfl) ?_
  refine yL.eq (y_iconst (pc := 10) (v := 0) d45_10 kc_0) ?_
  refine y_putiL (pc := 11) d45_11 q45_84 (((yP_i hp)).2).2.1 rfl (fun M3 => ?_)
  refine yL.eq (y_iconst (pc := 14) (v := 0) d45_14 kc_0) ?_
  refine yL.eq (y_istore_n (pc := 15) (ls' := [some (.ref p), some (.int 0), none]) d45_15 rfl rfl) ?_
  exact yL.rf
set_option maxRecDepth 20000 in
set_option maxHeartbeats 4000000 in
theorem e45_16 {p : Nat} {x1 : Int32} {o2 : Option Value} (hp : yP p) {M : yM} : yL (if x1 < (M (p + 1) 1) then if yinB x1 14 = true then yLet (yU M (p + 10) (yx x1) (-1)) fun M2 => if yinB x1 14 = true then yLet (yU M2 (p + 11) (yx x1) (-1)) fun M4 => yX 45 16 [some (.ref p), some (.int (x1 + 1)), o2] [] M4 0 0 else none else none else yX 45 51 [some (.ref p), some (.int 0), some (.int 0)] [] M 0 0) (yX 45 16 [some (.ref p), some (.int x1), o2] [] M 0 0) := by
  refine yL.eq (y_iload_n (pc := 16) (x := x1) d45_16 rfl) ?_
  refine yL.eq (y_aload_n (pc := 17) (x := p) d45_17 rfl) ?_
  refine yL.eq (y_getr (pc := 18) (r := (p + 1)) d45_18 q45_12 (yP_r hp).1) ?_
  refine yL.eq (y_geti (pc := 21) d45_21 q45_40 ((yC_i (yP_c hp))).2.1) ?_
  refine yL.eq (y_icmp_ge (pc := 24) (t := 47) d45_24 (by decide)) ?_
  refine yL.ite (fun h1 => ?_) (fun h1 => ?_)
  ·
    refine yL.eq (y_aload_n (pc := 27) (x := p) d45_27 rfl) ?_
    refine yL.eq (y_getr (pc := 28) (r := (p + 10)) d45_28 q45_18 ((yP_r hp)).2.1) ?_
    refine yL.eq (y_iload_n (pc := 31) (x := x1) d45_31 rfl) ?_
    refine yL.eq (y_iconst (pc := 32) (v := (-1)) d45_32 kc_m1) ?_
    refine y_iastL (pc := 33) (n := 14) d45_33 (yP_a hp).1 (fun h3 M2 => ?_)
    refine yL.eq (y_aload_n (pc := 34) (x := p) d45_34 rfl) ?_
    refine yL.eq (y_getr (pc := 35) (r := (p + 11)) d45_35 q45_22 (((yP_r hp)).2).2.1) ?_
    refine yL.eq (y_iload_n (pc := 38) (x := x1) d45_38 rfl) ?_
    refine yL.eq (y_iconst (pc := 39) (v := (-1)) d45_39 kc_m1) ?_
    refine y_iastL (pc := 40) (n := 14) d45_40 ((yP_a hp)).2.1 (fun h5 M4 => ?_)
    refine yL.eq (y_iinc (pc := 41) (v := 1) (x := x1) (ls' := [some (.ref p), some (.int (x1 + 1)), o2]) d45_41 kc_1 rfl (Nat.le_of_ble_eq_true rfl) rfl) ?_
    refine yL.eq (y_goto (pc := 44) (t := 16) d45_44 (by decide)) ?_
    exact yL.rf
  ·
    refine yL.eq (y_iconst (pc := 47) (v := 0) d45_47 kc_0) ?_
    refine yL.eq (y_istore_n (pc := 48) (ls' := [some (.ref p), some (.int 0), o2]) d45_48 rfl rfl) ?_
    refine yL.eq (y_iconst (pc := 49) (v := 0) d45_49 kc_0) ?_
    refine yL.eq (y_istore_n (pc := 50) (ls' := [some (.ref p), some (.int 0), some (.int 0)]) d45_50 rfl rfl) ?_
    exact yL.rf
set_option maxRecDepth 20000 in
set_option maxHeartbeats 4000000 in
theorem e45_51 {p : Nat} {x1 : Int32} {x2 : Int32} (hp : yP p) {M : yM} : yL (if x2 ≤ 28 then if x1 = (-1) then yLet (yU M p 7 ((M (p + 1) 1) - (M p 6))) fun M3 => yV M3 else yCv false (yX 50 0 [some (.ref p), some (.int x1), none, none] [] M 0 0) fun M4 => yCv false (yX 52 0 [some (.ref p), some (.int x1), none, none] [] M4 0 0) fun M5 => yCi false (yX 55 0 [some (.ref p), some (.int x1), none, none, none] [] M5 0 0) fun v7 M6 => yX 45 51 [some (.ref p), some (.int v7), some (.int (x2 + 1))] [] M6 0 0 else yLet (yU M p 7 ((M (p + 1) 1) - (M p 6))) fun M8 => yV M8) (yX 45 51 [some (.ref p), some (.int x1), some (.int x2)] [] M 0 0) := by
  refine yL.eq (y_iload_n (pc := 51) (x := x2) d45_51 rfl) ?_
  refine yL.eq (y_bipush (pc := 52) (v := 28) d45_52 kb_28) ?_
  refine yL.eq (y_icmp_gt (pc := 54) (t := 84) d45_54 (by decide)) ?_
  refine yL.ite (fun h1 => ?_) (fun h1 => ?_)
  ·
    refine yL.eq (y_iload_n (pc := 57) (x := x1) d45_57 rfl) ?_
    refine yL.eq (y_iconst (pc := 58) (v := (-1)) d45_58 kc_m1) ?_
    refine yL.eq (y_icmp_eq (pc := 59) (t := 84) d45_59 (by decide)) ?_
    refine yL.ite (fun h2 => ?_) (fun h2 => ?_)
    ·
      refine yL.eq (y_aload_n (pc := 84) (x := p) d45_84 rfl) ?_
      refine yL.eq (y_aload_n (pc := 85) (x := p) d45_85 rfl) ?_
      refine yL.eq (y_getr (pc := 86) (r := (p + 1)) d45_86 q45_12 (yP_r hp).1) ?_
      refine yL.eq (y_geti (pc := 89) d45_89 q45_40 ((yC_i (yP_c hp))).2.1) ?_
      refine yL.eq (y_aload_n (pc := 92) (x := p) d45_92 rfl) ?_
      refine yL.eq (y_geti (pc := 93) d45_93 q45_50 (yP_i hp).1) ?_
      refine yL.eq (y_isub (pc := 96) d45_96) ?_
      refine y_putiL (pc := 97) d45_97 q45_97 ((yP_i hp)).2.1 rfl (fun M3 => ?_)
      exact yL.eq (y_ret (pc := 100) d45_100 mr_45) yL.rf
    ·
      refine yL.eq (y_aload_n (pc := 62) (x := p) d45_62 rfl) ?_
      refine yL.eq (y_iload_n (pc := 63) (x := x1) d45_63 rfl) ?_
      refine y_callv_v (pc := 64) (n := 2) (n' := 4) (nc' := 0) (ns' := 0) [.int x1] [] false d45_64 q45_87 mk_50 (yP_t hp) rfl rfl (Nat.le_of_ble_eq_true rfl) (Nat.le_of_ble_eq_true rfl) rfl (by decide +kernel) (by decide +kernel) (fun M4 => ?_)
      refine yL.eq (y_aload_n (pc := 67) (x := p) d45_67 rfl) ?_
      refine yL.eq (y_iload_n (pc := 68) (x := x1) d45_68 rfl) ?_
      refine y_callv_v (pc := 69) (n := 2) (n' := 4) (nc' := 0) (ns' := 0) [.int x1] [] false d45_69 q45_91 mk_52 (yP_t hp) rfl rfl (Nat.le_of_ble_eq_true rfl) (Nat.le_of_ble_eq_true rfl) rfl (by decide +kernel) (by decide +kernel) (fun M5 => ?_)
      refine yL.eq (y_aload_n (pc := 72) (x := p) d45_72 rfl) ?_
      refine yL.eq (y_iload_n (pc := 73) (x := x1) d45_73 rfl) ?_
      refine y_callv_i (pc := 74) (n := 2) (n' := 5) (nc' := 0) (ns' := 0) [.int x1] [] false d45_74 q45_94 mk_55 (yP_t hp) rfl rfl (Nat.le_of_ble_eq_true rfl) (Nat.le_of_ble_eq_true rfl) rfl (by decide +kernel) (by decide +kernel) (fun v7 M6 => ?_)
      refine yL.eq (y_istore_n (pc := 77) (ls' := [some (.ref p), some (.int v7), some (.int x2)]) d45_77 rfl rfl) ?_
      refine yL.eq (y_iinc (pc := 78) (v := 1) (x := x2) (ls' := [some (.ref p), some (.int v7), some (.int (x2 + 1))]) d45_78 kc_1 rfl (Nat.le_of_ble_eq_true rfl) rfl) ?_
      refine yL.eq (y_goto (pc := 81) (t := 51) d45_81 (by decide)) ?_
      exact yL.rf
  ·
    refine yL.eq (y_aload_n (pc := 84) (x := p) d45_84 rfl) ?_
    refine yL.eq (y_aload_n (pc := 85) (x := p) d45_85 rfl) ?_
    refine yL.eq (y_getr (pc := 86) (r := (p + 1)) d45_86 q45_12 (yP_r hp).1) ?_
    refine yL.eq (y_geti (pc := 89) d45_89 q45_40 ((yC_i (yP_c hp))).2.1) ?_
    refine yL.eq (y_aload_n (pc := 92) (x := p) d45_92 rfl) ?_
    refine yL.eq (y_geti (pc := 93) d45_93 q45_50 (yP_i hp).1) ?_
    refine yL.eq (y_isub (pc := 96) d45_96) ?_
    refine y_putiL (pc := 97) d45_97 q45_97 ((yP_i hp)).2.1 rfl (fun M8 => ?_)
    exact yL.eq (y_ret (pc := 100) d45_100 mr_45) yL.rf
set_option maxRecDepth 20000 in
set_option maxHeartbeats 4000000 in
theorem e46 {p : Nat} (hp : yP p) {M : yM} : yL (if (M ((p + 1) + 8) 4) = 2 then yCv false (yX 48 0 [some (.ref p), none, none] [] M 0 0) fun M2 => yX 46 21 [some (.ref p), some (.int (M ((p + 1) + 8) 4)), some (.int 0)] [] M2 0 0 else yX 46 21 [some (.ref p), some (.int (M ((p + 1) + 8) 4)), some (.int 0)] [] M 0 0) (yX 46 0 [some (.ref p), none, none] [] M 0 0) := by
  refine yL.eq (y_aload_n (pc := 0) (x := p) d46_0 rfl) ?_
  refine yL.eq (y_getr (pc := 1) (r := (p + 1)) d46_1 q46_12 (yP_r hp).1) ?_
  refine yL.eq (y_getr (pc := 4) (r := ((p + 1) + 8)) d46_4 q46_78 ((((((((yC_r (yP_c hp))).2).2).2).2).2).2).2) ?_
  refine yL.eq (y_iconst (pc := 7) (v := 4) d46_7 kc_4) ?_
  refine yL.eq (y_iald (pc := 8) (n := 5) d46_8 ((((((((yC_a (yP_c hp))).2).2).2).2).2).2).2) ?_
  refine yL.eq (if_pos in_4_5) ?_
  show yL _ (yX 46 9 [some (.ref p), none, none] ([.int (M ((p + 1) + 8) 4)]) M 0 0)
  refine yL.eq (y_istore_n (pc := 9) (ls' := [some (.ref p), some (.int (M ((p + 1) + 8) 4)), none]) d46_9 rfl rfl) ?_
  refine yL.eq (y_iload_n (pc := 10) (x := (M ((p + 1) + 8) 4)) d46_10 rfl) ?_
  refine yL.eq (y_iconst (pc := 11) (v := 2) d46_11 kc_2) ?_
  refine yL.eq (y_icmp_ne (pc := 12) (t := 19) d46_12 (by decide)) ?_
  refine yL.ite (fun h1 => ?_) (fun h1 => ?_)
  ·
    refine yL.eq (y_aload_n (pc := 15) (x := p) d46_15 rfl) ?_
    refine y_callv_v (pc := 16) (n := 1) (n' := 3) (nc' := 0) (ns' := 0) [] [] false d46_16 q46_37 mk_48 (yP_t hp) rfl rfl (Nat.le_of_ble_eq_true rfl) (Nat.le_of_ble_eq_true rfl) rfl (by decide +kernel) (by decide +kernel) (fun M2 => ?_)
    refine yL.eq (y_iconst (pc := 19) (v := 0) d46_19 kc_0) ?_
    refine yL.eq (y_istore_n (pc := 20) (ls' := [some (.ref p), some (.int (M ((p + 1) + 8) 4)), some (.int 0)]) d46_20 rfl rfl) ?_
    exact yL.rf
  ·
    refine yL.eq (y_iconst (pc := 19) (v := 0) d46_19 kc_0) ?_
    refine yL.eq (y_istore_n (pc := 20) (ls' := [some (.ref p), some (.int (M ((p + 1) + 8) 4)), some (.int 0)]) d46_20 rfl rfl) ?_
    exact yL.rf
set_option maxRecDepth 20000 in
set_option maxHeartbeats 4000000 in
theorem e46_21 {p : Nat} {x1 : Int32} {x2 : Int32} (hp : yP p) {M : yM} : yL (if x2 < (M (p + 1) 1) then yCi false (yX 47 0 [some (.ref p), some (.int x1), some (.int x2)] [] M 0 0) fun v3 M2 => if yinB x2 14 = true then yLet (yU M2 (p + 13) (yx x2) v3) fun M4 => yX 46 21 [some (.ref p), some (.int x1), some (.int (x2 + 1))] [] M4 0 0 else none else yV M) (yX 46 21 [some (.ref p), some (.int x1), some (.int x2)] [] M 0 0) := by
  refine yL.eq (y_iload_n (pc := 21) (x := x2) d46_21 rfl) ?_
  refine yL.eq (y_aload_n (pc := 22) (x := p) d46_22 rfl) ?_
  refine yL.eq (y_getr (pc := 23) (r := (p + 1)) d46_23 q46_12 (yP_r hp).1) ?_
  refine yL.eq (y_geti (pc := 26) d46_26 q46_40 ((yC_i (yP_c hp))).2.1) ?_
  refine yL.eq (y_icmp_ge (pc := 29) (t := 50) d46_29 (by decide)) ?_
  refine yL.ite (fun h1 => ?_) (fun h1 => ?_)
  ·
    refine yL.eq (y_aload_n (pc := 32) (x := p) d46_32 rfl) ?_
    refine yL.eq (y_getr (pc := 33) (r := (p + 13)) d46_33 q46_28 (((((yP_r hp)).2).2).2).2.1) ?_
    refine yL.eq (y_iload_n (pc := 36) (x := x2) d46_36 rfl) ?_
    refine yL.eq (y_aload_n (pc := 37) (x := p) d46_37 rfl) ?_
    refine yL.eq (y_iload_n (pc := 38) (x := x1) d46_38 rfl) ?_
    refine yL.eq (y_iload_n (pc := 39) (x := x2) d46_39 rfl) ?_
    refine y_callv_i (pc := 40) (n := 3) (n' := 3) (nc' := 0) (ns' := 0) [.int x1, .int x2] [.int x2, .ref (p + 13)] false d46_40 q46_100 mk_47 (yP_t hp) rfl rfl (Nat.le_of_ble_eq_true rfl) (Nat.le_of_ble_eq_true rfl) rfl (by decide +kernel) (by decide +kernel) (fun v3 M2 => ?_)
    refine y_iastL (pc := 43) (n := 14) d46_43 ((((yP_a hp)).2).2).2.1 (fun h5 M4 => ?_)
    refine yL.eq (y_iinc (pc := 44) (v := 1) (x := x2) (ls' := [some (.ref p), some (.int x1), some (.int (x2 + 1))]) d46_44 kc_1 rfl (Nat.le_of_ble_eq_true rfl) rfl) ?_
    refine yL.eq (y_goto (pc := 47) (t := 21) d46_47 (by decide)) ?_
    exact yL.rf
  ·
    exact yL.eq (y_ret (pc := 50) d46_50 mr_46) yL.rf
set_option maxRecDepth 20000 in
set_option maxHeartbeats 4000000 in
theorem e47 {p : Nat} {a1 : Int32} {a2 : Int32} (hp : yP p) {M : yM} : yL (if a1 = 1 then if yinB a2 14 = true then yI (M ((p + 1) + 2) (yx a2)) M else none else if a1 = 2 then if yinB a2 14 = true then yI (M (p + 12) (yx a2)) M else none else if a1 = 3 then yCi false (yX 20 0 [some (.ref (p + 1)), some (.int a2), none, none] [] M 0 0) fun v7 M6 => yCi false (yX 144 0 [some (.int v7)] [] M6 0 0) fun v9 M8 => yI v9 M8 else yI 0 M) (yX 47 0 [some (.ref p), some (.int a1), some (.int a2)] [] M 0 0) := by
  refine yL.eq (y_iload_n (pc := 0) (x := a1) d47_0 rfl) ?_
  refine yL.eq (y_tsw (pc := 1) (ts := [28, 38, 45]) (d := 57) d47_1 (by decide +kernel)) ?_
  refine yL.eq (y_ts (c := 1) (lo' := 2) kc_1 (by decide)) ?_
  refine yL.ite (fun h1 => ?_) (fun h1 => ?_)
  ·
    refine yL.eq (y_aload_n (pc := 28) (x := p) d47_28 rfl) ?_
    refine yL.eq (y_getr (pc := 29) (r := (p + 1)) d47_29 q47_12 (yP_r hp).1) ?_
    refine yL.eq (y_getr (pc := 32) (r := ((p + 1) + 2)) d47_32 q47_103 ((yC_r (yP_c hp))).2.1) ?_
    refine yL.eq (y_iload_n (pc := 35) (x := a2) d47_35 rfl) ?_
    refine yL.eq (y_iald (pc := 36) (n := 14) d47_36 ((yC_a (yP_c hp))).2.1) ?_
    refine yL.gd (fun h2 => ?_)
    exact yL.eq (y_ireti (pc := 37) d47_37 mr_47) yL.rf
  ·
    refine yL.eq (y_ts (c := 2) (lo' := 3) kc_2 (by decide)) ?_
    refine yL.ite (fun h3 => ?_) (fun h3 => ?_)
    ·
      refine yL.eq (y_aload_n (pc := 38) (x := p) d47_38 rfl) ?_
      refine yL.eq (y_getr (pc := 39) (r := (p + 12)) d47_39 q47_25 ((((yP_r hp)).2).2).2.1) ?_
      refine yL.eq (y_iload_n (pc := 42) (x := a2) d47_42 rfl) ?_
      refine yL.eq (y_iald (pc := 43) (n := 14) d47_43 (((yP_a hp)).2).2.1) ?_
      refine yL.gd (fun h4 => ?_)
      exact yL.eq (y_ireti (pc := 44) d47_44 mr_47) yL.rf
    ·
      refine yL.eq (y_ts (c := 3) (lo' := 4) kc_3 (by decide)) ?_
      refine yL.ite (fun h5 => ?_) (fun h5 => ?_)
      ·
        refine yL.eq (y_aload_n (pc := 45) (x := p) d47_45 rfl) ?_
        refine yL.eq (y_getr (pc := 46) (r := (p + 1)) d47_46 q47_12 (yP_r hp).1) ?_
        refine yL.eq (y_iload_n (pc := 49) (x := a2) d47_49 rfl) ?_
        refine y_callv_i (pc := 50) (n := 2) (n' := 4) (nc' := 0) (ns' := 0) [.int a2] [] false d47_50 q47_106 mk_20 (yC_t (yP_c hp)) rfl rfl (Nat.le_of_ble_eq_true rfl) (Nat.le_of_ble_eq_true rfl) rfl (by decide +kernel) (by decide +kernel) (fun v7 M6 => ?_)
        refine y_calls_i (pc := 53) (n := 1) (n' := 1) (nc' := 0) (ns' := 0) [.int v7] [] false d47_53 q47_109 rfl rfl rfl (Nat.le_of_ble_eq_true rfl) (Nat.le_of_ble_eq_true rfl) rfl (by decide +kernel) (by decide +kernel) (fun v9 M8 => ?_)
        exact yL.eq (y_ireti (pc := 56) d47_56 mr_47) yL.rf
      ·
        refine yL.eq y_tsn ?_
        refine yL.eq (y_iconst (pc := 57) (v := 0) d47_57 kc_0) ?_
        exact yL.eq (y_ireti (pc := 58) d47_58 mr_47) yL.rf
set_option maxRecDepth 20000 in
set_option maxHeartbeats 4000000 in
theorem e48 {p : Nat} (hp : yP p) {M : yM} : yL (yLet (yUa M (p + 12) (ycp (M ((p + 1) + 2)) (M (p + 12)) 14)) fun M1 => yX 48 20 [some (.ref p), some (.int 1), none] [] M1 0 0) (yX 48 0 [some (.ref p), none, none] [] M 0 0) := by
  refine yL.eq (y_aload_n (pc := 0) (x := p) d48_0 rfl) ?_
  refine yL.eq (y_getr (pc := 1) (r := (p + 1)) d48_1 q48_12 (yP_r hp).1) ?_
  refine yL.eq (y_getr (pc := 4) (r := ((p + 1) + 2)) d48_4 q48_103 ((yC_r (yP_c hp))).2.1) ?_
  refine yL.eq (y_iconst (pc := 7) (v := 0) d48_7 kc_0) ?_
  refine yL.eq (y_aload_n (pc := 8) (x := p) d48_8 rfl) ?_
  refine yL.eq (y_getr (pc := 9) (r := (p + 12)) d48_9 q48_25 ((((yP_r hp)).2).2).2.1) ?_
  refine yL.eq (y_iconst (pc := 12) (v := 0) d48_12 kc_0) ?_
  refine yL.eq (y_bipush (pc := 13) (v := 14) d48_13 kb_14) ?_
  refine y_copyL (pc := 15) (N := 14) d48_15 q48_114 (Nat.le_of_ble_eq_true rfl) (by decide +kernel) (y_cp ((yC_a (yP_c hp))).2.1) (((yP_a hp)).2).2.1 (by decide +kernel) (fun M1 => ?_)
  refine yL.eq (y_iconst (pc := 18) (v := 1) d48_18 kc_1) ?_
  refine yL.eq (y_istore_n (pc := 19) (ls' := [some (.ref p), some (.int 1), none]) d48_19 rfl rfl) ?_
  exact yL.rf
set_option maxRecDepth 20000 in
set_option maxHeartbeats 4000000 in
theorem e48_20 {p : Nat} {x1 : Int32} {o2 : Option Value} (hp : yP p) {M : yM} : yL (if x1 < (M (p + 1) 1) then yX 48 33 [some (.ref p), some (.int x1), some (.int 0)] [] M 0 0 else yV M) (yX 48 20 [some (.ref p), some (.int x1), o2] [] M 0 0) := by
  refine yL.eq (y_iload_n (pc := 20) (x := x1) d48_20 rfl) ?_
  refine yL.eq (y_aload_n (pc := 21) (x := p) d48_21 rfl) ?_
  refine yL.eq (y_getr (pc := 22) (r := (p + 1)) d48_22 q48_12 (yP_r hp).1) ?_
  refine yL.eq (y_geti (pc := 25) d48_25 q48_40 ((yC_i (yP_c hp))).2.1) ?_
  refine yL.eq (y_icmp_ge (pc := 28) (t := 61) d48_28 (by decide)) ?_
  refine yL.ite (fun h1 => ?_) (fun h1 => ?_)
  ·
    refine yL.eq (y_iconst (pc := 31) (v := 0) d48_31 kc_0) ?_
    refine yL.eq (y_istore_n (pc := 32) (ls' := [some (.ref p), some (.int x1), some (.int 0)]) d48_32 rfl rfl) ?_
    exact yL.rf
  ·
    exact yL.eq (y_ret (pc := 61) d48_61 mr_48) yL.rf
set_option maxRecDepth 20000 in
set_option maxHeartbeats 4000000 in
theorem e48_33 {p : Nat} {x1 : Int32} {x2 : Int32} (hp : yP p) {M : yM} : yL (if x2 < (M (p + 1) 1) then yCv false (yX 49 0 [some (.ref p), some (.int x2), none] [] M 0 0) fun M2 => yX 48 33 [some (.ref p), some (.int x1), some (.int (x2 + 1))] [] M2 0 0 else yX 48 20 [some (.ref p), some (.int (x1 + 1)), some (.int x2)] [] M 0 0) (yX 48 33 [some (.ref p), some (.int x1), some (.int x2)] [] M 0 0) := by
  refine yL.eq (y_iload_n (pc := 33) (x := x2) d48_33 rfl) ?_
  refine yL.eq (y_aload_n (pc := 34) (x := p) d48_34 rfl) ?_
  refine yL.eq (y_getr (pc := 35) (r := (p + 1)) d48_35 q48_12 (yP_r hp).1) ?_
  refine yL.eq (y_geti (pc := 38) d48_38 q48_40 ((yC_i (yP_c hp))).2.1) ?_
  refine yL.eq (y_icmp_ge (pc := 41) (t := 55) d48_41 (by decide)) ?_
  refine yL.ite (fun h1 => ?_) (fun h1 => ?_)
  ·
    refine yL.eq (y_aload_n (pc := 44) (x := p) d48_44 rfl) ?_
    refine yL.eq (y_iload_n (pc := 45) (x := x2) d48_45 rfl) ?_
    refine y_callv_v (pc := 46) (n := 2) (n' := 3) (nc' := 0) (ns' := 0) [.int x2] [] false d48_46 q48_120 mk_49 (yP_t hp) rfl rfl (Nat.le_of_ble_eq_true rfl) (Nat.le_of_ble_eq_true rfl) rfl (by decide +kernel) (by decide +kernel) (fun M2 => ?_)
    refine yL.eq (y_iinc (pc := 49) (v := 1) (x := x2) (ls' := [some (.ref p), some (.int x1), some (.int (x2 + 1))]) d48_49 kc_1 rfl (Nat.le_of_ble_eq_true rfl) rfl) ?_
    refine yL.eq (y_goto (pc := 52) (t := 33) d48_52 (by decide)) ?_
    exact yL.rf
  ·
    refine yL.eq (y_iinc (pc := 55) (v := 1) (x := x1) (ls' := [some (.ref p), some (.int (x1 + 1)), some (.int x2)]) d48_55 kc_1 rfl (Nat.le_of_ble_eq_true rfl) rfl) ?_
    refine yL.eq (y_goto (pc := 58) (t := 20) d48_58 (by decide)) ?_
    exact yL.rf
set_option maxRecDepth 20000 in
set_option maxHeartbeats 4000000 in
theorem e49 {p : Nat} {a1 : Int32} (hp : yP p) {M : yM} : yL (yX 49 2 [some (.ref p), some (.int a1), some (.int 0)] [] M 0 0) (yX 49 0 [some (.ref p), some (.int a1), none] [] M 0 0) := by
  refine yL.eq (y_iconst (pc := 0) (v := 0) d49_0 kc_0) ?_
  refine yL.eq (y_istore_n (pc := 1) (ls' := [some (.ref p), some (.int a1), some (.int 0)]) d49_1 rfl rfl) ?_
  exact yL.rf
set_option maxRecDepth 20000 in
set_option maxHeartbeats 4000000 in
theorem e49_2 {p : Nat} {x1 : Int32} {x2 : Int32} (hp : yP p) {M : yM} : yL (if x2 < (M (p + 1) 1) then if yinB x1 14 = true then yCi false (yX 99 0 [some (.int (M ((p + 1) + 6) (yx x1))), some (.int x2)] [] M 0 0) fun v4 M3 => if v4 = 0 then yX 49 2 [some (.ref p), some (.int x1), some (.int (x2 + 1))] [] M3 0 0 else if yinB x2 14 = true then if yinB x2 14 = true then if yinB x1 14 = true then if yinB x2 14 = true then yLet (yU M3 (p + 12) (yx x2) (if (M3 (p + 12) (yx x2)) < ((M3 ((p + 1) + 2) (yx x2)) + (M3 (p + 12) (yx x1))) then ((M3 ((p + 1) + 2) (yx x2)) + (M3 (p + 12) (yx x1))) else (M3 (p + 12) (yx x2)))) fun M9 => yX 49 2 [some (.ref p), some (.int x1), some (.int (x2 + 1))] [] M9 0 0 else none else none else none else none else none else yV M) (yX 49 2 [some (.ref p), some (.int x1), some (.int x2)] [] M 0 0) := by
  refine yL.eq (y_iload_n (pc := 2) (x := x2) d49_2 rfl) ?_
  refine yL.eq (y_aload_n (pc := 3) (x := p) d49_3 rfl) ?_
  refine yL.eq (y_getr (pc := 4) (r := (p + 1)) d49_4 q49_12 (yP_r hp).1) ?_
  refine yL.eq (y_geti (pc := 7) d49_7 q49_40 ((yC_i (yP_c hp))).2.1) ?_
  refine yL.eq (y_icmp_ge (pc := 10) (t := 66) d49_10 (by decide)) ?_
  refine yL.ite (fun h1 => ?_) (fun h1 => ?_)
  ·
    refine yL.eq (y_aload_n (pc := 13) (x := p) d49_13 rfl) ?_
    refine yL.eq (y_getr (pc := 14) (r := (p + 1)) d49_14 q49_12 (yP_r hp).1) ?_
    refine yL.eq (y_getr (pc := 17) (r := ((p + 1) + 6)) d49_17 q49_123 ((((((yC_r (yP_c hp))).2).2).2).2).2.1) ?_
    refine yL.eq (y_iload_n (pc := 20) (x := x1) d49_20 rfl) ?_
    refine yL.eq (y_iald (pc := 21) (n := 14) d49_21 ((((((yC_a (yP_c hp))).2).2).2).2).2.1) ?_
    refine yL.gd (fun h2 => ?_)
    refine yL.eq (y_iload_n (pc := 22) (x := x2) d49_22 rfl) ?_
    refine y_calls_i (pc := 23) (n := 2) (n' := 2) (nc' := 0) (ns' := 0) [.int (M ((p + 1) + 6) (yx x1)), .int x2] [] false d49_23 q49_56 rfl rfl rfl (Nat.le_of_ble_eq_true rfl) (Nat.le_of_ble_eq_true rfl) rfl (by decide +kernel) (by decide +kernel) (fun v4 M3 => ?_)
    refine yL.eq (y_if_eq (pc := 26) (t := 60) d49_26 (by decide)) ?_
    refine yL.ite (fun h5 => ?_) (fun h5 => ?_)
    ·
      refine yL.eq (y_iinc (pc := 60) (v := 1) (x := x2) (ls' := [some (.ref p), some (.int x1), some (.int (x2 + 1))]) d49_60 kc_1 rfl (Nat.le_of_ble_eq_true rfl) rfl) ?_
      refine yL.eq (y_goto (pc := 63) (t := 2) d49_63 (by decide)) ?_
      exact yL.rf
    ·
      refine yL.eq (y_aload_n (pc := 29) (x := p) d49_29 rfl) ?_
      refine yL.eq (y_getr (pc := 30) (r := (p + 12)) d49_30 q49_25 ((((yP_r hp)).2).2).2.1) ?_
      refine yL.eq (y_iload_n (pc := 33) (x := x2) d49_33 rfl) ?_
      refine yL.eq (y_aload_n (pc := 34) (x := p) d49_34 rfl) ?_
      refine yL.eq (y_getr (pc := 35) (r := (p + 12)) d49_35 q49_25 ((((yP_r hp)).2).2).2.1) ?_
      refine yL.eq (y_iload_n (pc := 38) (x := x2) d49_38 rfl) ?_
      refine yL.eq (y_iald (pc := 39) (n := 14) d49_39 (((yP_a hp)).2).2.1) ?_
      refine yL.gd (fun h6 => ?_)
      refine yL.eq (y_aload_n (pc := 40) (x := p) d49_40 rfl) ?_
      refine yL.eq (y_getr (pc := 41) (r := (p + 1)) d49_41 q49_12 (yP_r hp).1) ?_
      refine yL.eq (y_getr (pc := 44) (r := ((p + 1) + 2)) d49_44 q49_103 ((yC_r (yP_c hp))).2.1) ?_
      refine yL.eq (y_iload_n (pc := 47) (x := x2) d49_47 rfl) ?_
      refine yL.eq (y_iald (pc := 48) (n := 14) d49_48 ((yC_a (yP_c hp))).2.1) ?_
      refine yL.gd (fun h7 => ?_)
      refine yL.eq (y_aload_n (pc := 49) (x := p) d49_49 rfl) ?_
      refine yL.eq (y_getr (pc := 50) (r := (p + 12)) d49_50 q49_25 ((((yP_r hp)).2).2).2.1) ?_
      refine yL.eq (y_iload_n (pc := 53) (x := x1) d49_53 rfl) ?_
      refine yL.eq (y_iald (pc := 54) (n := 14) d49_54 (((yP_a hp)).2).2.1) ?_
      refine yL.gd (fun h8 => ?_)
      refine yL.eq (y_iadd (pc := 55) d49_55) ?_
      refine yL.eq (y_mmax (pc := 56) d49_56 q49_44 (Nat.le_of_ble_eq_true rfl) (by decide +kernel)) ?_
      refine y_iastL (pc := 59) (n := 14) d49_59 (((yP_a hp)).2).2.1 (fun h10 M9 => ?_)
      refine yL.eq (y_iinc (pc := 60) (v := 1) (x := x2) (ls' := [some (.ref p), some (.int x1), some (.int (x2 + 1))]) d49_60 kc_1 rfl (Nat.le_of_ble_eq_true rfl) rfl) ?_
      refine yL.eq (y_goto (pc := 63) (t := 2) d49_63 (by decide)) ?_
      exact yL.rf
  ·
    exact yL.eq (y_ret (pc := 66) d49_66 mr_49) yL.rf
set_option maxRecDepth 20000 in
set_option maxHeartbeats 4000000 in
theorem e50 {p : Nat} {a1 : Int32} (hp : yP p) {M : yM} : yL (yLet (yU M p 9 0) fun M1 => yLet (yU M1 p 10 (M1 ((p + 1) + 8) 3)) fun M2 => yLet (yUa M2 (p + 15) (ycp (M2 ((p + 1) + 7)) (M2 (p + 15)) 4)) fun M3 => yX 50 37 [some (.ref p), some (.int a1), some (.int 0), none] [] M3 0 0) (yX 50 0 [some (.ref p), some (.int a1), none, none] [] M 0 0) := by
  refine yL.eq (y_aload_n (pc := 0) (x := p) d50_0 rfl) ?_
  refine yL.eq (y_iconst (pc := 1) (v := 0) d50_1 kc_0) ?_
  refine y_putiL (pc := 2) d50_2 q50_126 ((((yP_i hp)).2).2).2.1 rfl (fun M1 => ?_)
  refine yL.eq (y_aload_n (pc := 5) (x := p) d50_5 rfl) ?_
  refine yL.eq (y_aload_n (pc := 6) (x := p) d50_6 rfl) ?_
  refine yL.eq (y_getr (pc := 7) (r := (p + 1)) d50_7 q50_12 (yP_r hp).1) ?_
  refine yL.eq (y_getr (pc := 10) (r := ((p + 1) + 8)) d50_10 q50_78 ((((((((yC_r (yP_c hp))).2).2).2).2).2).2).2) ?_
  refine yL.eq (y_iconst (pc := 13) (v := 3) d50_13 kc_3) ?_
  refine yL.eq (y_iald (pc := 14) (n := 5) d50_14 ((((((((yC_a (yP_c hp))).2).2).2).2).2).2).2) ?_
  refine yL.eq (if_pos in_3_5) ?_
  show yL _ (yX 50 15 [some (.ref p), some (.int a1), none, none] ([.int (M1 ((p + 1) + 8) 3), .ref p]) M1 0 0)
  refine y_putiL (pc := 15) d50_15 q50_129 (((((yP_i hp)).2).2).2).2 rfl (fun M2 => ?_)
  refine yL.eq (y_aload_n (pc := 18) (x := p) d50_18 rfl) ?_
  refine yL.eq (y_getr (pc := 19) (r := (p + 1)) d50_19 q50_12 (yP_r hp).1) ?_
  refine yL.eq (y_getr (pc := 22) (r := ((p + 1) + 7)) d50_22 q50_132 (((((((yC_r (yP_c hp))).2).2).2).2).2).2.1) ?_
  refine yL.eq (y_iconst (pc := 25) (v := 0) d50_25 kc_0) ?_
  refine yL.eq (y_aload_n (pc := 26) (x := p) d50_26 rfl) ?_
  refine yL.eq (y_getr (pc := 27) (r := (p + 15)) d50_27 q50_34 (((((((yP_r hp)).2).2).2).2).2).2) ?_
  refine yL.eq (y_iconst (pc := 30) (v := 0) d50_30 kc_0) ?_
  refine yL.eq (y_iconst (pc := 31) (v := 4) d50_31 kc_4) ?_
  refine y_copyL (pc := 32) (N := 4) d50_32 q50_114 (Nat.le_of_ble_eq_true rfl) (by decide +kernel) (y_cp (((((((yC_a (yP_c hp))).2).2).2).2).2).2.1) ((((((yP_a hp)).2).2).2).2).2 (by decide +kernel) (fun M3 => ?_)
  refine yL.eq (y_iconst (pc := 35) (v := 0) d50_35 kc_0) ?_
  refine yL.eq (y_istore_n (pc := 36) (ls' := [some (.ref p), some (.int a1), some (.int 0), none]) d50_36 rfl rfl) ?_
  exact yL.rf
set_option maxRecDepth 20000 in
set_option maxHeartbeats 4000000 in
theorem e50_37 {p : Nat} {x1 : Int32} {x2 : Int32} {o3 : Option Value} (hp : yP p) {M : yM} : yL (if x2 < (M p 6) then if yinB x2 14 = true then if yinB (M (p + 14) (yx x2)) 14 = true then if (M (p + 11) (yx (M (p + 14) (yx x2)))) ≤ x1 then yCi false (yX 100 0 [some (.int (M p 9)), some (.int (M (p + 14) (yx x2))), some (.int 1)] [] M 0 0) fun v6 M5 => yLet (yU M5 p 9 v6) fun M7 => yCi false (yX 44 0 [some (.ref p), some (.int (M (p + 14) (yx x2)))] [] M7 0 0) fun v9 M8 => if x1 < v9 then yCv false (yX 51 0 [some (.ref p), some (.int (M (p + 14) (yx x2))), none] [] M8 0 0) fun M11 => yX 50 37 [some (.ref p), some (.int x1), some (.int (x2 + 1)), some (.int (M (p + 14) (yx x2)))] [] M11 0 0 else yX 50 37 [some (.ref p), some (.int x1), some (.int (x2 + 1)), some (.int (M (p + 14) (yx x2)))] [] M8 0 0 else if yinB (M (p + 14) (yx x2)) 14 = true then yLet (yU M p 10 ((M p 10) - (M ((p + 1) + 4) (yx (M (p + 14) (yx x2)))))) fun M13 => yCi false (yX 44 0 [some (.ref p), some (.int (M (p + 14) (yx x2)))] [] M13 0 0) fun v15 M14 => if x1 < v15 then yCv false (yX 51 0 [some (.ref p), some (.int (M (p + 14) (yx x2))), none] [] M14 0 0) fun M17 => yX 50 37 [some (.ref p), some (.int x1), some (.int (x2 + 1)), some (.int (M (p + 14) (yx x2)))] [] M17 0 0 else yX 50 37 [some (.ref p), some (.int x1), some (.int (x2 + 1)), some (.int (M (p + 14) (yx x2)))] [] M14 0 0 else none else none else none else yV M) (yX 50 37 [some (.ref p), some (.int x1), some (.int x2), o3] [] M 0 0) := by
  refine yL.eq (y_iload_n (pc := 37) (x := x2) d50_37 rfl) ?_
  refine yL.eq (y_aload_n (pc := 38) (x := p) d50_38 rfl) ?_
  refine yL.eq (y_geti (pc := 39) d50_39 q50_50 (yP_i hp).1) ?_
  refine yL.eq (y_icmp_ge (pc := 42) (t := 116) d50_42 (by decide)) ?_
  refine yL.ite (fun h1 => ?_) (fun h1 => ?_)
  ·
    refine yL.eq (y_aload_n (pc := 45) (x := p) d50_45 rfl) ?_
    refine yL.eq (y_getr (pc := 46) (r := (p + 14)) d50_46 q50_31 ((((((yP_r hp)).2).2).2).2).2.1) ?_
    refine yL.eq (y_iload_n (pc := 49) (x := x2) d50_49 rfl) ?_
    refine yL.eq (y_iald (pc := 50) (n := 14) d50_50 (((((yP_a hp)).2).2).2).2.1) ?_
    refine yL.gd (fun h2 => ?_)
    refine yL.eq (y_istore_n (pc := 51) (ls' := [some (.ref p), some (.int x1), some (.int x2), some (.int (M (p + 14) (yx x2)))]) d50_51 rfl rfl) ?_
    refine yL.eq (y_aload_n (pc := 52) (x := p) d50_52 rfl) ?_
    refine yL.eq (y_getr (pc := 53) (r := (p + 11)) d50_53 q50_22 (((yP_r hp)).2).2.1) ?_
    refine yL.eq (y_iload_n (pc := 56) (x := (M (p + 14) (yx x2))) d50_56 rfl) ?_
    refine yL.eq (y_iald (pc := 57) (n := 14) d50_57 ((yP_a hp)).2.1) ?_
    refine yL.gd (fun h3 => ?_)
    refine yL.eq (y_iload_n (pc := 58) (x := x1) d50_58 rfl) ?_
    refine yL.eq (y_icmp_gt (pc := 59) (t := 78) d50_59 (by decide)) ?_
    refine yL.ite (fun h4 => ?_) (fun h4 => ?_)
    ·
      refine yL.eq (y_aload_n (pc := 62) (x := p) d50_62 rfl) ?_
      refine yL.eq (y_aload_n (pc := 63) (x := p) d50_63 rfl) ?_
      refine yL.eq (y_geti (pc := 64) d50_64 q50_126 ((((yP_i hp)).2).2).2.1) ?_
      refine yL.eq (y_iload_n (pc := 67) (x := (M (p + 14) (yx x2))) d50_67 rfl) ?_
      refine yL.eq (y_iconst (pc := 68) (v := 1) d50_68 kc_1) ?_
      refine y_calls_i (pc := 69) (n := 3) (n' := 3) (nc' := 0) (ns' := 0) [.int (M p 9), .int (M (p + 14) (yx x2)), .int 1] [.ref p] false d50_69 q50_135 rfl rfl rfl (Nat.le_of_ble_eq_true rfl) (Nat.le_of_ble_eq_true rfl) rfl (by decide +kernel) (by decide +kernel) (fun v6 M5 => ?_)
      refine y_putiL (pc := 72) d50_72 q50_126 ((((yP_i hp)).2).2).2.1 rfl (fun M7 => ?_)
      refine yL.eq (y_goto (pc := 75) (t := 96) d50_75 (by decide)) ?_
      refine yL.eq (y_iload_n (pc := 96) (x := x1) d50_96 rfl) ?_
      refine yL.eq (y_aload_n (pc := 97) (x := p) d50_97 rfl) ?_
      refine yL.eq (y_iload_n (pc := 98) (x := (M (p + 14) (yx x2))) d50_98 rfl) ?_
      refine y_callv_i (pc := 99) (n := 2) (n' := 2) (nc' := 0) (ns' := 0) [.int (M (p + 14) (yx x2))] [.int x1] false d50_99 q50_74 mk_44 (yP_t hp) rfl rfl (Nat.le_of_ble_eq_true rfl) (Nat.le_of_ble_eq_true rfl) rfl (by decide +kernel) (by decide +kernel) (fun v9 M8 => ?_)
      refine yL.eq (y_icmp_ge (pc := 102) (t := 110) d50_102 (by decide)) ?_
      refine yL.ite (fun h10 => ?_) (fun h10 => ?_)
      ·
        refine yL.eq (y_aload_n (pc := 105) (x := p) d50_105 rfl) ?_
        refine yL.eq (y_iload_n (pc := 106) (x := (M (p + 14) (yx x2))) d50_106 rfl) ?_
        refine y_callv_v (pc := 107) (n := 2) (n' := 3) (nc' := 0) (ns' := 0) [.int (M (p + 14) (yx x2))] [] false d50_107 q50_139 mk_51 (yP_t hp) rfl rfl (Nat.le_of_ble_eq_true rfl) (Nat.le_of_ble_eq_true rfl) rfl (by decide +kernel) (by decide +kernel) (fun M11 => ?_)
        refine yL.eq (y_iinc (pc := 110) (v := 1) (x := x2) (ls' := [some (.ref p), some (.int x1), some (.int (x2 + 1)), some (.int (M (p + 14) (yx x2)))]) d50_110 kc_1 rfl (Nat.le_of_ble_eq_true rfl) rfl) ?_
        refine yL.eq (y_goto (pc := 113) (t := 37) d50_113 (by decide)) ?_
        exact yL.rf
      ·
        refine yL.eq (y_iinc (pc := 110) (v := 1) (x := x2) (ls' := [some (.ref p), some (.int x1), some (.int (x2 + 1)), some (.int (M (p + 14) (yx x2)))]) d50_110 kc_1 rfl (Nat.le_of_ble_eq_true rfl) rfl) ?_
        refine yL.eq (y_goto (pc := 113) (t := 37) d50_113 (by decide)) ?_
        exact yL.rf
    ·
      refine yL.eq (y_aload_n (pc := 78) (x := p) d50_78 rfl) ?_
      refine yL.eq (y_dup (pc := 79) d50_79 rfl) ?_
      refine yL.eq (y_geti (pc := 80) d50_80 q50_129 (((((yP_i hp)).2).2).2).2) ?_
      refine yL.eq (y_aload_n (pc := 83) (x := p) d50_83 rfl) ?_
      refine yL.eq (y_getr (pc := 84) (r := (p + 1)) d50_84 q50_12 (yP_r hp).1) ?_
      refine yL.eq (y_getr (pc := 87) (r := ((p + 1) + 4)) d50_87 q50_68 ((((yC_r (yP_c hp))).2).2).2.1) ?_
      refine yL.eq (y_iload_n (pc := 90) (x := (M (p + 14) (yx x2))) d50_90 rfl) ?_
      refine yL.eq (y_iald (pc := 91) (n := 14) d50_91 ((((yC_a (yP_c hp))).2).2).2.1) ?_
      refine yL.gd (fun h12 => ?_)
      refine yL.eq (y_isub (pc := 92) d50_92) ?_
      refine y_putiL (pc := 93) d50_93 q50_129 (((((yP_i hp)).2).2).2).2 rfl (fun M13 => ?_)
      refine yL.eq (y_iload_n (pc := 96) (x := x1) d50_96 rfl) ?_
      refine yL.eq (y_aload_n (pc := 97) (x := p) d50_97 rfl) ?_
      refine yL.eq (y_iload_n (pc := 98) (x := (M (p + 14) (yx x2))) d50_98 rfl) ?_
      refine y_callv_i (pc := 99) (n := 2) (n' := 2) (nc' := 0) (ns' := 0) [.int (M (p + 14) (yx x2))] [.int x1] false d50_99 q50_74 mk_44 (yP_t hp) rfl rfl (Nat.le_of_ble_eq_true rfl) (Nat.le_of_ble_eq_true rfl) rfl (by decide +kernel) (by decide +kernel) (fun v15 M14 => ?_)
      refine yL.eq (y_icmp_ge (pc := 102) (t := 110) d50_102 (by decide)) ?_
      refine yL.ite (fun h16 => ?_) (fun h16 => ?_)
      ·
        refine yL.eq (y_aload_n (pc := 105) (x := p) d50_105 rfl) ?_
        refine yL.eq (y_iload_n (pc := 106) (x := (M (p + 14) (yx x2))) d50_106 rfl) ?_
        refine y_callv_v (pc := 107) (n := 2) (n' := 3) (nc' := 0) (ns' := 0) [.int (M (p + 14) (yx x2))] [] false d50_107 q50_139 mk_51 (yP_t hp) rfl rfl (Nat.le_of_ble_eq_true rfl) (Nat.le_of_ble_eq_true rfl) rfl (by decide +kernel) (by decide +kernel) (fun M17 => ?_)
        refine yL.eq (y_iinc (pc := 110) (v := 1) (x := x2) (ls' := [some (.ref p), some (.int x1), some (.int (x2 + 1)), some (.int (M (p + 14) (yx x2)))]) d50_110 kc_1 rfl (Nat.le_of_ble_eq_true rfl) rfl) ?_
        refine yL.eq (y_goto (pc := 113) (t := 37) d50_113 (by decide)) ?_
        exact yL.rf
      ·
        refine yL.eq (y_iinc (pc := 110) (v := 1) (x := x2) (ls' := [some (.ref p), some (.int x1), some (.int (x2 + 1)), some (.int (M (p + 14) (yx x2)))]) d50_110 kc_1 rfl (Nat.le_of_ble_eq_true rfl) rfl) ?_
        refine yL.eq (y_goto (pc := 113) (t := 37) d50_113 (by decide)) ?_
        exact yL.rf
  ·
    exact yL.eq (y_ret (pc := 116) d50_116 mr_50) yL.rf
set_option maxRecDepth 20000 in
set_option maxHeartbeats 4000000 in
theorem e51 {p : Nat} {a1 : Int32} (hp : yP p) {M : yM} : yL (if yinB a1 14 = true then yCi false (yX 95 0 [some (.int (M ((p + 1) + 3) (yx a1)))] [] M 0 0) fun v3 M2 => if v3 = 0 then yV M2 else if yinB (M ((p + 1) + 3) (yx a1)) 4 = true then if yinB (M ((p + 1) + 3) (yx a1)) 4 = true then yLet (yU M2 (p + 15) (yx (M ((p + 1) + 3) (yx a1))) ((M2 (p + 15) (yx (M ((p + 1) + 3) (yx a1)))) - 1)) fun M6 => yV M6 else none else none else none) (yX 51 0 [some (.ref p), some (.int a1), none] [] M 0 0) := by
  refine yL.eq (y_aload_n (pc := 0) (x := p) d51_0 rfl) ?_
  refine yL.eq (y_getr (pc := 1) (r := (p + 1)) d51_1 q51_12 (yP_r hp).1) ?_
  refine yL.eq (y_getr (pc := 4) (r := ((p + 1) + 3)) d51_4 q51_71 (((yC_r (yP_c hp))).2).2.1) ?_
  refine yL.eq (y_iload_n (pc := 7) (x := a1) d51_7 rfl) ?_
  refine yL.eq (y_iald (pc := 8) (n := 14) d51_8 (((yC_a (yP_c hp))).2).2.1) ?_
  refine yL.gd (fun h1 => ?_)
  refine yL.eq (y_istore_n (pc := 9) (ls' := [some (.ref p), some (.int a1), some (.int (M ((p + 1) + 3) (yx a1)))]) d51_9 rfl rfl) ?_
  refine yL.eq (y_iload_n (pc := 10) (x := (M ((p + 1) + 3) (yx a1))) d51_10 rfl) ?_
  refine y_calls_i (pc := 11) (n := 1) (n' := 1) (nc' := 0) (ns' := 0) [.int (M ((p + 1) + 3) (yx a1))] [] false d51_11 q51_142 rfl rfl rfl (Nat.le_of_ble_eq_true rfl) (Nat.le_of_ble_eq_true rfl) rfl (by decide +kernel) (by decide +kernel) (fun v3 M2 => ?_)
  refine yL.eq (y_if_eq (pc := 14) (t := 27) d51_14 (by decide)) ?_
  refine yL.ite (fun h4 => ?_) (fun h4 => ?_)
  ·
    exact yL.eq (y_ret (pc := 27) d51_27 mr_51) yL.rf
  ·
    refine yL.eq (y_aload_n (pc := 17) (x := p) d51_17 rfl) ?_
    refine yL.eq (y_getr (pc := 18) (r := (p + 15)) d51_18 q51_34 (((((((yP_r hp)).2).2).2).2).2).2) ?_
    refine yL.eq (y_iload_n (pc := 21) (x := (M ((p + 1) + 3) (yx a1))) d51_21 rfl) ?_
    refine yL.eq (y_dup2 (pc := 22) d51_22 rfl) ?_
    refine yL.eq (y_iald (pc := 23) (n := 4) d51_23 ((((((yP_a hp)).2).2).2).2).2) ?_
    refine yL.gd (fun h5 => ?_)
    refine yL.eq (y_iconst (pc := 24) (v := 1) d51_24 kc_1) ?_
    refine yL.eq (y_isub (pc := 25) d51_25) ?_
    refine y_iastL (pc := 26) (n := 4) d51_26 ((((((yP_a hp)).2).2).2).2).2 (fun h7 M6 => ?_)
    exact yL.eq (y_ret (pc := 27) d51_27 mr_51) yL.rf
set_option maxRecDepth 20000 in
set_option maxHeartbeats 4000000 in
theorem e52 {p : Nat} {a1 : Int32} (hp : yP p) {M : yM} : yL (yX 52 2 [some (.ref p), some (.int a1), some (.int 0), none] [] M 0 0) (yX 52 0 [some (.ref p), some (.int a1), none, none] [] M 0 0) := by
  refine yL.eq (y_iconst (pc := 0) (v := 0) d52_0 kc_0) ?_
  refine yL.eq (y_istore_n (pc := 1) (ls' := [some (.ref p), some (.int a1), some (.int 0), none]) d52_1 rfl rfl) ?_
  exact yL.rf
set_option maxRecDepth 20000 in
set_option maxHeartbeats 4000000 in
theorem e52_2 {p : Nat} {x1 : Int32} {x2 : Int32} {o3 : Option Value} (hp : yP p) {M : yM} : yL (if x2 < (M (p + 1) 1) then yCi false (yX 53 0 [some (.ref p), none, none] [] M 0 0) fun v3 M2 => if v3 = (-1) then yV M2 else if yinB v3 14 = true then yLet (yU M2 (p + 10) (yx v3) x1) fun M5 => if yinB v3 14 = true then if yinB v3 14 = true then yLet (yU M5 (p + 11) (yx v3) (x1 + (M5 ((p + 1) + 2) (yx v3)))) fun M8 => if yinB (M8 p 6) 14 = true then yLet (yU M8 (p + 14) (yx (M8 p 6)) v3) fun M10 => yLet (yU M10 p 6 ((M10 p 6) + 1)) fun M12 => if yinB v3 14 = true then yLet (yU M12 p 8 (if (M12 p 8) < (M12 (p + 11) (yx v3)) then (M12 (p + 11) (yx v3)) else (M12 p 8))) fun M14 => if yinB v3 14 = true then yLet (yU M14 p 10 ((M14 p 10) - (M14 ((p + 1) + 4) (yx v3)))) fun M16 => yCv false (yX 51 0 [some (.ref p), some (.int v3), none] [] M16 0 0) fun M17 => yX 52 2 [some (.ref p), some (.int x1), some (.int (x2 + 1)), some (.int v3)] [] M17 0 0 else none else none else none else none else none else none else yV M) (yX 52 2 [some (.ref p), some (.int x1), some (.int x2), o3] [] M 0 0) := by
  refine yL.eq (y_iload_n (pc := 2) (x := x2) d52_2 rfl) ?_
  refine yL.eq (y_aload_n (pc := 3) (x := p) d52_3 rfl) ?_
  refine yL.eq (y_getr (pc := 4) (r := (p + 1)) d52_4 q52_12 (yP_r hp).1) ?_
  refine yL.eq (y_geti (pc := 7) d52_7 q52_40 ((yC_i (yP_c hp))).2.1) ?_
  refine yL.eq (y_icmp_ge (pc := 10) (t := 114) d52_10 (by decide)) ?_
  refine yL.ite (fun h1 => ?_) (fun h1 => ?_)
  ·
    refine yL.eq (y_aload_n (pc := 13) (x := p) d52_13 rfl) ?_
    refine y_callv_i (pc := 14) (n := 1) (n' := 3) (nc' := 0) (ns' := 0) [] [] false d52_14 q52_146 mk_53 (yP_t hp) rfl rfl (Nat.le_of_ble_eq_true rfl) (Nat.le_of_ble_eq_true rfl) rfl (by decide +kernel) (by decide +kernel) (fun v3 M2 => ?_)
    refine yL.eq (y_istore_n (pc := 17) (ls' := [some (.ref p), some (.int x1), some (.int x2), some (.int v3)]) d52_17 rfl rfl) ?_
    refine yL.eq (y_iload_n (pc := 18) (x := v3) d52_18 rfl) ?_
    refine yL.eq (y_iconst (pc := 19) (v := (-1)) d52_19 kc_m1) ?_
    refine yL.eq (y_icmp_ne (pc := 20) (t := 24) d52_20 (by decide)) ?_
    refine yL.ite (fun h4 => ?_) (fun h4 => ?_)
    ·
      exact yL.eq (y_ret (pc := 23) d52_23 mr_52) yL.rf
    ·
      refine yL.eq (y_aload_n (pc := 24) (x := p) d52_24 rfl) ?_
      refine yL.eq (y_getr (pc := 25) (r := (p + 10)) d52_25 q52_18 ((yP_r hp)).2.1) ?_
      refine yL.eq (y_iload_n (pc := 28) (x := v3) d52_28 rfl) ?_
      refine yL.eq (y_iload_n (pc := 29) (x := x1) d52_29 rfl) ?_
      refine y_iastL (pc := 30) (n := 14) d52_30 (yP_a hp).1 (fun h6 M5 => ?_)
      refine yL.eq (y_aload_n (pc := 31) (x := p) d52_31 rfl) ?_
      refine yL.eq (y_getr (pc := 32) (r := (p + 11)) d52_32 q52_22 (((yP_r hp)).2).2.1) ?_
      refine yL.eq (y_iload_n (pc := 35) (x := v3) d52_35 rfl) ?_
      refine yL.eq (y_iload_n (pc := 36) (x := x1) d52_36 rfl) ?_
      refine yL.eq (y_aload_n (pc := 37) (x := p) d52_37 rfl) ?_
      refine yL.eq (y_getr (pc := 38) (r := (p + 1)) d52_38 q52_12 (yP_r hp).1) ?_
      refine yL.eq (y_getr (pc := 41) (r := ((p + 1) + 2)) d52_41 q52_103 ((yC_r (yP_c hp))).2.1) ?_
      refine yL.eq (y_iload_n (pc := 44) (x := v3) d52_44 rfl) ?_
      refine yL.eq (y_iald (pc := 45) (n := 14) d52_45 ((yC_a (yP_c hp))).2.1) ?_
      refine yL.gd (fun h7 => ?_)
      refine yL.eq (y_iadd (pc := 46) d52_46) ?_
      refine y_iastL (pc := 47) (n := 14) d52_47 ((yP_a hp)).2.1 (fun h9 M8 => ?_)
      refine yL.eq (y_aload_n (pc := 48) (x := p) d52_48 rfl) ?_
      refine yL.eq (y_getr (pc := 49) (r := (p + 14)) d52_49 q52_31 ((((((yP_r hp)).2).2).2).2).2.1) ?_
      refine yL.eq (y_aload_n (pc := 52) (x := p) d52_52 rfl) ?_
      refine yL.eq (y_geti (pc := 53) d52_53 q52_50 (yP_i hp).1) ?_
      refine yL.eq (y_iload_n (pc := 56) (x := v3) d52_56 rfl) ?_
      refine y_iastL (pc := 57) (n := 14) d52_57 (((((yP_a hp)).2).2).2).2.1 (fun h11 M10 => ?_)
      refine yL.eq (y_aload_n (pc := 58) (x := p) d52_58 rfl) ?_
      refine yL.eq (y_dup (pc := 59) d52_59 rfl) ?_
      refine yL.eq (y_geti (pc := 60) d52_60 q52_50 (yP_i hp).1) ?_
      refine yL.eq (y_iconst (pc := 63) (v := 1) d52_63 kc_1) ?_
      refine yL.eq (y_iadd (pc := 64) d52_64) ?_
      refine y_putiL (pc := 65) d52_65 q52_50 (yP_i hp).1 rfl (fun M12 => ?_)
      refine yL.eq (y_aload_n (pc := 68) (x := p) d52_68 rfl) ?_
      refine yL.eq (y_aload_n (pc := 69) (x := p) d52_69 rfl) ?_
      refine yL.eq (y_geti (pc := 70) d52_70 q52_84 (((yP_i hp)).2).2.1) ?_
      refine yL.eq (y_aload_n (pc := 73) (x := p) d52_73 rfl) ?_
      refine yL.eq (y_getr (pc := 74) (r := (p + 11)) d52_74 q52_22 (((yP_r hp)).2).2.1) ?_
      refine yL.eq (y_iload_n (pc := 77) (x := v3) d52_77 rfl) ?_
      refine yL.eq (y_iald (pc := 78) (n := 14) d52_78 ((yP_a hp)).2.1) ?_
      refine yL.gd (fun h13 => ?_)
      refine yL.eq (y_mmax (pc := 79) d52_79 q52_44 (Nat.le_of_ble_eq_true rfl) (by decide +kernel)) ?_
      refine y_putiL (pc := 82) d52_82 q52_84 (((yP_i hp)).2).2.1 rfl (fun M14 => ?_)
      refine yL.eq (y_aload_n (pc := 85) (x := p) d52_85 rfl) ?_
      refine yL.eq (y_dup (pc := 86) d52_86 rfl) ?_
      refine yL.eq (y_geti (pc := 87) d52_87 q52_129 (((((yP_i hp)).2).2).2).2) ?_
      refine yL.eq (y_aload_n (pc := 90) (x := p) d52_90 rfl) ?_
      refine yL.eq (y_getr (pc := 91) (r := (p + 1)) d52_91 q52_12 (yP_r hp).1) ?_
      refine yL.eq (y_getr (pc := 94) (r := ((p + 1) + 4)) d52_94 q52_68 ((((yC_r (yP_c hp))).2).2).2.1) ?_
      refine yL.eq (y_iload_n (pc := 97) (x := v3) d52_97 rfl) ?_
      refine yL.eq (y_iald (pc := 98) (n := 14) d52_98 ((((yC_a (yP_c hp))).2).2).2.1) ?_
      refine yL.gd (fun h15 => ?_)
      refine yL.eq (y_isub (pc := 99) d52_99) ?_
      refine y_putiL (pc := 100) d52_100 q52_129 (((((yP_i hp)).2).2).2).2 rfl (fun M16 => ?_)
      refine yL.eq (y_aload_n (pc := 103) (x := p) d52_103 rfl) ?_
      refine yL.eq (y_iload_n (pc := 104) (x := v3) d52_104 rfl) ?_
      refine y_callv_v (pc := 105) (n := 2) (n' := 3) (nc' := 0) (ns' := 0) [.int v3] [] false d52_105 q52_139 mk_51 (yP_t hp) rfl rfl (Nat.le_of_ble_eq_true rfl) (Nat.le_of_ble_eq_true rfl) rfl (by decide +kernel) (by decide +kernel) (fun M17 => ?_)
      refine yL.eq (y_iinc (pc := 108) (v := 1) (x := x2) (ls' := [some (.ref p), some (.int x1), some (.int (x2 + 1)), some (.int v3)]) d52_108 kc_1 rfl (Nat.le_of_ble_eq_true rfl) rfl) ?_
      refine yL.eq (y_goto (pc := 111) (t := 2) d52_111 (by decide)) ?_
      exact yL.rf
  ·
    exact yL.eq (y_ret (pc := 114) d52_114 mr_52) yL.rf
set_option maxRecDepth 20000 in
set_option maxHeartbeats 4000000 in
theorem e53 {p : Nat} (hp : yP p) {M : yM} : yL (yX 53 4 [some (.ref p), some (.int (-1)), some (.int 0)] [] M 0 0) (yX 53 0 [some (.ref p), none, none] [] M 0 0) := by
  refine yL.eq (y_iconst (pc := 0) (v := (-1)) d53_0 kc_m1) ?_
  refine yL.eq (y_istore_n (pc := 1) (ls' := [some (.ref p), some (.int (-1)), none]) d53_1 rfl rfl) ?_
  refine yL.eq (y_iconst (pc := 2) (v := 0) d53_2 kc_0) ?_
  refine yL.eq (y_istore_n (pc := 3) (ls' := [some (.ref p), some (.int (-1)), some (.int 0)]) d53_3 rfl rfl) ?_
  exact yL.rf
set_option maxRecDepth 20000 in
set_option maxHeartbeats 4000000 in
theorem e53_4 {p : Nat} {x1 : Int32} {x2 : Int32} (hp : yP p) {M : yM} : yL (if x2 < (M (p + 1) 1) then yCi false (yX 54 0 [some (.ref p), some (.int x2), none] [] M 0 0) fun v3 M2 => if v3 = 0 then yX 53 4 [some (.ref p), some (.int x1), some (.int (x2 + 1))] [] M2 0 0 else if x1 = (-1) then yX 53 4 [some (.ref p), some (.int x2), some (.int (x2 + 1))] [] M2 0 0 else if yinB x2 14 = true then if yinB x1 14 = true then if (M2 (p + 13) (yx x2)) ≤ (M2 (p + 13) (yx x1)) then yX 53 4 [some (.ref p), some (.int x1), some (.int (x2 + 1))] [] M2 0 0 else yX 53 4 [some (.ref p), some (.int x2), some (.int (x2 + 1))] [] M2 0 0 else none else none else yI x1 M) (yX 53 4 [some (.ref p), some (.int x1), some (.int x2)] [] M 0 0) := by
  refine yL.eq (y_iload_n (pc := 4) (x := x2) d53_4 rfl) ?_
  refine yL.eq (y_aload_n (pc := 5) (x := p) d53_5 rfl) ?_
  refine yL.eq (y_getr (pc := 6) (r := (p + 1)) d53_6 q53_12 (yP_r hp).1) ?_
  refine yL.eq (y_geti (pc := 9) d53_9 q53_40 ((yC_i (yP_c hp))).2.1) ?_
  refine yL.eq (y_icmp_ge (pc := 12) (t := 51) d53_12 (by decide)) ?_
  refine yL.ite (fun h1 => ?_) (fun h1 => ?_)
  ·
    refine yL.eq (y_aload_n (pc := 15) (x := p) d53_15 rfl) ?_
    refine yL.eq (y_iload_n (pc := 16) (x := x2) d53_16 rfl) ?_
    refine y_callv_i (pc := 17) (n := 2) (n' := 3) (nc' := 0) (ns' := 0) [.int x2] [] false d53_17 q53_150 mk_54 (yP_t hp) rfl rfl (Nat.le_of_ble_eq_true rfl) (Nat.le_of_ble_eq_true rfl) rfl (by decide +kernel) (by decide +kernel) (fun v3 M2 => ?_)
    refine yL.eq (y_if_eq (pc := 20) (t := 45) d53_20 (by decide)) ?_
    refine yL.ite (fun h4 => ?_) (fun h4 => ?_)
    ·
      refine yL.eq (y_iinc (pc := 45) (v := 1) (x := x2) (ls' := [some (.ref p), some (.int x1), some (.int (x2 + 1))]) d53_45 kc_1 rfl (Nat.le_of_ble_eq_true rfl) rfl) ?_
      refine yL.eq (y_goto (pc := 48) (t := 4) d53_48 (by decide)) ?_
      exact yL.rf
    ·
      refine yL.eq (y_iload_n (pc := 23) (x := x1) d53_23 rfl) ?_
      refine yL.eq (y_iconst (pc := 24) (v := (-1)) d53_24 kc_m1) ?_
      refine yL.eq (y_icmp_eq (pc := 25) (t := 43) d53_25 (by decide)) ?_
      refine yL.ite (fun h5 => ?_) (fun h5 => ?_)
      ·
        refine yL.eq (y_iload_n (pc := 43) (x := x2) d53_43 rfl) ?_
        refine yL.eq (y_istore_n (pc := 44) (ls' := [some (.ref p), some (.int x2), some (.int x2)]) d53_44 rfl rfl) ?_
        refine yL.eq (y_iinc (pc := 45) (v := 1) (x := x2) (ls' := [some (.ref p), some (.int x2), some (.int (x2 + 1))]) d53_45 kc_1 rfl (Nat.le_of_ble_eq_true rfl) rfl) ?_
        refine yL.eq (y_goto (pc := 48) (t := 4) d53_48 (by decide)) ?_
        exact yL.rf
      ·
        refine yL.eq (y_aload_n (pc := 28) (x := p) d53_28 rfl) ?_
        refine yL.eq (y_getr (pc := 29) (r := (p + 13)) d53_29 q53_28 (((((yP_r hp)).2).2).2).2.1) ?_
        refine yL.eq (y_iload_n (pc := 32) (x := x2) d53_32 rfl) ?_
        refine yL.eq (y_iald (pc := 33) (n := 14) d53_33 ((((yP_a hp)).2).2).2.1) ?_
        refine yL.gd (fun h6 => ?_)
        refine yL.eq (y_aload_n (pc := 34) (x := p) d53_34 rfl) ?_
        refine yL.eq (y_getr (pc := 35) (r := (p + 13)) d53_35 q53_28 (((((yP_r hp)).2).2).2).2.1) ?_
        refine yL.eq (y_iload_n (pc := 38) (x := x1) d53_38 rfl) ?_
        refine yL.eq (y_iald (pc := 39) (n := 14) d53_39 ((((yP_a hp)).2).2).2.1) ?_
        refine yL.gd (fun h7 => ?_)
        refine yL.eq (y_icmp_le (pc := 40) (t := 45) d53_40 (by decide)) ?_
        refine yL.ite (fun h8 => ?_) (fun h8 => ?_)
        ·
          refine yL.eq (y_iinc (pc := 45) (v := 1) (x := x2) (ls' := [some (.ref p), some (.int x1), some (.int (x2 + 1))]) d53_45 kc_1 rfl (Nat.le_of_ble_eq_true rfl) rfl) ?_
          refine yL.eq (y_goto (pc := 48) (t := 4) d53_48 (by decide)) ?_
          exact yL.rf
        ·
          refine yL.eq (y_iload_n (pc := 43) (x := x2) d53_43 rfl) ?_
          refine yL.eq (y_istore_n (pc := 44) (ls' := [some (.ref p), some (.int x2), some (.int x2)]) d53_44 rfl rfl) ?_
          refine yL.eq (y_iinc (pc := 45) (v := 1) (x := x2) (ls' := [some (.ref p), some (.int x2), some (.int (x2 + 1))]) d53_45 kc_1 rfl (Nat.le_of_ble_eq_true rfl) rfl) ?_
          refine yL.eq (y_goto (pc := 48) (t := 4) d53_48 (by decide)) ?_
          exact yL.rf
  ·
    refine yL.eq (y_iload_n (pc := 51) (x := x1) d53_51 rfl) ?_
    exact yL.eq (y_ireti (pc := 52) d53_52 mr_53) yL.rf
set_option maxRecDepth 20000 in
set_option maxHeartbeats 4000000 in
theorem e54 {p : Nat} {a1 : Int32} (hp : yP p) {M : yM} : yL (if yinB a1 14 = true then if yinB a1 14 = true then if (M (p + 10) (yx a1)) = (-1) then if yinB a1 14 = true then if ((M ((p + 1) + 6) (yx a1)) &&& ((M p 9) ^^^ (-1))) = 0 then if yinB a1 14 = true then if (M p 10) < (M ((p + 1) + 4) (yx a1)) then yI 0 M else yCi false (yX 95 0 [some (.int (M ((p + 1) + 3) (yx a1)))] [] M 0 0) fun v9 M8 => if v9 = 0 then yI 1 M8 else if yinB (M ((p + 1) + 3) (yx a1)) 4 = true then if (M8 (p + 15) (yx (M ((p + 1) + 3) (yx a1)))) ≤ 0 then yI 0 M8 else yI 1 M8 else none else none else yI 0 M else none else yI 0 M else none else none) (yX 54 0 [some (.ref p), some (.int a1), none] [] M 0 0) := by
  refine yL.eq (y_aload_n (pc := 0) (x := p) d54_0 rfl) ?_
  refine yL.eq (y_getr (pc := 1) (r := (p + 1)) d54_1 q54_12 (yP_r hp).1) ?_
  refine yL.eq (y_getr (pc := 4) (r := ((p + 1) + 3)) d54_4 q54_71 (((yC_r (yP_c hp))).2).2.1) ?_
  refine yL.eq (y_iload_n (pc := 7) (x := a1) d54_7 rfl) ?_
  refine yL.eq (y_iald (pc := 8) (n := 14) d54_8 (((yC_a (yP_c hp))).2).2.1) ?_
  refine yL.gd (fun h1 => ?_)
  refine yL.eq (y_istore_n (pc := 9) (ls' := [some (.ref p), some (.int a1), some (.int (M ((p + 1) + 3) (yx a1)))]) d54_9 rfl rfl) ?_
  refine yL.eq (y_aload_n (pc := 10) (x := p) d54_10 rfl) ?_
  refine yL.eq (y_getr (pc := 11) (r := (p + 10)) d54_11 q54_18 ((yP_r hp)).2.1) ?_
  refine yL.eq (y_iload_n (pc := 14) (x := a1) d54_14 rfl) ?_
  refine yL.eq (y_iald (pc := 15) (n := 14) d54_15 (yP_a hp).1) ?_
  refine yL.gd (fun h2 => ?_)
  refine yL.eq (y_iconst (pc := 16) (v := (-1)) d54_16 kc_m1) ?_
  refine yL.eq (y_icmp_ne (pc := 17) (t := 75) d54_17 (by decide)) ?_
  refine yL.ite (fun h3 => ?_) (fun h3 => ?_)
  ·
    refine yL.eq (y_aload_n (pc := 20) (x := p) d54_20 rfl) ?_
    refine yL.eq (y_getr (pc := 21) (r := (p + 1)) d54_21 q54_12 (yP_r hp).1) ?_
    refine yL.eq (y_getr (pc := 24) (r := ((p + 1) + 6)) d54_24 q54_123 ((((((yC_r (yP_c hp))).2).2).2).2).2.1) ?_
    refine yL.eq (y_iload_n (pc := 27) (x := a1) d54_27 rfl) ?_
    refine yL.eq (y_iald (pc := 28) (n := 14) d54_28 ((((((yC_a (yP_c hp))).2).2).2).2).2.1) ?_
    refine yL.gd (fun h4 => ?_)
    refine yL.eq (y_aload_n (pc := 29) (x := p) d54_29 rfl) ?_
    refine yL.eq (y_geti (pc := 30) d54_30 q54_126 ((((yP_i hp)).2).2).2.1) ?_
    refine yL.eq (y_iconst (pc := 33) (v := (-1)) d54_33 kc_m1) ?_
    refine yL.eq (y_ixor (pc := 34) d54_34) ?_
    refine yL.eq (y_iand (pc := 35) d54_35) ?_
    refine yL.eq (y_if_ne (pc := 36) (t := 75) d54_36 (by decide)) ?_
    refine yL.ite (fun h5 => ?_) (fun h5 => ?_)
    ·
      refine yL.eq (y_aload_n (pc := 39) (x := p) d54_39 rfl) ?_
      refine yL.eq (y_geti (pc := 40) d54_40 q54_129 (((((yP_i hp)).2).2).2).2) ?_
      refine yL.eq (y_aload_n (pc := 43) (x := p) d54_43 rfl) ?_
      refine yL.eq (y_getr (pc := 44) (r := (p + 1)) d54_44 q54_12 (yP_r hp).1) ?_
      refine yL.eq (y_getr (pc := 47) (r := ((p + 1) + 4)) d54_47 q54_68 ((((yC_r (yP_c hp))).2).2).2.1) ?_
      refine yL.eq (y_iload_n (pc := 50) (x := a1) d54_50 rfl) ?_
      refine yL.eq (y_iald (pc := 51) (n := 14) d54_51 ((((yC_a (yP_c hp))).2).2).2.1) ?_
      refine yL.gd (fun h6 => ?_)
      refine yL.eq (y_icmp_lt (pc := 52) (t := 75) d54_52 (by decide)) ?_
      refine yL.ite (fun h7 => ?_) (fun h7 => ?_)
      ·
        refine yL.eq (y_iconst (pc := 75) (v := 0) d54_75 kc_0) ?_
        exact yL.eq (y_iretz (pc := 76) d54_76 mr_54) (yL.eq yZ_0 yL.rf)
      ·
        refine yL.eq (y_iload_n (pc := 55) (x := (M ((p + 1) + 3) (yx a1))) d54_55 rfl) ?_
        refine y_calls_i (pc := 56) (n := 1) (n' := 1) (nc' := 0) (ns' := 0) [.int (M ((p + 1) + 3) (yx a1))] [] false d54_56 q54_142 rfl rfl rfl (Nat.le_of_ble_eq_true rfl) (Nat.le_of_ble_eq_true rfl) rfl (by decide +kernel) (by decide +kernel) (fun v9 M8 => ?_)
        refine yL.eq (y_if_eq (pc := 59) (t := 71) d54_59 (by decide)) ?_
        refine yL.ite (fun h10 => ?_) (fun h10 => ?_)
        ·
          refine yL.eq (y_iconst (pc := 71) (v := 1) d54_71 kc_1) ?_
          refine yL.eq (y_goto (pc := 72) (t := 76) d54_72 (by decide)) ?_
          exact yL.eq (y_iretz (pc := 76) d54_76 mr_54) (yL.eq yZ_1 yL.rf)
        ·
          refine yL.eq (y_aload_n (pc := 62) (x := p) d54_62 rfl) ?_
          refine yL.eq (y_getr (pc := 63) (r := (p + 15)) d54_63 q54_34 (((((((yP_r hp)).2).2).2).2).2).2) ?_
          refine yL.eq (y_iload_n (pc := 66) (x := (M ((p + 1) + 3) (yx a1))) d54_66 rfl) ?_
          refine yL.eq (y_iald (pc := 67) (n := 4) d54_67 ((((((yP_a hp)).2).2).2).2).2) ?_
          refine yL.gd (fun h11 => ?_)
          refine yL.eq (y_if_le (pc := 68) (t := 75) d54_68 (by decide)) ?_
          refine yL.ite (fun h12 => ?_) (fun h12 => ?_)
          ·
            refine yL.eq (y_iconst (pc := 75) (v := 0) d54_75 kc_0) ?_
            exact yL.eq (y_iretz (pc := 76) d54_76 mr_54) (yL.eq yZ_0 yL.rf)
          ·
            refine yL.eq (y_iconst (pc := 71) (v := 1) d54_71 kc_1) ?_
            refine yL.eq (y_goto (pc := 72) (t := 76) d54_72 (by decide)) ?_
            exact yL.eq (y_iretz (pc := 76) d54_76 mr_54) (yL.eq yZ_1 yL.rf)
    ·
      refine yL.eq (y_iconst (pc := 75) (v := 0) d54_75 kc_0) ?_
      exact yL.eq (y_iretz (pc := 76) d54_76 mr_54) (yL.eq yZ_0 yL.rf)
  ·
    refine yL.eq (y_iconst (pc := 75) (v := 0) d54_75 kc_0) ?_
    exact yL.eq (y_iretz (pc := 76) d54_76 mr_54) (yL.eq yZ_0 yL.rf)
set_option maxRecDepth 20000 in
set_option maxHeartbeats 4000000 in
theorem e55 {p : Nat} {a1 : Int32} (hp : yP p) {M : yM} : yL (yX 55 4 [some (.ref p), some (.int a1), some (.int (-1)), some (.int 0), none] [] M 0 0) (yX 55 0 [some (.ref p), some (.int a1), none, none, none] [] M 0 0) := by
  refine yL.eq (y_iconst (pc := 0) (v := (-1)) d55_0 kc_m1) ?_
  refine yL.eq (y_istore_n (pc := 1) (ls' := [some (.ref p), some (.int a1), some (.int (-1)), none, none]) d55_1 rfl rfl) ?_
  refine yL.eq (y_iconst (pc := 2) (v := 0) d55_2 kc_0) ?_
  refine yL.eq (y_istore_n (pc := 3) (ls' := [some (.ref p), some (.int a1), some (.int (-1)), some (.int 0), none]) d55_3 rfl rfl) ?_
  exact yL.rf
set_option maxRecDepth 20000 in
set_option maxHeartbeats 4000000 in
theorem e55_4 {p : Nat} {x1 : Int32} {x2 : Int32} {x3 : Int32} {o4 : Option Value} (hp : yP p) {M : yM} : yL (if x3 < (M p 6) then if yinB x3 14 = true then if yinB (M (p + 14) (yx x3)) 14 = true then yCi false (yX 56 0 [some (.int x2), some (.int (M (p + 11) (yx (M (p + 14) (yx x3))))), some (.int x1)] [] M 0 0) fun v5 M4 => yCi false (yX 44 0 [some (.ref p), some (.int (M (p + 14) (yx x3)))] [] M4 0 0) fun v7 M6 => yCi false (yX 56 0 [some (.int v5), some (.int v7), some (.int x1)] [] M6 0 0) fun v9 M8 => yX 55 4 [some (.ref p), some (.int x1), some (.int v9), some (.int (x3 + 1)), some (.int (M (p + 14) (yx x3)))] [] M8 0 0 else none else none else yI x2 M) (yX 55 4 [some (.ref p), some (.int x1), some (.int x2), some (.int x3), o4] [] M 0 0) := by
  refine yL.eq (y_iload_n (pc := 4) (x := x3) d55_4 rfl) ?_
  refine yL.eq (y_aload_n (pc := 5) (x := p) d55_5 rfl) ?_
  refine yL.eq (y_geti (pc := 6) d55_6 q55_50 (yP_i hp).1) ?_
  refine yL.eq (y_icmp_ge (pc := 9) (t := 51) d55_9 (by decide)) ?_
  refine yL.ite (fun h1 => ?_) (fun h1 => ?_)
  ·
    refine yL.eq (y_aload_n (pc := 12) (x := p) d55_12 rfl) ?_
    refine yL.eq (y_getr (pc := 13) (r := (p + 14)) d55_13 q55_31 ((((((yP_r hp)).2).2).2).2).2.1) ?_
    refine yL.eq (y_iload_n (pc := 16) (x := x3) d55_16 rfl) ?_
    refine yL.eq (y_iald (pc := 17) (n := 14) d55_17 (((((yP_a hp)).2).2).2).2.1) ?_
    refine yL.gd (fun h2 => ?_)
    refine yL.eq (y_istore (pc := 18) (ls' := [some (.ref p), some (.int x1), some (.int x2), some (.int x3), some (.int (M (p + 14) (yx x3)))]) d55_18 rfl rfl) ?_
    refine yL.eq (y_iload_n (pc := 20) (x := x2) d55_20 rfl) ?_
    refine yL.eq (y_aload_n (pc := 21) (x := p) d55_21 rfl) ?_
    refine yL.eq (y_getr (pc := 22) (r := (p + 11)) d55_22 q55_22 (((yP_r hp)).2).2.1) ?_
    refine yL.eq (y_iload (pc := 25) (x := (M (p + 14) (yx x3))) d55_25 rfl) ?_
    refine yL.eq (y_iald (pc := 27) (n := 14) d55_27 ((yP_a hp)).2.1) ?_
    refine yL.gd (fun h3 => ?_)
    refine yL.eq (y_iload_n (pc := 28) (x := x1) d55_28 rfl) ?_
    refine y_calls_i (pc := 29) (n := 3) (n' := 3) (nc' := 0) (ns' := 0) [.int x2, .int (M (p + 11) (yx (M (p + 14) (yx x3)))), .int x1] [] false d55_29 q55_153 rfl rfl rfl (Nat.le_of_ble_eq_true rfl) (Nat.le_of_ble_eq_true rfl) rfl (by decide +kernel) (by decide +kernel) (fun v5 M4 => ?_)
    refine yL.eq (y_istore_n (pc := 32) (ls' := [some (.ref p), some (.int x1), some (.int v5), some (.int x3), some (.int (M (p + 14) (yx x3)))]) d55_32 rfl rfl) ?_
    refine yL.eq (y_iload_n (pc := 33) (x := v5) d55_33 rfl) ?_
    refine yL.eq (y_aload_n (pc := 34) (x := p) d55_34 rfl) ?_
    refine yL.eq (y_iload (pc := 35) (x := (M (p + 14) (yx x3))) d55_35 rfl) ?_
    refine y_callv_i (pc := 37) (n := 2) (n' := 2) (nc' := 0) (ns' := 0) [.int (M (p + 14) (yx x3))] [.int v5] false d55_37 q55_74 mk_44 (yP_t hp) rfl rfl (Nat.le_of_ble_eq_true rfl) (Nat.le_of_ble_eq_true rfl) rfl (by decide +kernel) (by decide +kernel) (fun v7 M6 => ?_)
    refine yL.eq (y_iload_n (pc := 40) (x := x1) d55_40 rfl) ?_
    refine y_calls_i (pc := 41) (n := 3) (n' := 3) (nc' := 0) (ns' := 0) [.int v5, .int v7, .int x1] [] false d55_41 q55_153 rfl rfl rfl (Nat.le_of_ble_eq_true rfl) (Nat.le_of_ble_eq_true rfl) rfl (by decide +kernel) (by decide +kernel) (fun v9 M8 => ?_)
    refine yL.eq (y_istore_n (pc := 44) (ls' := [some (.ref p), some (.int x1), some (.int v9), some (.int x3), some (.int (M (p + 14) (yx x3)))]) d55_44 rfl rfl) ?_
    refine yL.eq (y_iinc (pc := 45) (v := 1) (x := x3) (ls' := [some (.ref p), some (.int x1), some (.int v9), some (.int (x3 + 1)), some (.int (M (p + 14) (yx x3)))]) d55_45 kc_1 rfl (Nat.le_of_ble_eq_true rfl) rfl) ?_
    refine yL.eq (y_goto (pc := 48) (t := 4) d55_48 (by decide)) ?_
    exact yL.rf
  ·
    refine yL.eq (y_iload_n (pc := 51) (x := x2) d55_51 rfl) ?_
    exact yL.eq (y_ireti (pc := 52) d55_52 mr_55) yL.rf
set_option maxRecDepth 20000 in
set_option maxHeartbeats 4000000 in
theorem e56 {a0 : Int32} {a1 : Int32} {a2 : Int32} {M : yM} : yL (if a1 ≤ a2 then yI a0 M else if a0 = (-1) then yI a1 M else if a1 < a0 then yI a1 M else yI a0 M) (yX 56 0 [some (.int a0), some (.int a1), some (.int a2)] [] M 0 0) := by
  refine yL.eq (y_iload_n (pc := 0) (x := a1) d56_0 rfl) ?_
  refine yL.eq (y_iload_n (pc := 1) (x := a2) d56_1 rfl) ?_
  refine yL.eq (y_icmp_le (pc := 2) (t := 19) d56_2 (by decide)) ?_
  refine yL.ite (fun h1 => ?_) (fun h1 => ?_)
  ·
    refine yL.eq (y_iload_n (pc := 19) (x := a0) d56_19 rfl) ?_
    exact yL.eq (y_ireti (pc := 20) d56_20 mr_56) yL.rf
  ·
    refine yL.eq (y_iload_n (pc := 5) (x := a0) d56_5 rfl) ?_
    refine yL.eq (y_iconst (pc := 6) (v := (-1)) d56_6 kc_m1) ?_
    refine yL.eq (y_icmp_eq (pc := 7) (t := 15) d56_7 (by decide)) ?_
    refine yL.ite (fun h2 => ?_) (fun h2 => ?_)
    ·
      refine yL.eq (y_iload_n (pc := 15) (x := a1) d56_15 rfl) ?_
      refine yL.eq (y_goto (pc := 16) (t := 20) d56_16 (by decide)) ?_
      exact yL.eq (y_ireti (pc := 20) d56_20 mr_56) yL.rf
    ·
      refine yL.eq (y_iload_n (pc := 10) (x := a1) d56_10 rfl) ?_
      refine yL.eq (y_iload_n (pc := 11) (x := a0) d56_11 rfl) ?_
      refine yL.eq (y_icmp_ge (pc := 12) (t := 19) d56_12 (by decide)) ?_
      refine yL.ite (fun h3 => ?_) (fun h3 => ?_)
      ·
        refine yL.eq (y_iload_n (pc := 15) (x := a1) d56_15 rfl) ?_
        refine yL.eq (y_goto (pc := 16) (t := 20) d56_16 (by decide)) ?_
        exact yL.eq (y_ireti (pc := 20) d56_20 mr_56) yL.rf
      ·
        refine yL.eq (y_iload_n (pc := 19) (x := a0) d56_19 rfl) ?_
        exact yL.eq (y_ireti (pc := 20) d56_20 mr_56) yL.rf
set_option maxRecDepth 20000 in
set_option maxHeartbeats 4000000 in
theorem e58 {a1 : Int32} {M : yM} : yL (yCi false (yX 94 0 [some (.int a1), some (.int 0), some (.int 255)] [] M 0 0) fun v2 M1 => yCv true (yX 92 0 [some (.int v2)] [] M1 0 0) fun M3 => if (M3 8 1) < 120 then yCv true (yX 93 0 [some (.int 1)] [] M3 0 0) fun M5 => yCi false (yX 23 0 [some (.ref 8), some (.int ((a1.toUInt32 % 65536).toInt32))] [] M5 0 0) fun v7 M6 => yI v7 M6 else yCv true (yX 93 0 [some (.int 0)] [] M3 0 0) fun M8 => yCi false (yX 23 0 [some (.ref 8), some (.int ((a1.toUInt32 % 65536).toInt32))] [] M8 0 0) fun v10 M9 => yI v10 M9) (yX 58 0 [some (.ref 7), some (.int a1)] [] M 0 0) := by
  refine yL.eq (y_iload_n (pc := 0) (x := a1) d58_0 rfl) ?_
  refine yL.eq (y_iconst (pc := 1) (v := 0) d58_1 kc_0) ?_
  refine yL.eq (y_sipush (pc := 2) (v := 255) d58_2 ks_255) ?_
  refine y_calls_i (pc := 5) (n := 3) (n' := 3) (nc' := 0) (ns' := 0) [.int a1, .int 0, .int 255] [] false d58_5 q58_54 rfl rfl rfl (Nat.le_of_ble_eq_true rfl) (Nat.le_of_ble_eq_true rfl) rfl (by decide +kernel) (by decide +kernel) (fun v2 M1 => ?_)
  refine y_calls_v (pc := 8) (n := 1) (n' := 1) (nc' := 1) (ns' := 6) [.int v2] [] true d58_8 q58_58 rfl rfl rfl (Nat.le_of_ble_eq_true rfl) (Nat.le_of_ble_eq_true rfl) rfl (by decide +kernel) (by decide +kernel) (fun M3 => ?_)
  refine yL.eq (y_aload_n (pc := 11) (x := 7) d58_11 rfl) ?_
  refine yL.eq (y_getr (pc := 12) (r := 8) d58_12 q58_10 s_r_7_0) ?_
  refine yL.eq (y_geti (pc := 15) d58_15 q58_62 s_i_8_1) ?_
  refine yL.eq (y_bipush (pc := 18) (v := 120) d58_18 kb_120) ?_
  refine yL.eq (y_icmp_ge (pc := 20) (t := 27) d58_20 (by decide)) ?_
  refine yL.ite (fun h4 => ?_) (fun h4 => ?_)
  ·
    refine yL.eq (y_iconst (pc := 23) (v := 1) d58_23 kc_1) ?_
    refine yL.eq (y_goto (pc := 24) (t := 28) d58_24 (by decide)) ?_
    refine y_calls_v (pc := 28) (n := 1) (n' := 1) (nc' := 2) (ns' := 12) [.int 1] [] true d58_28 q58_66 rfl rfl rfl (Nat.le_of_ble_eq_true rfl) (Nat.le_of_ble_eq_true rfl) rfl (by decide +kernel) (by decide +kernel) (fun M5 => ?_)
    refine yL.eq (y_aload_n (pc := 31) (x := 7) d58_31 rfl) ?_
    refine yL.eq (y_getr (pc := 32) (r := 8) d58_32 q58_10 s_r_7_0) ?_
    refine yL.eq (y_iload_n (pc := 35) (x := a1) d58_35 rfl) ?_
    refine yL.eq (y_i2c (pc := 36) d58_36) ?_
    refine y_callv_i (pc := 37) (n := 2) (n' := 2) (nc' := 2) (ns' := 12) [.int ((a1.toUInt32 % 65536).toInt32)] [] false d58_37 q58_69 mk_23 s_t_8 rfl rfl (Nat.le_of_ble_eq_true rfl) (Nat.le_of_ble_eq_true rfl) rfl (by decide +kernel) (by decide +kernel) (fun v7 M6 => ?_)
    exact yL.eq (y_ireti (pc := 40) d58_40 mr_58) yL.rf
  ·
    refine yL.eq (y_iconst (pc := 27) (v := 0) d58_27 kc_0) ?_
    refine y_calls_v (pc := 28) (n := 1) (n' := 1) (nc' := 2) (ns' := 12) [.int 0] [] true d58_28 q58_66 rfl rfl rfl (Nat.le_of_ble_eq_true rfl) (Nat.le_of_ble_eq_true rfl) rfl (by decide +kernel) (by decide +kernel) (fun M8 => ?_)
    refine yL.eq (y_aload_n (pc := 31) (x := 7) d58_31 rfl) ?_
    refine yL.eq (y_getr (pc := 32) (r := 8) d58_32 q58_10 s_r_7_0) ?_
    refine yL.eq (y_iload_n (pc := 35) (x := a1) d58_35 rfl) ?_
    refine yL.eq (y_i2c (pc := 36) d58_36) ?_
    refine y_callv_i (pc := 37) (n := 2) (n' := 2) (nc' := 2) (ns' := 12) [.int ((a1.toUInt32 % 65536).toInt32)] [] false d58_37 q58_69 mk_23 s_t_8 rfl rfl (Nat.le_of_ble_eq_true rfl) (Nat.le_of_ble_eq_true rfl) rfl (by decide +kernel) (by decide +kernel) (fun v10 M9 => ?_)
    exact yL.eq (y_ireti (pc := 40) d58_40 mr_58) yL.rf
set_option maxRecDepth 20000 in
set_option maxHeartbeats 4000000 in
theorem e59  {M : yM} : yL (yLet (yU M 8 1 0) fun M1 => yI (M 8 1) M1) (yX 59 0 [some (.ref 7), none] [] M 0 0) := by
  refine yL.eq (y_aload_n (pc := 0) (x := 7) d59_0 rfl) ?_
  refine yL.eq (y_getr (pc := 1) (r := 8) d59_1 q59_10 s_r_7_0) ?_
  refine yL.eq (y_geti (pc := 4) d59_4 q59_62 s_i_8_1) ?_
  refine yL.eq (y_istore_n (pc := 7) (ls' := [some (.ref 7), some (.int (M 8 1))]) d59_7 rfl rfl) ?_
  refine yL.eq (y_aload_n (pc := 8) (x := 7) d59_8 rfl) ?_
  refine yL.eq (y_getr (pc := 9) (r := 8) d59_9 q59_10 s_r_7_0) ?_
  refine yL.eq (y_iconst (pc := 12) (v := 0) d59_12 kc_0) ?_
  refine y_putiL (pc := 13) d59_13 q59_62 s_i_8_1 rfl (fun M1 => ?_)
  refine yL.eq (y_iload_n (pc := 16) (x := (M 8 1)) d59_16 rfl) ?_
  exact yL.eq (y_ireti (pc := 17) d59_17 mr_59) yL.rf
set_option maxRecDepth 20000 in
set_option maxHeartbeats 4000000 in
theorem e60  {M : yM} : yL (yCi false (yX 24 0 [some (.ref 8), some (.ref 27), none] [] M 0 0) fun v2 M1 => yI v2 M1) (yX 60 0 [some (.ref 7)] [] M 0 0) := by
  refine yL.eq (y_aload_n (pc := 0) (x := 7) d60_0 rfl) ?_
  refine yL.eq (y_getr (pc := 1) (r := 8) d60_1 q60_10 s_r_7_0) ?_
  refine yL.eq (y_aload_n (pc := 4) (x := 7) d60_4 rfl) ?_
  refine yL.eq (y_getr (pc := 5) (r := 27) d60_5 q60_33 s_r_7_4) ?_
  refine y_callv_i (pc := 8) (n := 2) (n' := 3) (nc' := 0) (ns' := 0) [.ref 27] [] false d60_8 q60_73 mk_24 s_t_8 rfl rfl (Nat.le_of_ble_eq_true rfl) (Nat.le_of_ble_eq_true rfl) rfl (by decide +kernel) (by decide +kernel) (fun v2 M1 => ?_)
  exact yL.eq (y_ireti (pc := 11) d60_11 mr_60) yL.rf
set_option maxRecDepth 20000 in
set_option maxHeartbeats 4000000 in
theorem e61  {M : yM} : yL (yCi false (yX 24 0 [some (.ref 8), some (.ref 27), none] [] M 0 0) fun v2 M1 => if v2 = (-1) then yCv true (yX 93 0 [some (.int 1)] [] M1 0 0) fun M4 => yCv false (yX 2 0 [some (.ref 11), some (.ref 27)] [] M4 0 0) fun M5 => yCv false (yX 38 0 [some (.ref 42)] [] M5 0 0) fun M6 => yX 61 43 [some (.ref 7), some (.int 0)] [] M6 1 6 else yCv true (yX 93 0 [some (.int 0)] [] M1 0 0) fun M7 => yCv false (yX 2 0 [some (.ref 11), some (.ref 27)] [] M7 0 0) fun M8 => yCv false (yX 38 0 [some (.ref 42)] [] M8 0 0) fun M9 => yX 61 43 [some (.ref 7), some (.int 0)] [] M9 1 6) (yX 61 0 [some (.ref 7), none] [] M 0 0) := by
  refine yL.eq (y_aload_n (pc := 0) (x := 7) d61_0 rfl) ?_
  refine yL.eq (y_getr (pc := 1) (r := 8) d61_1 q61_10 s_r_7_0) ?_
  refine yL.eq (y_aload_n (pc := 4) (x := 7) d61_4 rfl) ?_
  refine yL.eq (y_getr (pc := 5) (r := 27) d61_5 q61_33 s_r_7_4) ?_
  refine y_callv_i (pc := 8) (n := 2) (n' := 3) (nc' := 0) (ns' := 0) [.ref 27] [] false d61_8 q61_73 mk_24 s_t_8 rfl rfl (Nat.le_of_ble_eq_true rfl) (Nat.le_of_ble_eq_true rfl) rfl (by decide +kernel) (by decide +kernel) (fun v2 M1 => ?_)
  refine yL.eq (y_iconst (pc := 11) (v := (-1)) d61_11 kc_m1) ?_
  refine yL.eq (y_icmp_ne (pc := 12) (t := 19) d61_12 (by decide)) ?_
  refine yL.ite (fun h3 => ?_) (fun h3 => ?_)
  ·
    refine yL.eq (y_iconst (pc := 15) (v := 1) d61_15 kc_1) ?_
    refine yL.eq (y_goto (pc := 16) (t := 20) d61_16 (by decide)) ?_
    refine y_calls_v (pc := 20) (n := 1) (n' := 1) (nc' := 1) (ns' := 6) [.int 1] [] true d61_20 q61_66 rfl rfl rfl (Nat.le_of_ble_eq_true rfl) (Nat.le_of_ble_eq_true rfl) rfl (by decide +kernel) (by decide +kernel) (fun M4 => ?_)
    refine yL.eq (y_aload_n (pc := 23) (x := 7) d61_23 rfl) ?_
    refine yL.eq (y_getr (pc := 24) (r := 11) d61_24 q61_27 s_r_7_2) ?_
    refine yL.eq (y_aload_n (pc := 27) (x := 7) d61_27 rfl) ?_
    refine yL.eq (y_getr (pc := 28) (r := 27) d61_28 q61_33 s_r_7_4) ?_
    refine y_callv_v (pc := 31) (n := 2) (n' := 2) (nc' := 1) (ns' := 6) [.ref 27] [] false d61_31 q61_77 mk_2 (yC_t yC11) rfl rfl (Nat.le_of_ble_eq_true rfl) (Nat.le_of_ble_eq_true rfl) rfl (by decide +kernel) (by decide +kernel) (fun M5 => ?_)
    refine yL.eq (y_aload_n (pc := 34) (x := 7) d61_34 rfl) ?_
    refine yL.eq (y_getr (pc := 35) (r := 42) d61_35 q61_39 s_r_7_5) ?_
    refine y_callv_v (pc := 38) (n := 1) (n' := 1) (nc' := 1) (ns' := 6) [] [] false d61_38 q61_81 mk_38 s_t_42 rfl rfl (Nat.le_of_ble_eq_true rfl) (Nat.le_of_ble_eq_true rfl) rfl (by decide +kernel) (by decide +kernel) (fun M6 => ?_)
    refine yL.eq (y_iconst (pc := 41) (v := 0) d61_41 kc_0) ?_
    refine yL.eq (y_istore_n (pc := 42) (ls' := [some (.ref 7), some (.int 0)]) d61_42 rfl rfl) ?_
    exact yL.rf
  ·
    refine yL.eq (y_iconst (pc := 19) (v := 0) d61_19 kc_0) ?_
    refine y_calls_v (pc := 20) (n := 1) (n' := 1) (nc' := 1) (ns' := 6) [.int 0] [] true d61_20 q61_66 rfl rfl rfl (Nat.le_of_ble_eq_true rfl) (Nat.le_of_ble_eq_true rfl) rfl (by decide +kernel) (by decide +kernel) (fun M7 => ?_)
    refine yL.eq (y_aload_n (pc := 23) (x := 7) d61_23 rfl) ?_
    refine yL.eq (y_getr (pc := 24) (r := 11) d61_24 q61_27 s_r_7_2) ?_
    refine yL.eq (y_aload_n (pc := 27) (x := 7) d61_27 rfl) ?_
    refine yL.eq (y_getr (pc := 28) (r := 27) d61_28 q61_33 s_r_7_4) ?_
    refine y_callv_v (pc := 31) (n := 2) (n' := 2) (nc' := 1) (ns' := 6) [.ref 27] [] false d61_31 q61_77 mk_2 (yC_t yC11) rfl rfl (Nat.le_of_ble_eq_true rfl) (Nat.le_of_ble_eq_true rfl) rfl (by decide +kernel) (by decide +kernel) (fun M8 => ?_)
    refine yL.eq (y_aload_n (pc := 34) (x := 7) d61_34 rfl) ?_
    refine yL.eq (y_getr (pc := 35) (r := 42) d61_35 q61_39 s_r_7_5) ?_
    refine y_callv_v (pc := 38) (n := 1) (n' := 1) (nc' := 1) (ns' := 6) [] [] false d61_38 q61_81 mk_38 s_t_42 rfl rfl (Nat.le_of_ble_eq_true rfl) (Nat.le_of_ble_eq_true rfl) rfl (by decide +kernel) (by decide +kernel) (fun M9 => ?_)
    refine yL.eq (y_iconst (pc := 41) (v := 0) d61_41 kc_0) ?_
    refine yL.eq (y_istore_n (pc := 42) (ls' := [some (.ref 7), some (.int 0)]) d61_42 rfl rfl) ?_
    exact yL.rf
set_option maxRecDepth 20000 in
set_option maxHeartbeats 4000000 in
theorem e61_43 {x1 : Int32} {M : yM} : yL (if x1 < 2 then if yinB x1 2 = true then yLet (yU M 189 (yx x1) (vp_nar .boolean 0)) fun M2 => yX 61 43 [some (.ref 7), some (.int (x1 + 1))] [] M2 1 6 else none else yI (M 8 2) M) (yX 61 43 [some (.ref 7), some (.int x1)] [] M 1 6) := by
  refine yL.eq (y_iload_n (pc := 43) (x := x1) d61_43 rfl) ?_
  refine yL.eq (y_iconst (pc := 44) (v := 2) d61_44 kc_2) ?_
  refine yL.eq (y_icmp_ge (pc := 45) (t := 61) d61_45 (by decide)) ?_
  refine yL.ite (fun h1 => ?_) (fun h1 => ?_)
  ·
    refine yL.eq (y_aload_n (pc := 48) (x := 7) d61_48 rfl) ?_
    refine yL.eq (y_getr (pc := 49) (r := 189) d61_49 q61_50 s_r_7_7) ?_
    refine yL.eq (y_iload_n (pc := 52) (x := x1) d61_52 rfl) ?_
    refine yL.eq (y_iconst (pc := 53) (v := 0) d61_53 kc_0) ?_
    refine y_bastL (pc := 54) (n := 2) d61_54 s_a_189 (fun h3 M2 => ?_)
    refine yL.eq (y_iinc (pc := 55) (v := 1) (x := x1) (ls' := [some (.ref 7), some (.int (x1 + 1))]) d61_55 kc_1 rfl (Nat.le_of_ble_eq_true rfl) rfl) ?_
    refine yL.eq (y_goto (pc := 58) (t := 43) d61_58 (by decide)) ?_
    exact yL.rf
  ·
    refine yL.eq (y_aload_n (pc := 61) (x := 7) d61_61 rfl) ?_
    refine yL.eq (y_getr (pc := 62) (r := 8) d61_62 q61_10 s_r_7_0) ?_
    refine yL.eq (y_geti (pc := 65) d61_65 q61_84 s_i_8_2) ?_
    exact yL.eq (y_ireti (pc := 68) d61_68 mr_61) yL.rf
set_option maxRecDepth 20000 in
set_option maxHeartbeats 4000000 in
theorem e62 {a1 : Int32} {M : yM} : yL (yCi false (yX 94 0 [some (.int a1), some (.int 0), some (.int 9)] [] M 0 0) fun v2 M1 => yCv true (yX 92 0 [some (.int v2)] [] M1 0 0) fun M3 => if a1 = 0 then yI (M3 11 0) M3 else if a1 = 1 then yI (M3 11 1) M3 else if a1 = 2 then yI (M3 11 2) M3 else if a1 = 3 then yI (M3 11 3) M3 else if a1 = 4 then yCi false (yX 15 0 [some (.ref 11), some (.int (M3 11 3)), none, none] [] M3 0 0) fun v10 M9 => yI v10 M9 else if a1 = 5 then yCv false (yX 45 0 [some (.ref 10), none, none] [] M3 0 0) fun M12 => yI (M12 10 8) M12 else if a1 = 6 then yCv false (yX 45 0 [some (.ref 10), none, none] [] M3 0 0) fun M14 => yI (M14 10 7) M14 else if a1 = 7 then yCi false (yX 40 0 [some (.ref 10), none, none] [] M3 0 0) fun v17 M16 => yI v17 M16 else if a1 = 8 then yCi false (yX 19 0 [some (.ref 11), none, none] [] M3 0 0) fun v20 M19 => yI v20 M19 else yCi false (yX 18 0 [some (.ref 11), none, none] [] M3 0 0) fun v22 M21 => yI v22 M21) (yX 62 0 [some (.ref 7), some (.int a1)] [] M 0 0) := by
  refine yL.eq (y_iload_n (pc := 0) (x := a1) d62_0 rfl) ?_
  refine yL.eq (y_iconst (pc := 1) (v := 0) d62_1 kc_0) ?_
  refine yL.eq (y_bipush (pc := 2) (v := 9) d62_2 kb_9) ?_
  refine y_calls_i (pc := 4) (n := 3) (n' := 3) (nc' := 0) (ns' := 0) [.int a1, .int 0, .int 9] [] false d62_4 q62_54 rfl rfl rfl (Nat.le_of_ble_eq_true rfl) (Nat.le_of_ble_eq_true rfl) rfl (by decide +kernel) (by decide +kernel) (fun v2 M1 => ?_)
  refine y_calls_v (pc := 7) (n := 1) (n' := 1) (nc' := 1) (ns' := 6) [.int v2] [] true d62_7 q62_58 rfl rfl rfl (Nat.le_of_ble_eq_true rfl) (Nat.le_of_ble_eq_true rfl) rfl (by decide +kernel) (by decide +kernel) (fun M3 => ?_)
  refine yL.eq (y_iload_n (pc := 10) (x := a1) d62_10 rfl) ?_
  refine yL.eq (y_tsw (pc := 11) (ts := [60, 68, 76, 84, 92, 107, 122, 137, 145]) (d := 153) d62_11 (by decide +kernel)) ?_
  refine yL.eq (y_ts (c := 0) (lo' := 1) kc_0 (by decide)) ?_
  refine yL.ite (fun h4 => ?_) (fun h4 => ?_)
  ·
    refine yL.eq (y_aload_n (pc := 60) (x := 7) d62_60 rfl) ?_
    refine yL.eq (y_getr (pc := 61) (r := 11) d62_61 q62_27 s_r_7_2) ?_
    refine yL.eq (y_geti (pc := 64) d62_64 q62_87 (yC_i yC11).1) ?_
    exact yL.eq (y_ireti (pc := 67) d62_67 mr_62) yL.rf
  ·
    refine yL.eq (y_ts (c := 1) (lo' := 2) kc_1 (by decide)) ?_
    refine yL.ite (fun h5 => ?_) (fun h5 => ?_)
    ·
      refine yL.eq (y_aload_n (pc := 68) (x := 7) d62_68 rfl) ?_
      refine yL.eq (y_getr (pc := 69) (r := 11) d62_69 q62_27 s_r_7_2) ?_
      refine yL.eq (y_geti (pc := 72) d62_72 q62_90 ((yC_i yC11)).2.1) ?_
      exact yL.eq (y_ireti (pc := 75) d62_75 mr_62) yL.rf
    ·
      refine yL.eq (y_ts (c := 2) (lo' := 3) kc_2 (by decide)) ?_
      refine yL.ite (fun h6 => ?_) (fun h6 => ?_)
      ·
        refine yL.eq (y_aload_n (pc := 76) (x := 7) d62_76 rfl) ?_
        refine yL.eq (y_getr (pc := 77) (r := 11) d62_77 q62_27 s_r_7_2) ?_
        refine yL.eq (y_geti (pc := 80) d62_80 q62_93 (((yC_i yC11)).2).2.1) ?_
        exact yL.eq (y_ireti (pc := 83) d62_83 mr_62) yL.rf
      ·
        refine yL.eq (y_ts (c := 3) (lo' := 4) kc_3 (by decide)) ?_
        refine yL.ite (fun h7 => ?_) (fun h7 => ?_)
        ·
          refine yL.eq (y_aload_n (pc := 84) (x := 7) d62_84 rfl) ?_
          refine yL.eq (y_getr (pc := 85) (r := 11) d62_85 q62_27 s_r_7_2) ?_
          refine yL.eq (y_geti (pc := 88) d62_88 q62_96 ((((yC_i yC11)).2).2).2) ?_
          exact yL.eq (y_ireti (pc := 91) d62_91 mr_62) yL.rf
        ·
          refine yL.eq (y_ts (c := 4) (lo' := 5) kc_4 (by decide)) ?_
          refine yL.ite (fun h8 => ?_) (fun h8 => ?_)
          ·
            refine yL.eq (y_aload_n (pc := 92) (x := 7) d62_92 rfl) ?_
            refine yL.eq (y_getr (pc := 93) (r := 11) d62_93 q62_27 s_r_7_2) ?_
            refine yL.eq (y_aload_n (pc := 96) (x := 7) d62_96 rfl) ?_
            refine yL.eq (y_getr (pc := 97) (r := 11) d62_97 q62_27 s_r_7_2) ?_
            refine yL.eq (y_geti (pc := 100) d62_100 q62_96 ((((yC_i yC11)).2).2).2) ?_
            refine y_callv_i (pc := 103) (n := 2) (n' := 4) (nc' := 1) (ns' := 6) [.int (M3 11 3)] [] false d62_103 q62_99 mk_15 (yC_t yC11) rfl rfl (Nat.le_of_ble_eq_true rfl) (Nat.le_of_ble_eq_true rfl) rfl (by decide +kernel) (by decide +kernel) (fun v10 M9 => ?_)
            exact yL.eq (y_ireti (pc := 106) d62_106 mr_62) yL.rf
          ·
            refine yL.eq (y_ts (c := 5) (lo' := 6) kc_5 (by decide)) ?_
            refine yL.ite (fun h11 => ?_) (fun h11 => ?_)
            ·
              refine yL.eq (y_aload_n (pc := 107) (x := 7) d62_107 rfl) ?_
              refine yL.eq (y_getr (pc := 108) (r := 10) d62_108 q62_19 s_r_7_1) ?_
              refine y_callv_v (pc := 111) (n := 1) (n' := 3) (nc' := 1) (ns' := 6) [] [] false d62_111 q62_103 mk_45 (yP_t yP10) rfl rfl (Nat.le_of_ble_eq_true rfl) (Nat.le_of_ble_eq_true rfl) rfl (by decide +kernel) (by decide +kernel) (fun M12 => ?_)
              refine yL.eq (y_aload_n (pc := 114) (x := 7) d62_114 rfl) ?_
              refine yL.eq (y_getr (pc := 115) (r := 10) d62_115 q62_19 s_r_7_1) ?_
              refine yL.eq (y_geti (pc := 118) d62_118 q62_106 (((yP_i yP10)).2).2.1) ?_
              exact yL.eq (y_ireti (pc := 121) d62_121 mr_62) yL.rf
            ·
              refine yL.eq (y_ts (c := 6) (lo' := 7) kc_6 (by decide)) ?_
              refine yL.ite (fun h13 => ?_) (fun h13 => ?_)
              ·
                refine yL.eq (y_aload_n (pc := 122) (x := 7) d62_122 rfl) ?_
                refine yL.eq (y_getr (pc := 123) (r := 10) d62_123 q62_19 s_r_7_1) ?_
                refine y_callv_v (pc := 126) (n := 1) (n' := 3) (nc' := 1) (ns' := 6) [] [] false d62_126 q62_103 mk_45 (yP_t yP10) rfl rfl (Nat.le_of_ble_eq_true rfl) (Nat.le_of_ble_eq_true rfl) rfl (by decide +kernel) (by decide +kernel) (fun M14 => ?_)
                refine yL.eq (y_aload_n (pc := 129) (x := 7) d62_129 rfl) ?_
                refine yL.eq (y_getr (pc := 130) (r := 10) d62_130 q62_19 s_r_7_1) ?_
                refine yL.eq (y_geti (pc := 133) d62_133 q62_109 ((yP_i yP10)).2.1) ?_
                exact yL.eq (y_ireti (pc := 136) d62_136 mr_62) yL.rf
              ·
                refine yL.eq (y_ts (c := 7) (lo' := 8) kc_7 (by decide)) ?_
                refine yL.ite (fun h15 => ?_) (fun h15 => ?_)
                ·
                  refine yL.eq (y_aload_n (pc := 137) (x := 7) d62_137 rfl) ?_
                  refine yL.eq (y_getr (pc := 138) (r := 10) d62_138 q62_19 s_r_7_1) ?_
                  refine y_callv_i (pc := 141) (n := 1) (n' := 3) (nc' := 1) (ns' := 6) [] [] false d62_141 q62_112 mk_40 (yP_t yP10) rfl rfl (Nat.le_of_ble_eq_true rfl) (Nat.le_of_ble_eq_true rfl) rfl (by decide +kernel) (by decide +kernel) (fun v17 M16 => ?_)
                  exact yL.eq (y_ireti (pc := 144) d62_144 mr_62) yL.rf
                ·
                  refine yL.eq (y_ts (c := 8) (lo' := 9) kc_8 (by decide)) ?_
                  refine yL.ite (fun h18 => ?_) (fun h18 => ?_)
                  ·
                    refine yL.eq (y_aload_n (pc := 145) (x := 7) d62_145 rfl) ?_
                    refine yL.eq (y_getr (pc := 146) (r := 11) d62_146 q62_27 s_r_7_2) ?_
                    refine y_callv_i (pc := 149) (n := 1) (n' := 3) (nc' := 1) (ns' := 6) [] [] false d62_149 q62_116 mk_19 (yC_t yC11) rfl rfl (Nat.le_of_ble_eq_true rfl) (Nat.le_of_ble_eq_true rfl) rfl (by decide +kernel) (by decide +kernel) (fun v20 M19 => ?_)
                    exact yL.eq (y_ireti (pc := 152) d62_152 mr_62) yL.rf
                  ·
                    refine yL.eq y_tsn ?_
                    refine yL.eq (y_aload_n (pc := 153) (x := 7) d62_153 rfl) ?_
                    refine yL.eq (y_getr (pc := 154) (r := 11) d62_154 q62_27 s_r_7_2) ?_
                    refine y_callv_i (pc := 157) (n := 1) (n' := 3) (nc' := 1) (ns' := 6) [] [] false d62_157 q62_119 mk_18 (yC_t yC11) rfl rfl (Nat.le_of_ble_eq_true rfl) (Nat.le_of_ble_eq_true rfl) rfl (by decide +kernel) (by decide +kernel) (fun v22 M21 => ?_)
                    exact yL.eq (y_ireti (pc := 160) d62_160 mr_62) yL.rf
set_option maxRecDepth 20000 in
set_option maxHeartbeats 4000000 in
theorem e63 {a1 : Int32} {a2 : Int32} {M : yM} : yL (yCi false (yX 3 0 [some (.ref 11), some (.int a1)] [] M 0 0) fun v2 M1 => yCv true (yX 91 0 [some (.int v2)] [] M1 0 0) fun M3 => yCi false (yX 94 0 [some (.int a2), some (.int 0), some (.int 6)] [] M3 0 0) fun v5 M4 => yCv true (yX 92 0 [some (.int v5)] [] M4 0 0) fun M6 => if a2 = 0 then if yinB a1 12 = true then yI (M6 12 (yx a1)) M6 else none else if a2 = 1 then yCi false (yX 11 0 [some (.ref 11), some (.int a1), some (.int (M6 11 3)), none] [] M6 0 0) fun v11 M10 => yI v11 M10 else if a2 = 2 then yCi false (yX 12 0 [some (.ref 11), some (.int a1), some (.int (M6 11 3)), none, none, none] [] M6 0 0) fun v14 M13 => yI v14 M13 else if a2 = 3 then yCi false (yX 14 0 [some (.ref 11), some (.int a1), some (.int (M6 11 3)), some (.int 15), none, none, none] [] M6 0 0) fun v17 M16 => yI v17 M16 else if a2 = 4 then yCi false (yX 12 0 [some (.ref 11), some (.int a1), some (.int (M6 11 3)), none, none, none] [] M6 0 0) fun v20 M19 => yCi false (yX 11 0 [some (.ref 11), some (.int a1), some (.int (M6 11 3)), none] [] M19 0 0) fun v22 M21 => yI (v20 - v22) M21 else if a2 = 5 then yCi false (yX 17 0 [some (.ref 11), some (.int a1), none, none] [] M6 0 0) fun v25 M24 => yI v25 M24 else yCv false (yX 45 0 [some (.ref 10), none, none] [] M6 0 0) fun M26 => yCi false (yX 41 0 [some (.ref 10), some (.int a1), none] [] M26 0 0) fun v28 M27 => yI v28 M27) (yX 63 0 [some (.ref 7), some (.int a1), some (.int a2), none] [] M 0 0) := by
  refine yL.eq (y_aload_n (pc := 0) (x := 7) d63_0 rfl) ?_
  refine yL.eq (y_getr (pc := 1) (r := 11) d63_1 q63_27 s_r_7_2) ?_
  refine yL.eq (y_iload_n (pc := 4) (x := a1) d63_4 rfl) ?_
  refine y_callv_i (pc := 5) (n := 2) (n' := 2) (nc' := 0) (ns' := 0) [.int a1] [] false d63_5 q63_122 mk_3 (yC_t yC11) rfl rfl (Nat.le_of_ble_eq_true rfl) (Nat.le_of_ble_eq_true rfl) rfl (by decide +kernel) (by decide +kernel) (fun v2 M1 => ?_)
  refine y_calls_v (pc := 8) (n := 1) (n' := 1) (nc' := 1) (ns' := 6) [.int v2] [] true d63_8 q63_126 rfl rfl rfl (Nat.le_of_ble_eq_true rfl) (Nat.le_of_ble_eq_true rfl) rfl (by decide +kernel) (by decide +kernel) (fun M3 => ?_)
  refine yL.eq (y_iload_n (pc := 11) (x := a2) d63_11 rfl) ?_
  refine yL.eq (y_iconst (pc := 12) (v := 0) d63_12 kc_0) ?_
  refine yL.eq (y_bipush (pc := 13) (v := 6) d63_13 kb_6) ?_
  refine y_calls_i (pc := 15) (n := 3) (n' := 3) (nc' := 1) (ns' := 6) [.int a2, .int 0, .int 6] [] false d63_15 q63_54 rfl rfl rfl (Nat.le_of_ble_eq_true rfl) (Nat.le_of_ble_eq_true rfl) rfl (by decide +kernel) (by decide +kernel) (fun v5 M4 => ?_)
  refine y_calls_v (pc := 18) (n := 1) (n' := 1) (nc' := 2) (ns' := 12) [.int v5] [] true d63_18 q63_58 rfl rfl rfl (Nat.le_of_ble_eq_true rfl) (Nat.le_of_ble_eq_true rfl) rfl (by decide +kernel) (by decide +kernel) (fun M6 => ?_)
  refine yL.eq (y_aload_n (pc := 21) (x := 7) d63_21 rfl) ?_
  refine yL.eq (y_getr (pc := 22) (r := 11) d63_22 q63_27 s_r_7_2) ?_
  refine yL.eq (y_geti (pc := 25) d63_25 q63_96 ((((yC_i yC11)).2).2).2) ?_
  refine yL.eq (y_istore_n (pc := 28) (ls' := [some (.ref 7), some (.int a1), some (.int a2), some (.int (M6 11 3))]) d63_28 rfl rfl) ?_
  refine yL.eq (y_iload_n (pc := 29) (x := a2) d63_29 rfl) ?_
  refine yL.eq (y_tsw (pc := 30) (ts := [68, 78, 88, 98, 110, 130]) (d := 139) d63_30 (by decide +kernel)) ?_
  refine yL.eq (y_ts (c := 0) (lo' := 1) kc_0 (by decide)) ?_
  refine yL.ite (fun h7 => ?_) (fun h7 => ?_)
  ·
    refine yL.eq (y_aload_n (pc := 68) (x := 7) d63_68 rfl) ?_
    refine yL.eq (y_getr (pc := 69) (r := 11) d63_69 q63_27 s_r_7_2) ?_
    refine yL.eq (y_getr (pc := 72) (r := 12) d63_72 q63_129 (yC_r yC11).1) ?_
    refine yL.eq (y_iload_n (pc := 75) (x := a1) d63_75 rfl) ?_
    refine yL.eq (y_iald (pc := 76) (n := 12) d63_76 (yC_a yC11).1) ?_
    refine yL.gd (fun h8 => ?_)
    exact yL.eq (y_ireti (pc := 77) d63_77 mr_63) yL.rf
  ·
    refine yL.eq (y_ts (c := 1) (lo' := 2) kc_1 (by decide)) ?_
    refine yL.ite (fun h9 => ?_) (fun h9 => ?_)
    ·
      refine yL.eq (y_aload_n (pc := 78) (x := 7) d63_78 rfl) ?_
      refine yL.eq (y_getr (pc := 79) (r := 11) d63_79 q63_27 s_r_7_2) ?_
      refine yL.eq (y_iload_n (pc := 82) (x := a1) d63_82 rfl) ?_
      refine yL.eq (y_iload_n (pc := 83) (x := (M6 11 3)) d63_83 rfl) ?_
      refine y_callv_i (pc := 84) (n := 3) (n' := 4) (nc' := 2) (ns' := 12) [.int a1, .int (M6 11 3)] [] false d63_84 q63_133 mk_11 (yC_t yC11) rfl rfl (Nat.le_of_ble_eq_true rfl) (Nat.le_of_ble_eq_true rfl) rfl (by decide +kernel) (by decide +kernel) (fun v11 M10 => ?_)
      exact yL.eq (y_ireti (pc := 87) d63_87 mr_63) yL.rf
    ·
      refine yL.eq (y_ts (c := 2) (lo' := 3) kc_2 (by decide)) ?_
      refine yL.ite (fun h12 => ?_) (fun h12 => ?_)
      ·
        refine yL.eq (y_aload_n (pc := 88) (x := 7) d63_88 rfl) ?_
        refine yL.eq (y_getr (pc := 89) (r := 11) d63_89 q63_27 s_r_7_2) ?_
        refine yL.eq (y_iload_n (pc := 92) (x := a1) d63_92 rfl) ?_
        refine yL.eq (y_iload_n (pc := 93) (x := (M6 11 3)) d63_93 rfl) ?_
        refine y_callv_i (pc := 94) (n := 3) (n' := 6) (nc' := 2) (ns' := 12) [.int a1, .int (M6 11 3)] [] false d63_94 q63_137 mk_12 (yC_t yC11) rfl rfl (Nat.le_of_ble_eq_true rfl) (Nat.le_of_ble_eq_true rfl) rfl (by decide +kernel) (by decide +kernel) (fun v14 M13 => ?_)
        exact yL.eq (y_ireti (pc := 97) d63_97 mr_63) yL.rf
      ·
        refine yL.eq (y_ts (c := 3) (lo' := 4) kc_3 (by decide)) ?_
        refine yL.ite (fun h15 => ?_) (fun h15 => ?_)
        ·
          refine yL.eq (y_aload_n (pc := 98) (x := 7) d63_98 rfl) ?_
          refine yL.eq (y_getr (pc := 99) (r := 11) d63_99 q63_27 s_r_7_2) ?_
          refine yL.eq (y_iload_n (pc := 102) (x := a1) d63_102 rfl) ?_
          refine yL.eq (y_iload_n (pc := 103) (x := (M6 11 3)) d63_103 rfl) ?_
          refine yL.eq (y_bipush (pc := 104) (v := 15) d63_104 kb_15) ?_
          refine y_callv_i (pc := 106) (n := 4) (n' := 7) (nc' := 2) (ns' := 12) [.int a1, .int (M6 11 3), .int 15] [] false d63_106 q63_140 mk_14 (yC_t yC11) rfl rfl (Nat.le_of_ble_eq_true rfl) (Nat.le_of_ble_eq_true rfl) rfl (by decide +kernel) (by decide +kernel) (fun v17 M16 => ?_)
          exact yL.eq (y_ireti (pc := 109) d63_109 mr_63) yL.rf
        ·
          refine yL.eq (y_ts (c := 4) (lo' := 5) kc_4 (by decide)) ?_
          refine yL.ite (fun h18 => ?_) (fun h18 => ?_)
          ·
            refine yL.eq (y_aload_n (pc := 110) (x := 7) d63_110 rfl) ?_
            refine yL.eq (y_getr (pc := 111) (r := 11) d63_111 q63_27 s_r_7_2) ?_
            refine yL.eq (y_iload_n (pc := 114) (x := a1) d63_114 rfl) ?_
            refine yL.eq (y_iload_n (pc := 115) (x := (M6 11 3)) d63_115 rfl) ?_
            refine y_callv_i (pc := 116) (n := 3) (n' := 6) (nc' := 2) (ns' := 12) [.int a1, .int (M6 11 3)] [] false d63_116 q63_137 mk_12 (yC_t yC11) rfl rfl (Nat.le_of_ble_eq_true rfl) (Nat.le_of_ble_eq_true rfl) rfl (by decide +kernel) (by decide +kernel) (fun v20 M19 => ?_)
            refine yL.eq (y_aload_n (pc := 119) (x := 7) d63_119 rfl) ?_
            refine yL.eq (y_getr (pc := 120) (r := 11) d63_120 q63_27 s_r_7_2) ?_
            refine yL.eq (y_iload_n (pc := 123) (x := a1) d63_123 rfl) ?_
            refine yL.eq (y_iload_n (pc := 124) (x := (M6 11 3)) d63_124 rfl) ?_
            refine y_callv_i (pc := 125) (n := 3) (n' := 4) (nc' := 2) (ns' := 12) [.int a1, .int (M6 11 3)] [.int v20] false d63_125 q63_133 mk_11 (yC_t yC11) rfl rfl (Nat.le_of_ble_eq_true rfl) (Nat.le_of_ble_eq_true rfl) rfl (by decide +kernel) (by decide +kernel) (fun v22 M21 => ?_)
            refine yL.eq (y_isub (pc := 128) d63_128) ?_
            exact yL.eq (y_ireti (pc := 129) d63_129 mr_63) yL.rf
          ·
            refine yL.eq (y_ts (c := 5) (lo' := 6) kc_5 (by decide)) ?_
            refine yL.ite (fun h23 => ?_) (fun h23 => ?_)
            ·
              refine yL.eq (y_aload_n (pc := 130) (x := 7) d63_130 rfl) ?_
              refine yL.eq (y_getr (pc := 131) (r := 11) d63_131 q63_27 s_r_7_2) ?_
              refine yL.eq (y_iload_n (pc := 134) (x := a1) d63_134 rfl) ?_
              refine y_callv_i (pc := 135) (n := 2) (n' := 4) (nc' := 2) (ns' := 12) [.int a1] [] false d63_135 q63_144 mk_17 (yC_t yC11) rfl rfl (Nat.le_of_ble_eq_true rfl) (Nat.le_of_ble_eq_true rfl) rfl (by decide +kernel) (by decide +kernel) (fun v25 M24 => ?_)
              exact yL.eq (y_ireti (pc := 138) d63_138 mr_63) yL.rf
            ·
              refine yL.eq y_tsn ?_
              refine yL.eq (y_aload_n (pc := 139) (x := 7) d63_139 rfl) ?_
              refine yL.eq (y_getr (pc := 140) (r := 10) d63_140 q63_19 s_r_7_1) ?_
              refine y_callv_v (pc := 143) (n := 1) (n' := 3) (nc' := 2) (ns' := 12) [] [] false d63_143 q63_103 mk_45 (yP_t yP10) rfl rfl (Nat.le_of_ble_eq_true rfl) (Nat.le_of_ble_eq_true rfl) rfl (by decide +kernel) (by decide +kernel) (fun M26 => ?_)
              refine yL.eq (y_aload_n (pc := 146) (x := 7) d63_146 rfl) ?_
              refine yL.eq (y_getr (pc := 147) (r := 10) d63_147 q63_19 s_r_7_1) ?_
              refine yL.eq (y_iload_n (pc := 150) (x := a1) d63_150 rfl) ?_
              refine y_callv_i (pc := 151) (n := 2) (n' := 3) (nc' := 2) (ns' := 12) [.int a1] [] false d63_151 q63_147 mk_41 (yP_t yP10) rfl rfl (Nat.le_of_ble_eq_true rfl) (Nat.le_of_ble_eq_true rfl) rfl (by decide +kernel) (by decide +kernel) (fun v28 M27 => ?_)
              exact yL.eq (y_ireti (pc := 154) d63_154 mr_63) yL.rf
set_option maxRecDepth 20000 in
set_option maxHeartbeats 4000000 in
theorem e64 {a1 : Int32} {a2 : Int32} {M : yM} : yL (yCi false (yX 3 0 [some (.ref 11), some (.int a1)] [] M 0 0) fun v2 M1 => yCv true (yX 91 0 [some (.int v2)] [] M1 0 0) fun M3 => yCi false (yX 94 0 [some (.int a2), some (.int 0), some (.int 3)] [] M3 0 0) fun v5 M4 => yCv true (yX 92 0 [some (.int v5)] [] M4 0 0) fun M6 => yCi false (yX 14 0 [some (.ref 11), some (.int a1), some (.int (M6 11 3)), some (.int ((1 : Int32) <<< (a2 &&& 31))), none, none, none] [] M6 0 0) fun v8 M7 => yI v8 M7) (yX 64 0 [some (.ref 7), some (.int a1), some (.int a2)] [] M 0 0) := by
  refine yL.eq (y_aload_n (pc := 0) (x := 7) d64_0 rfl) ?_
  refine yL.eq (y_getr (pc := 1) (r := 11) d64_1 q64_27 s_r_7_2) ?_
  refine yL.eq (y_iload_n (pc := 4) (x := a1) d64_4 rfl) ?_
  refine y_callv_i (pc := 5) (n := 2) (n' := 2) (nc' := 0) (ns' := 0) [.int a1] [] false d64_5 q64_122 mk_3 (yC_t yC11) rfl rfl (Nat.le_of_ble_eq_true rfl) (Nat.le_of_ble_eq_true rfl) rfl (by decide +kernel) (by decide +kernel) (fun v2 M1 => ?_)
  refine y_calls_v (pc := 8) (n := 1) (n' := 1) (nc' := 1) (ns' := 6) [.int v2] [] true d64_8 q64_126 rfl rfl rfl (Nat.le_of_ble_eq_true rfl) (Nat.le_of_ble_eq_true rfl) rfl (by decide +kernel) (by decide +kernel) (fun M3 => ?_)
  refine yL.eq (y_iload_n (pc := 11) (x := a2) d64_11 rfl) ?_
  refine yL.eq (y_iconst (pc := 12) (v := 0) d64_12 kc_0) ?_
  refine yL.eq (y_iconst (pc := 13) (v := 3) d64_13 kc_3) ?_
  refine y_calls_i (pc := 14) (n := 3) (n' := 3) (nc' := 1) (ns' := 6) [.int a2, .int 0, .int 3] [] false d64_14 q64_54 rfl rfl rfl (Nat.le_of_ble_eq_true rfl) (Nat.le_of_ble_eq_true rfl) rfl (by decide +kernel) (by decide +kernel) (fun v5 M4 => ?_)
  refine y_calls_v (pc := 17) (n := 1) (n' := 1) (nc' := 2) (ns' := 12) [.int v5] [] true d64_17 q64_58 rfl rfl rfl (Nat.le_of_ble_eq_true rfl) (Nat.le_of_ble_eq_true rfl) rfl (by decide +kernel) (by decide +kernel) (fun M6 => ?_)
  refine yL.eq (y_aload_n (pc := 20) (x := 7) d64_20 rfl) ?_
  refine yL.eq (y_getr (pc := 21) (r := 11) d64_21 q64_27 s_r_7_2) ?_
  refine yL.eq (y_iload_n (pc := 24) (x := a1) d64_24 rfl) ?_
  refine yL.eq (y_aload_n (pc := 25) (x := 7) d64_25 rfl) ?_
  refine yL.eq (y_getr (pc := 26) (r := 11) d64_26 q64_27 s_r_7_2) ?_
  refine yL.eq (y_geti (pc := 29) d64_29 q64_96 ((((yC_i yC11)).2).2).2) ?_
  refine yL.eq (y_iconst (pc := 32) (v := 1) d64_32 kc_1) ?_
  refine yL.eq (y_iload_n (pc := 33) (x := a2) d64_33 rfl) ?_
  refine yL.eq (y_ishl (pc := 34) d64_34) ?_
  refine y_callv_i (pc := 35) (n := 4) (n' := 7) (nc' := 2) (ns' := 12) [.int a1, .int (M6 11 3), .int ((1 : Int32) <<< (a2 &&& 31))] [] false d64_35 q64_140 mk_14 (yC_t yC11) rfl rfl (Nat.le_of_ble_eq_true rfl) (Nat.le_of_ble_eq_true rfl) rfl (by decide +kernel) (by decide +kernel) (fun v8 M7 => ?_)
  exact yL.eq (y_ireti (pc := 38) d64_38 mr_64) yL.rf
set_option maxRecDepth 20000 in
set_option maxHeartbeats 4000000 in
theorem e65 {a1 : Int32} {a2 : Int32} {M : yM} : yL (yCi false (yX 4 0 [some (.ref 11), some (.int a1)] [] M 0 0) fun v2 M1 => yCv true (yX 91 0 [some (.int v2)] [] M1 0 0) fun M3 => yCi false (yX 94 0 [some (.int a2), some (.int 0), some (.int 9)] [] M3 0 0) fun v5 M4 => yCv true (yX 92 0 [some (.int v5)] [] M4 0 0) fun M6 => if a2 = 0 then if yinB a1 14 = true then yI (M6 13 (yx a1)) M6 else none else if a2 = 1 then if yinB a1 14 = true then yI (M6 14 (yx a1)) M6 else none else if a2 = 2 then if yinB a1 14 = true then yI (M6 15 (yx a1)) M6 else none else if a2 = 3 then if yinB a1 14 = true then yI (M6 16 (yx a1)) M6 else none else if a2 = 4 then if yinB a1 14 = true then yI (M6 17 (yx a1)) M6 else none else if a2 = 5 then yCi false (yX 20 0 [some (.ref 11), some (.int a1), none, none] [] M6 0 0) fun v19 M18 => yI v19 M18 else if a2 = 6 then yCv false (yX 48 0 [some (.ref 10), none, none] [] M6 0 0) fun M21 => if yinB a1 14 = true then yI (M21 22 (yx a1)) M21 else none else if a2 = 7 then yCv false (yX 45 0 [some (.ref 10), none, none] [] M6 0 0) fun M24 => if yinB a1 14 = true then yI (M24 20 (yx a1)) M24 else none else if a2 = 8 then yCv false (yX 45 0 [some (.ref 10), none, none] [] M6 0 0) fun M27 => if yinB a1 14 = true then yI (M27 21 (yx a1)) M27 else none else yCi false (yX 21 0 [some (.ref 11), some (.int a1), none, none, none] [] M6 0 0) fun v30 M29 => yCi false (yX 144 0 [some (.int v30)] [] M29 0 0) fun v32 M31 => yI v32 M31) (yX 65 0 [some (.ref 7), some (.int a1), some (.int a2)] [] M 0 0) := by
  refine yL.eq (y_aload_n (pc := 0) (x := 7) d65_0 rfl) ?_
  refine yL.eq (y_getr (pc := 1) (r := 11) d65_1 q65_27 s_r_7_2) ?_
  refine yL.eq (y_iload_n (pc := 4) (x := a1) d65_4 rfl) ?_
  refine y_callv_i (pc := 5) (n := 2) (n' := 2) (nc' := 0) (ns' := 0) [.int a1] [] false d65_5 q65_150 mk_4 (yC_t yC11) rfl rfl (Nat.le_of_ble_eq_true rfl) (Nat.le_of_ble_eq_true rfl) rfl (by decide +kernel) (by decide +kernel) (fun v2 M1 => ?_)
  refine y_calls_v (pc := 8) (n := 1) (n' := 1) (nc' := 1) (ns' := 6) [.int v2] [] true d65_8 q65_126 rfl rfl rfl (Nat.le_of_ble_eq_true rfl) (Nat.le_of_ble_eq_true rfl) rfl (by decide +kernel) (by decide +kernel) (fun M3 => ?_)
  refine yL.eq (y_iload_n (pc := 11) (x := a2) d65_11 rfl) ?_
  refine yL.eq (y_iconst (pc := 12) (v := 0) d65_12 kc_0) ?_
  refine yL.eq (y_bipush (pc := 13) (v := 9) d65_13 kb_9) ?_
  refine y_calls_i (pc := 15) (n := 3) (n' := 3) (nc' := 1) (ns' := 6) [.int a2, .int 0, .int 9] [] false d65_15 q65_54 rfl rfl rfl (Nat.le_of_ble_eq_true rfl) (Nat.le_of_ble_eq_true rfl) rfl (by decide +kernel) (by decide +kernel) (fun v5 M4 => ?_)
  refine y_calls_v (pc := 18) (n := 1) (n' := 1) (nc' := 2) (ns' := 12) [.int v5] [] true d65_18 q65_58 rfl rfl rfl (Nat.le_of_ble_eq_true rfl) (Nat.le_of_ble_eq_true rfl) rfl (by decide +kernel) (by decide +kernel) (fun M6 => ?_)
  refine yL.eq (y_iload_n (pc := 21) (x := a2) d65_21 rfl) ?_
  refine yL.eq (y_tsw (pc := 22) (ts := [72, 82, 92, 102, 112, 122, 131, 148, 165]) (d := 182) d65_22 (by decide +kernel)) ?_
  refine yL.eq (y_ts (c := 0) (lo' := 1) kc_0 (by decide)) ?_
  refine yL.ite (fun h7 => ?_) (fun h7 => ?_)
  ·
    refine yL.eq (y_aload_n (pc := 72) (x := 7) d65_72 rfl) ?_
    refine yL.eq (y_getr (pc := 73) (r := 11) d65_73 q65_27 s_r_7_2) ?_
    refine yL.eq (y_getr (pc := 76) (r := 13) d65_76 q65_153 ((yC_r yC11)).2.1) ?_
    refine yL.eq (y_iload_n (pc := 79) (x := a1) d65_79 rfl) ?_
    refine yL.eq (y_iald (pc := 80) (n := 14) d65_80 ((yC_a yC11)).2.1) ?_
    refine yL.gd (fun h8 => ?_)
    exact yL.eq (y_ireti (pc := 81) d65_81 mr_65) yL.rf
  ·
    refine yL.eq (y_ts (c := 1) (lo' := 2) kc_1 (by decide)) ?_
    refine yL.ite (fun h9 => ?_) (fun h9 => ?_)
    ·
      refine yL.eq (y_aload_n (pc := 82) (x := 7) d65_82 rfl) ?_
      refine yL.eq (y_getr (pc := 83) (r := 11) d65_83 q65_27 s_r_7_2) ?_
      refine yL.eq (y_getr (pc := 86) (r := 14) d65_86 q65_156 (((yC_r yC11)).2).2.1) ?_
      refine yL.eq (y_iload_n (pc := 89) (x := a1) d65_89 rfl) ?_
      refine yL.eq (y_iald (pc := 90) (n := 14) d65_90 (((yC_a yC11)).2).2.1) ?_
      refine yL.gd (fun h10 => ?_)
      exact yL.eq (y_ireti (pc := 91) d65_91 mr_65) yL.rf
    ·
      refine yL.eq (y_ts (c := 2) (lo' := 3) kc_2 (by decide)) ?_
      refine yL.ite (fun h11 => ?_) (fun h11 => ?_)
      ·
        refine yL.eq (y_aload_n (pc := 92) (x := 7) d65_92 rfl) ?_
        refine yL.eq (y_getr (pc := 93) (r := 11) d65_93 q65_27 s_r_7_2) ?_
        refine yL.eq (y_getr (pc := 96) (r := 15) d65_96 q65_159 ((((yC_r yC11)).2).2).2.1) ?_
        refine yL.eq (y_iload_n (pc := 99) (x := a1) d65_99 rfl) ?_
        refine yL.eq (y_iald (pc := 100) (n := 14) d65_100 ((((yC_a yC11)).2).2).2.1) ?_
        refine yL.gd (fun h12 => ?_)
        exact yL.eq (y_ireti (pc := 101) d65_101 mr_65) yL.rf
      ·
        refine yL.eq (y_ts (c := 3) (lo' := 4) kc_3 (by decide)) ?_
        refine yL.ite (fun h13 => ?_) (fun h13 => ?_)
        ·
          refine yL.eq (y_aload_n (pc := 102) (x := 7) d65_102 rfl) ?_
          refine yL.eq (y_getr (pc := 103) (r := 11) d65_103 q65_27 s_r_7_2) ?_
          refine yL.eq (y_getr (pc := 106) (r := 16) d65_106 q65_162 (((((yC_r yC11)).2).2).2).2.1) ?_
          refine yL.eq (y_iload_n (pc := 109) (x := a1) d65_109 rfl) ?_
          refine yL.eq (y_iald (pc := 110) (n := 14) d65_110 (((((yC_a yC11)).2).2).2).2.1) ?_
          refine yL.gd (fun h14 => ?_)
          exact yL.eq (y_ireti (pc := 111) d65_111 mr_65) yL.rf
        ·
          refine yL.eq (y_ts (c := 4) (lo' := 5) kc_4 (by decide)) ?_
          refine yL.ite (fun h15 => ?_) (fun h15 => ?_)
          ·
            refine yL.eq (y_aload_n (pc := 112) (x := 7) d65_112 rfl) ?_
            refine yL.eq (y_getr (pc := 113) (r := 11) d65_113 q65_27 s_r_7_2) ?_
            refine yL.eq (y_getr (pc := 116) (r := 17) d65_116 q65_165 ((((((yC_r yC11)).2).2).2).2).2.1) ?_
            refine yL.eq (y_iload_n (pc := 119) (x := a1) d65_119 rfl) ?_
            refine yL.eq (y_iald (pc := 120) (n := 14) d65_120 ((((((yC_a yC11)).2).2).2).2).2.1) ?_
            refine yL.gd (fun h16 => ?_)
            exact yL.eq (y_ireti (pc := 121) d65_121 mr_65) yL.rf
          ·
            refine yL.eq (y_ts (c := 5) (lo' := 6) kc_5 (by decide)) ?_
            refine yL.ite (fun h17 => ?_) (fun h17 => ?_)
            ·
              refine yL.eq (y_aload_n (pc := 122) (x := 7) d65_122 rfl) ?_
              refine yL.eq (y_getr (pc := 123) (r := 11) d65_123 q65_27 s_r_7_2) ?_
              refine yL.eq (y_iload_n (pc := 126) (x := a1) d65_126 rfl) ?_
              refine y_callv_i (pc := 127) (n := 2) (n' := 4) (nc' := 2) (ns' := 12) [.int a1] [] false d65_127 q65_168 mk_20 (yC_t yC11) rfl rfl (Nat.le_of_ble_eq_true rfl) (Nat.le_of_ble_eq_true rfl) rfl (by decide +kernel) (by decide +kernel) (fun v19 M18 => ?_)
              exact yL.eq (y_ireti (pc := 130) d65_130 mr_65) yL.rf
            ·
              refine yL.eq (y_ts (c := 6) (lo' := 7) kc_6 (by decide)) ?_
              refine yL.ite (fun h20 => ?_) (fun h20 => ?_)
              ·
                refine yL.eq (y_aload_n (pc := 131) (x := 7) d65_131 rfl) ?_
                refine yL.eq (y_getr (pc := 132) (r := 10) d65_132 q65_19 s_r_7_1) ?_
                refine y_callv_v (pc := 135) (n := 1) (n' := 3) (nc' := 2) (ns' := 12) [] [] false d65_135 q65_171 mk_48 (yP_t yP10) rfl rfl (Nat.le_of_ble_eq_true rfl) (Nat.le_of_ble_eq_true rfl) rfl (by decide +kernel) (by decide +kernel) (fun M21 => ?_)
                refine yL.eq (y_aload_n (pc := 138) (x := 7) d65_138 rfl) ?_
                refine yL.eq (y_getr (pc := 139) (r := 10) d65_139 q65_19 s_r_7_1) ?_
                refine yL.eq (y_getr (pc := 142) (r := 22) d65_142 q65_174 ((((yP_r yP10)).2).2).2.1) ?_
                refine yL.eq (y_iload_n (pc := 145) (x := a1) d65_145 rfl) ?_
                refine yL.eq (y_iald (pc := 146) (n := 14) d65_146 (((yP_a yP10)).2).2.1) ?_
                refine yL.gd (fun h22 => ?_)
                exact yL.eq (y_ireti (pc := 147) d65_147 mr_65) yL.rf
              ·
                refine yL.eq (y_ts (c := 7) (lo' := 8) kc_7 (by decide)) ?_
                refine yL.ite (fun h23 => ?_) (fun h23 => ?_)
                ·
                  refine yL.eq (y_aload_n (pc := 148) (x := 7) d65_148 rfl) ?_
                  refine yL.eq (y_getr (pc := 149) (r := 10) d65_149 q65_19 s_r_7_1) ?_
                  refine y_callv_v (pc := 152) (n := 1) (n' := 3) (nc' := 2) (ns' := 12) [] [] false d65_152 q65_103 mk_45 (yP_t yP10) rfl rfl (Nat.le_of_ble_eq_true rfl) (Nat.le_of_ble_eq_true rfl) rfl (by decide +kernel) (by decide +kernel) (fun M24 => ?_)
                  refine yL.eq (y_aload_n (pc := 155) (x := 7) d65_155 rfl) ?_
                  refine yL.eq (y_getr (pc := 156) (r := 10) d65_156 q65_19 s_r_7_1) ?_
                  refine yL.eq (y_getr (pc := 159) (r := 20) d65_159 q65_177 ((yP_r yP10)).2.1) ?_
                  refine yL.eq (y_iload_n (pc := 162) (x := a1) d65_162 rfl) ?_
                  refine yL.eq (y_iald (pc := 163) (n := 14) d65_163 (yP_a yP10).1) ?_
                  refine yL.gd (fun h25 => ?_)
                  exact yL.eq (y_ireti (pc := 164) d65_164 mr_65) yL.rf
                ·
                  refine yL.eq (y_ts (c := 8) (lo' := 9) kc_8 (by decide)) ?_
                  refine yL.ite (fun h26 => ?_) (fun h26 => ?_)
                  ·
                    refine yL.eq (y_aload_n (pc := 165) (x := 7) d65_165 rfl) ?_
                    refine yL.eq (y_getr (pc := 166) (r := 10) d65_166 q65_19 s_r_7_1) ?_
                    refine y_callv_v (pc := 169) (n := 1) (n' := 3) (nc' := 2) (ns' := 12) [] [] false d65_169 q65_103 mk_45 (yP_t yP10) rfl rfl (Nat.le_of_ble_eq_true rfl) (Nat.le_of_ble_eq_true rfl) rfl (by decide +kernel) (by decide +kernel) (fun M27 => ?_)
                    refine yL.eq (y_aload_n (pc := 172) (x := 7) d65_172 rfl) ?_
                    refine yL.eq (y_getr (pc := 173) (r := 10) d65_173 q65_19 s_r_7_1) ?_
                    refine yL.eq (y_getr (pc := 176) (r := 21) d65_176 q65_180 (((yP_r yP10)).2).2.1) ?_
                    refine yL.eq (y_iload_n (pc := 179) (x := a1) d65_179 rfl) ?_
                    refine yL.eq (y_iald (pc := 180) (n := 14) d65_180 ((yP_a yP10)).2.1) ?_
                    refine yL.gd (fun h28 => ?_)
                    exact yL.eq (y_ireti (pc := 181) d65_181 mr_65) yL.rf
                  ·
                    refine yL.eq y_tsn ?_
                    refine yL.eq (y_aload_n (pc := 182) (x := 7) d65_182 rfl) ?_
                    refine yL.eq (y_getr (pc := 183) (r := 11) d65_183 q65_27 s_r_7_2) ?_
                    refine yL.eq (y_iload_n (pc := 186) (x := a1) d65_186 rfl) ?_
                    refine y_callv_i (pc := 187) (n := 2) (n' := 5) (nc' := 2) (ns' := 12) [.int a1] [] false d65_187 q65_183 mk_21 (yC_t yC11) rfl rfl (Nat.le_of_ble_eq_true rfl) (Nat.le_of_ble_eq_true rfl) rfl (by decide +kernel) (by decide +kernel) (fun v30 M29 => ?_)
                    refine y_calls_i (pc := 190) (n := 1) (n' := 1) (nc' := 2) (ns' := 12) [.int v30] [] false d65_190 q65_186 rfl rfl rfl (Nat.le_of_ble_eq_true rfl) (Nat.le_of_ble_eq_true rfl) rfl (by decide +kernel) (by decide +kernel) (fun v32 M31 => ?_)
                    exact yL.eq (y_ireti (pc := 193) d65_193 mr_65) yL.rf
set_option maxRecDepth 20000 in
set_option maxHeartbeats 4000000 in
theorem e66 {a1 : Int32} {M : yM} : yL (yCv false (yX 45 0 [some (.ref 10), none, none] [] M 0 0) fun M1 => yCi false (yX 94 0 [some (.int a1), some (.int 0), some (.int ((M1 10 6) - 1))] [] M1 0 0) fun v3 M2 => yCv true (yX 91 0 [some (.int v3)] [] M2 0 0) fun M4 => if yinB a1 14 = true then yI (M4 24 (yx a1)) M4 else none) (yX 66 0 [some (.ref 7), some (.int a1)] [] M 0 0) := by
  refine yL.eq (y_aload_n (pc := 0) (x := 7) d66_0 rfl) ?_
  refine yL.eq (y_getr (pc := 1) (r := 10) d66_1 q66_19 s_r_7_1) ?_
  refine y_callv_v (pc := 4) (n := 1) (n' := 3) (nc' := 0) (ns' := 0) [] [] false d66_4 q66_103 mk_45 (yP_t yP10) rfl rfl (Nat.le_of_ble_eq_true rfl) (Nat.le_of_ble_eq_true rfl) rfl (by decide +kernel) (by decide +kernel) (fun M1 => ?_)
  refine yL.eq (y_iload_n (pc := 7) (x := a1) d66_7 rfl) ?_
  refine yL.eq (y_iconst (pc := 8) (v := 0) d66_8 kc_0) ?_
  refine yL.eq (y_aload_n (pc := 9) (x := 7) d66_9 rfl) ?_
  refine yL.eq (y_getr (pc := 10) (r := 10) d66_10 q66_19 s_r_7_1) ?_
  refine yL.eq (y_geti (pc := 13) d66_13 q66_191 (yP_i yP10).1) ?_
  refine yL.eq (y_iconst (pc := 16) (v := 1) d66_16 kc_1) ?_
  refine yL.eq (y_isub (pc := 17) d66_17) ?_
  refine y_calls_i (pc := 18) (n := 3) (n' := 3) (nc' := 0) (ns' := 0) [.int a1, .int 0, .int ((M1 10 6) - 1)] [] false d66_18 q66_54 rfl rfl rfl (Nat.le_of_ble_eq_true rfl) (Nat.le_of_ble_eq_true rfl) rfl (by decide +kernel) (by decide +kernel) (fun v3 M2 => ?_)
  refine y_calls_v (pc := 21) (n := 1) (n' := 1) (nc' := 1) (ns' := 6) [.int v3] [] true d66_21 q66_126 rfl rfl rfl (Nat.le_of_ble_eq_true rfl) (Nat.le_of_ble_eq_true rfl) rfl (by decide +kernel) (by decide +kernel) (fun M4 => ?_)
  refine yL.eq (y_aload_n (pc := 24) (x := 7) d66_24 rfl) ?_
  refine yL.eq (y_getr (pc := 25) (r := 10) d66_25 q66_19 s_r_7_1) ?_
  refine yL.eq (y_getr (pc := 28) (r := 24) d66_28 q66_194 ((((((yP_r yP10)).2).2).2).2).2.1) ?_
  refine yL.eq (y_iload_n (pc := 31) (x := a1) d66_31 rfl) ?_
  refine yL.eq (y_iald (pc := 32) (n := 14) d66_32 (((((yP_a yP10)).2).2).2).2.1) ?_
  refine yL.gd (fun h5 => ?_)
  exact yL.eq (y_ireti (pc := 33) d66_33 mr_66) yL.rf
set_option maxRecDepth 20000 in
set_option maxHeartbeats 4000000 in
theorem e67 {a1 : Int32} {M : yM} : yL (yCi false (yX 95 0 [some (.int a1)] [] M 0 0) fun v2 M1 => yCv true (yX 91 0 [some (.int v2)] [] M1 0 0) fun M3 => if yinB a1 4 = true then yI (M3 18 (yx a1)) M3 else none) (yX 67 0 [some (.ref 7), some (.int a1)] [] M 0 0) := by
  refine yL.eq (y_iload_n (pc := 0) (x := a1) d67_0 rfl) ?_
  refine y_calls_i (pc := 1) (n := 1) (n' := 1) (nc' := 0) (ns' := 0) [.int a1] [] false d67_1 q67_197 rfl rfl rfl (Nat.le_of_ble_eq_true rfl) (Nat.le_of_ble_eq_true rfl) rfl (by decide +kernel) (by decide +kernel) (fun v2 M1 => ?_)
  refine y_calls_v (pc := 4) (n := 1) (n' := 1) (nc' := 1) (ns' := 6) [.int v2] [] true d67_4 q67_126 rfl rfl rfl (Nat.le_of_ble_eq_true rfl) (Nat.le_of_ble_eq_true rfl) rfl (by decide +kernel) (by decide +kernel) (fun M3 => ?_)
  refine yL.eq (y_aload_n (pc := 7) (x := 7) d67_7 rfl) ?_
  refine yL.eq (y_getr (pc := 8) (r := 11) d67_8 q67_27 s_r_7_2) ?_
  refine yL.eq (y_getr (pc := 11) (r := 18) d67_11 q67_200 (((((((yC_r yC11)).2).2).2).2).2).2.1) ?_
  refine yL.eq (y_iload_n (pc := 14) (x := a1) d67_14 rfl) ?_
  refine yL.eq (y_iald (pc := 15) (n := 4) d67_15 (((((((yC_a yC11)).2).2).2).2).2).2.1) ?_
  refine yL.gd (fun h4 => ?_)
  exact yL.eq (y_ireti (pc := 16) d67_16 mr_67) yL.rf
set_option maxRecDepth 20000 in
set_option maxHeartbeats 4000000 in
theorem e68 {a1 : Int32} {M : yM} : yL (yCi false (yX 96 0 [some (.int a1)] [] M 0 0) fun v2 M1 => yCv true (yX 92 0 [some (.int v2)] [] M1 0 0) fun M3 => if yinB a1 5 = true then yI (M3 19 (yx a1)) M3 else none) (yX 68 0 [some (.ref 7), some (.int a1)] [] M 0 0) := by
  refine yL.eq (y_iload_n (pc := 0) (x := a1) d68_0 rfl) ?_
  refine y_calls_i (pc := 1) (n := 1) (n' := 1) (nc' := 0) (ns' := 0) [.int a1] [] false d68_1 q68_203 rfl rfl rfl (Nat.le_of_ble_eq_true rfl) (Nat.le_of_ble_eq_true rfl) rfl (by decide +kernel) (by decide +kernel) (fun v2 M1 => ?_)
  refine y_calls_v (pc := 4) (n := 1) (n' := 1) (nc' := 1) (ns' := 6) [.int v2] [] true d68_4 q68_58 rfl rfl rfl (Nat.le_of_ble_eq_true rfl) (Nat.le_of_ble_eq_true rfl) rfl (by decide +kernel) (by decide +kernel) (fun M3 => ?_)
  refine yL.eq (y_aload_n (pc := 7) (x := 7) d68_7 rfl) ?_
  refine yL.eq (y_getr (pc := 8) (r := 11) d68_8 q68_27 s_r_7_2) ?_
  refine yL.eq (y_getr (pc := 11) (r := 19) d68_11 q68_206 ((((((((yC_r yC11)).2).2).2).2).2).2).2) ?_
  refine yL.eq (y_iload_n (pc := 14) (x := a1) d68_14 rfl) ?_
  refine yL.eq (y_iald (pc := 15) (n := 5) d68_15 ((((((((yC_a yC11)).2).2).2).2).2).2).2) ?_
  refine yL.gd (fun h4 => ?_)
  exact yL.eq (y_ireti (pc := 16) d68_16 mr_68) yL.rf
set_option maxRecDepth 20000 in
set_option maxHeartbeats 4000000 in
theorem e69 {a1 : Int32} {a2 : Int32} {M : yM} : yL (yCi false (yX 94 0 [some (.int a1), some (.int 0), some (.int 1500)] [] M 0 0) fun v2 M1 => if v2 = 0 then yCv true (yX 92 0 [some (.int 0)] [] M1 0 0) fun M4 => yCv false (yX 45 0 [some (.ref 10), none, none] [] M4 0 0) fun M5 => yCi false (yX 42 0 [some (.ref 10), some (.int a1), some (.int a2), none, none] [] M5 0 0) fun v7 M6 => yI v7 M6 else yCi false (yX 94 0 [some (.int a2), some (.int 0), some (.int 9)] [] M1 0 0) fun v9 M8 => if v9 = 0 then yCv true (yX 92 0 [some (.int 0)] [] M8 0 0) fun M11 => yCv false (yX 45 0 [some (.ref 10), none, none] [] M11 0 0) fun M12 => yCi false (yX 42 0 [some (.ref 10), some (.int a1), some (.int a2), none, none] [] M12 0 0) fun v14 M13 => yI v14 M13 else yCv true (yX 92 0 [some (.int 1)] [] M8 0 0) fun M15 => yCv false (yX 45 0 [some (.ref 10), none, none] [] M15 0 0) fun M16 => yCi false (yX 42 0 [some (.ref 10), some (.int a1), some (.int a2), none, none] [] M16 0 0) fun v18 M17 => yI v18 M17) (yX 69 0 [some (.ref 7), some (.int a1), some (.int a2)] [] M 0 0) := by
  refine yL.eq (y_iload_n (pc := 0) (x := a1) d69_0 rfl) ?_
  refine yL.eq (y_iconst (pc := 1) (v := 0) d69_1 kc_0) ?_
  refine yL.eq (y_sipush (pc := 2) (v := 1500) d69_2 ks_1500) ?_
  refine y_calls_i (pc := 5) (n := 3) (n' := 3) (nc' := 0) (ns' := 0) [.int a1, .int 0, .int 1500] [] false d69_5 q69_54 rfl rfl rfl (Nat.le_of_ble_eq_true rfl) (Nat.le_of_ble_eq_true rfl) rfl (by decide +kernel) (by decide +kernel) (fun v2 M1 => ?_)
  refine yL.eq (y_if_eq (pc := 8) (t := 25) d69_8 (by decide)) ?_
  refine yL.ite (fun h3 => ?_) (fun h3 => ?_)
  ·
    refine yL.eq (y_iconst (pc := 25) (v := 0) d69_25 kc_0) ?_
    refine y_calls_v (pc := 26) (n := 1) (n' := 1) (nc' := 1) (ns' := 6) [.int 0] [] true d69_26 q69_58 rfl rfl rfl (Nat.le_of_ble_eq_true rfl) (Nat.le_of_ble_eq_true rfl) rfl (by decide +kernel) (by decide +kernel) (fun M4 => ?_)
    refine yL.eq (y_aload_n (pc := 29) (x := 7) d69_29 rfl) ?_
    refine yL.eq (y_getr (pc := 30) (r := 10) d69_30 q69_19 s_r_7_1) ?_
    refine y_callv_v (pc := 33) (n := 1) (n' := 3) (nc' := 1) (ns' := 6) [] [] false d69_33 q69_103 mk_45 (yP_t yP10) rfl rfl (Nat.le_of_ble_eq_true rfl) (Nat.le_of_ble_eq_true rfl) rfl (by decide +kernel) (by decide +kernel) (fun M5 => ?_)
    refine yL.eq (y_aload_n (pc := 36) (x := 7) d69_36 rfl) ?_
    refine yL.eq (y_getr (pc := 37) (r := 10) d69_37 q69_19 s_r_7_1) ?_
    refine yL.eq (y_iload_n (pc := 40) (x := a1) d69_40 rfl) ?_
    refine yL.eq (y_iload_n (pc := 41) (x := a2) d69_41 rfl) ?_
    refine y_callv_i (pc := 42) (n := 3) (n' := 5) (nc' := 1) (ns' := 6) [.int a1, .int a2] [] false d69_42 q69_209 mk_42 (yP_t yP10) rfl rfl (Nat.le_of_ble_eq_true rfl) (Nat.le_of_ble_eq_true rfl) rfl (by decide +kernel) (by decide +kernel) (fun v7 M6 => ?_)
    exact yL.eq (y_ireti (pc := 45) d69_45 mr_69) yL.rf
  ·
    refine yL.eq (y_iload_n (pc := 11) (x := a2) d69_11 rfl) ?_
    refine yL.eq (y_iconst (pc := 12) (v := 0) d69_12 kc_0) ?_
    refine yL.eq (y_bipush (pc := 13) (v := 9) d69_13 kb_9) ?_
    refine y_calls_i (pc := 15) (n := 3) (n' := 3) (nc' := 0) (ns' := 0) [.int a2, .int 0, .int 9] [] false d69_15 q69_54 rfl rfl rfl (Nat.le_of_ble_eq_true rfl) (Nat.le_of_ble_eq_true rfl) rfl (by decide +kernel) (by decide +kernel) (fun v9 M8 => ?_)
    refine yL.eq (y_if_eq (pc := 18) (t := 25) d69_18 (by decide)) ?_
    refine yL.ite (fun h10 => ?_) (fun h10 => ?_)
    ·
      refine yL.eq (y_iconst (pc := 25) (v := 0) d69_25 kc_0) ?_
      refine y_calls_v (pc := 26) (n := 1) (n' := 1) (nc' := 1) (ns' := 6) [.int 0] [] true d69_26 q69_58 rfl rfl rfl (Nat.le_of_ble_eq_true rfl) (Nat.le_of_ble_eq_true rfl) rfl (by decide +kernel) (by decide +kernel) (fun M11 => ?_)
      refine yL.eq (y_aload_n (pc := 29) (x := 7) d69_29 rfl) ?_
      refine yL.eq (y_getr (pc := 30) (r := 10) d69_30 q69_19 s_r_7_1) ?_
      refine y_callv_v (pc := 33) (n := 1) (n' := 3) (nc' := 1) (ns' := 6) [] [] false d69_33 q69_103 mk_45 (yP_t yP10) rfl rfl (Nat.le_of_ble_eq_true rfl) (Nat.le_of_ble_eq_true rfl) rfl (by decide +kernel) (by decide +kernel) (fun M12 => ?_)
      refine yL.eq (y_aload_n (pc := 36) (x := 7) d69_36 rfl) ?_
      refine yL.eq (y_getr (pc := 37) (r := 10) d69_37 q69_19 s_r_7_1) ?_
      refine yL.eq (y_iload_n (pc := 40) (x := a1) d69_40 rfl) ?_
      refine yL.eq (y_iload_n (pc := 41) (x := a2) d69_41 rfl) ?_
      refine y_callv_i (pc := 42) (n := 3) (n' := 5) (nc' := 1) (ns' := 6) [.int a1, .int a2] [] false d69_42 q69_209 mk_42 (yP_t yP10) rfl rfl (Nat.le_of_ble_eq_true rfl) (Nat.le_of_ble_eq_true rfl) rfl (by decide +kernel) (by decide +kernel) (fun v14 M13 => ?_)
      exact yL.eq (y_ireti (pc := 45) d69_45 mr_69) yL.rf
    ·
      refine yL.eq (y_iconst (pc := 21) (v := 1) d69_21 kc_1) ?_
      refine yL.eq (y_goto (pc := 22) (t := 26) d69_22 (by decide)) ?_
      refine y_calls_v (pc := 26) (n := 1) (n' := 1) (nc' := 1) (ns' := 6) [.int 1] [] true d69_26 q69_58 rfl rfl rfl (Nat.le_of_ble_eq_true rfl) (Nat.le_of_ble_eq_true rfl) rfl (by decide +kernel) (by decide +kernel) (fun M15 => ?_)
      refine yL.eq (y_aload_n (pc := 29) (x := 7) d69_29 rfl) ?_
      refine yL.eq (y_getr (pc := 30) (r := 10) d69_30 q69_19 s_r_7_1) ?_
      refine y_callv_v (pc := 33) (n := 1) (n' := 3) (nc' := 1) (ns' := 6) [] [] false d69_33 q69_103 mk_45 (yP_t yP10) rfl rfl (Nat.le_of_ble_eq_true rfl) (Nat.le_of_ble_eq_true rfl) rfl (by decide +kernel) (by decide +kernel) (fun M16 => ?_)
      refine yL.eq (y_aload_n (pc := 36) (x := 7) d69_36 rfl) ?_
      refine yL.eq (y_getr (pc := 37) (r := 10) d69_37 q69_19 s_r_7_1) ?_
      refine yL.eq (y_iload_n (pc := 40) (x := a1) d69_40 rfl) ?_
      refine yL.eq (y_iload_n (pc := 41) (x := a2) d69_41 rfl) ?_
      refine y_callv_i (pc := 42) (n := 3) (n' := 5) (nc' := 1) (ns' := 6) [.int a1, .int a2] [] false d69_42 q69_209 mk_42 (yP_t yP10) rfl rfl (Nat.le_of_ble_eq_true rfl) (Nat.le_of_ble_eq_true rfl) rfl (by decide +kernel) (by decide +kernel) (fun v18 M17 => ?_)
      exact yL.eq (y_ireti (pc := 45) d69_45 mr_69) yL.rf
set_option maxRecDepth 20000 in
set_option maxHeartbeats 4000000 in
theorem e70 {a1 : Int32} {M : yM} : yL (yCi true (yX 89 0 [some (.ref 7), some (.int 0), some (.int a1), some (.int 0), some (.int 0)] [] M 0 0) fun v2 M1 => yI v2 M1) (yX 70 0 [some (.ref 7), some (.int a1)] [] M 0 0) := by
  refine yL.eq (y_aload_n (pc := 0) (x := 7) d70_0 rfl) ?_
  refine yL.eq (y_iconst (pc := 1) (v := 0) d70_1 kc_0) ?_
  refine yL.eq (y_iload_n (pc := 2) (x := a1) d70_2 rfl) ?_
  refine yL.eq (y_iconst (pc := 3) (v := 0) d70_3 kc_0) ?_
  refine yL.eq (y_iconst (pc := 4) (v := 0) d70_4 kc_0) ?_
  refine y_callv_i (pc := 5) (n := 5) (n' := 5) (nc' := 3) (ns' := 18) [.int 0, .int a1, .int 0, .int 0] [] true d70_5 q70_212 mk_89 s_t_7 rfl rfl (Nat.le_of_ble_eq_true rfl) (Nat.le_of_ble_eq_true rfl) rfl (by decide +kernel) (by decide +kernel) (fun v2 M1 => ?_)
  exact yL.eq (y_ireti (pc := 8) d70_8 mr_70) yL.rf
set_option maxRecDepth 20000 in
set_option maxHeartbeats 4000000 in
theorem e71 {a1 : Int32} {a2 : Int32} {M : yM} : yL (yCi true (yX 89 0 [some (.ref 7), some (.int 7), some (.int a1), some (.int a2), some (.int 0)] [] M 0 0) fun v2 M1 => yI v2 M1) (yX 71 0 [some (.ref 7), some (.int a1), some (.int a2)] [] M 0 0) := by
  refine yL.eq (y_aload_n (pc := 0) (x := 7) d71_0 rfl) ?_
  refine yL.eq (y_bipush (pc := 1) (v := 7) d71_1 kb_7) ?_
  refine yL.eq (y_iload_n (pc := 3) (x := a1) d71_3 rfl) ?_
  refine yL.eq (y_iload_n (pc := 4) (x := a2) d71_4 rfl) ?_
  refine yL.eq (y_iconst (pc := 5) (v := 0) d71_5 kc_0) ?_
  refine y_callv_i (pc := 6) (n := 5) (n' := 5) (nc' := 3) (ns' := 18) [.int 7, .int a1, .int a2, .int 0] [] true d71_6 q71_212 mk_89 s_t_7 rfl rfl (Nat.le_of_ble_eq_true rfl) (Nat.le_of_ble_eq_true rfl) rfl (by decide +kernel) (by decide +kernel) (fun v2 M1 => ?_)
  exact yL.eq (y_ireti (pc := 9) d71_9 mr_71) yL.rf
set_option maxRecDepth 20000 in
set_option maxHeartbeats 4000000 in
theorem e72 {a1 : Int32} {a2 : Int32} {M : yM} : yL (yCi true (yX 89 0 [some (.ref 7), some (.int 5), some (.int a1), some (.int a2), some (.int 0)] [] M 0 0) fun v2 M1 => yCi false (yX 15 0 [some (.ref 11), some (.int v2), none, none] [] M1 0 0) fun v4 M3 => yI v4 M3) (yX 72 0 [some (.ref 7), some (.int a1), some (.int a2)] [] M 0 0) := by
  refine yL.eq (y_aload_n (pc := 0) (x := 7) d72_0 rfl) ?_
  refine yL.eq (y_getr (pc := 1) (r := 11) d72_1 q72_27 s_r_7_2) ?_
  refine yL.eq (y_aload_n (pc := 4) (x := 7) d72_4 rfl) ?_
  refine yL.eq (y_iconst (pc := 5) (v := 5) d72_5 kc_5) ?_
  refine yL.eq (y_iload_n (pc := 6) (x := a1) d72_6 rfl) ?_
  refine yL.eq (y_iload_n (pc := 7) (x := a2) d72_7 rfl) ?_
  refine yL.eq (y_iconst (pc := 8) (v := 0) d72_8 kc_0) ?_
  refine y_callv_i (pc := 9) (n := 5) (n' := 5) (nc' := 3) (ns' := 18) [.int 5, .int a1, .int a2, .int 0] [.ref 11] true d72_9 q72_212 mk_89 s_t_7 rfl rfl (Nat.le_of_ble_eq_true rfl) (Nat.le_of_ble_eq_true rfl) rfl (by decide +kernel) (by decide +kernel) (fun v2 M1 => ?_)
  refine y_callv_i (pc := 12) (n := 2) (n' := 4) (nc' := 3) (ns' := 18) [.int v2] [] false d72_12 q72_99 mk_15 (yC_t yC11) rfl rfl (Nat.le_of_ble_eq_true rfl) (Nat.le_of_ble_eq_true rfl) rfl (by decide +kernel) (by decide +kernel) (fun v4 M3 => ?_)
  exact yL.eq (y_ireti (pc := 15) d72_15 mr_72) yL.rf
set_option maxRecDepth 20000 in
set_option maxHeartbeats 4000000 in
theorem e73 {a1 : Int32} {a2 : Int32} {a3 : Int32} {M : yM} : yL (yCi false (yX 98 0 [some (.int a3)] [] M 0 0) fun v2 M1 => yCi true (yX 89 0 [some (.ref 7), some (.int 1), some (.int a1), some (.int a2), some (.int v2)] [] M1 0 0) fun v4 M3 => yI v4 M3) (yX 73 0 [some (.ref 7), some (.int a1), some (.int a2), some (.int a3)] [] M 0 0) := by
  refine yL.eq (y_aload_n (pc := 0) (x := 7) d73_0 rfl) ?_
  refine yL.eq (y_iconst (pc := 1) (v := 1) d73_1 kc_1) ?_
  refine yL.eq (y_iload_n (pc := 2) (x := a1) d73_2 rfl) ?_
  refine yL.eq (y_iload_n (pc := 3) (x := a2) d73_3 rfl) ?_
  refine yL.eq (y_iload_n (pc := 4) (x := a3) d73_4 rfl) ?_
  refine y_calls_i (pc := 5) (n := 1) (n' := 1) (nc' := 0) (ns' := 0) [.int a3] [.int a2, .int a1, .int 1, .ref 7] false d73_5 q73_216 rfl rfl rfl (Nat.le_of_ble_eq_true rfl) (Nat.le_of_ble_eq_true rfl) rfl (by decide +kernel) (by decide +kernel) (fun v2 M1 => ?_)
  refine y_callv_i (pc := 8) (n := 5) (n' := 5) (nc' := 3) (ns' := 18) [.int 1, .int a1, .int a2, .int v2] [] true d73_8 q73_212 mk_89 s_t_7 rfl rfl (Nat.le_of_ble_eq_true rfl) (Nat.le_of_ble_eq_true rfl) rfl (by decide +kernel) (by decide +kernel) (fun v4 M3 => ?_)
  exact yL.eq (y_ireti (pc := 11) d73_11 mr_73) yL.rf
set_option maxRecDepth 20000 in
set_option maxHeartbeats 4000000 in
theorem e74 {a1 : Int32} {a2 : Int32} {M : yM} : yL (yCi true (yX 89 0 [some (.ref 7), some (.int 8), some (.int a1), some (.int a2), some (.int 0)] [] M 0 0) fun v2 M1 => yI v2 M1) (yX 74 0 [some (.ref 7), some (.int a1), some (.int a2)] [] M 0 0) := by
  refine yL.eq (y_aload_n (pc := 0) (x := 7) d74_0 rfl) ?_
  refine yL.eq (y_bipush (pc := 1) (v := 8) d74_1 kb_8) ?_
  refine yL.eq (y_iload_n (pc := 3) (x := a1) d74_3 rfl) ?_
  refine yL.eq (y_iload_n (pc := 4) (x := a2) d74_4 rfl) ?_
  refine yL.eq (y_iconst (pc := 5) (v := 0) d74_5 kc_0) ?_
  refine y_callv_i (pc := 6) (n := 5) (n' := 5) (nc' := 3) (ns' := 18) [.int 8, .int a1, .int a2, .int 0] [] true d74_6 q74_212 mk_89 s_t_7 rfl rfl (Nat.le_of_ble_eq_true rfl) (Nat.le_of_ble_eq_true rfl) rfl (by decide +kernel) (by decide +kernel) (fun v2 M1 => ?_)
  exact yL.eq (y_ireti (pc := 9) d74_9 mr_74) yL.rf
set_option maxRecDepth 20000 in
set_option maxHeartbeats 4000000 in
theorem e75 {a1 : Int32} {a2 : Int32} {a3 : Int32} {M : yM} : yL (yCi false (yX 98 0 [some (.int a3)] [] M 0 0) fun v2 M1 => yCi true (yX 89 0 [some (.ref 7), some (.int 2), some (.int a1), some (.int a2), some (.int v2)] [] M1 0 0) fun v4 M3 => yI v4 M3) (yX 75 0 [some (.ref 7), some (.int a1), some (.int a2), some (.int a3)] [] M 0 0) := by
  refine yL.eq (y_aload_n (pc := 0) (x := 7) d75_0 rfl) ?_
  refine yL.eq (y_iconst (pc := 1) (v := 2) d75_1 kc_2) ?_
  refine yL.eq (y_iload_n (pc := 2) (x := a1) d75_2 rfl) ?_
  refine yL.eq (y_iload_n (pc := 3) (x := a2) d75_3 rfl) ?_
  refine yL.eq (y_iload_n (pc := 4) (x := a3) d75_4 rfl) ?_
  refine y_calls_i (pc := 5) (n := 1) (n' := 1) (nc' := 0) (ns' := 0) [.int a3] [.int a2, .int a1, .int 2, .ref 7] false d75_5 q75_216 rfl rfl rfl (Nat.le_of_ble_eq_true rfl) (Nat.le_of_ble_eq_true rfl) rfl (by decide +kernel) (by decide +kernel) (fun v2 M1 => ?_)
  refine y_callv_i (pc := 8) (n := 5) (n' := 5) (nc' := 3) (ns' := 18) [.int 2, .int a1, .int a2, .int v2] [] true d75_8 q75_212 mk_89 s_t_7 rfl rfl (Nat.le_of_ble_eq_true rfl) (Nat.le_of_ble_eq_true rfl) rfl (by decide +kernel) (by decide +kernel) (fun v4 M3 => ?_)
  exact yL.eq (y_ireti (pc := 11) d75_11 mr_75) yL.rf
set_option maxRecDepth 20000 in
set_option maxHeartbeats 4000000 in
theorem e76 {a1 : Int32} {a2 : Int32} {a3 : Int32} {M : yM} : yL (yCi false (yX 98 0 [some (.int a3)] [] M 0 0) fun v2 M1 => yCi true (yX 89 0 [some (.ref 7), some (.int 3), some (.int a1), some (.int a2), some (.int v2)] [] M1 0 0) fun v4 M3 => yI v4 M3) (yX 76 0 [some (.ref 7), some (.int a1), some (.int a2), some (.int a3)] [] M 0 0) := by
  refine yL.eq (y_aload_n (pc := 0) (x := 7) d76_0 rfl) ?_
  refine yL.eq (y_iconst (pc := 1) (v := 3) d76_1 kc_3) ?_
  refine yL.eq (y_iload_n (pc := 2) (x := a1) d76_2 rfl) ?_
  refine yL.eq (y_iload_n (pc := 3) (x := a2) d76_3 rfl) ?_
  refine yL.eq (y_iload_n (pc := 4) (x := a3) d76_4 rfl) ?_
  refine y_calls_i (pc := 5) (n := 1) (n' := 1) (nc' := 0) (ns' := 0) [.int a3] [.int a2, .int a1, .int 3, .ref 7] false d76_5 q76_216 rfl rfl rfl (Nat.le_of_ble_eq_true rfl) (Nat.le_of_ble_eq_true rfl) rfl (by decide +kernel) (by decide +kernel) (fun v2 M1 => ?_)
  refine y_callv_i (pc := 8) (n := 5) (n' := 5) (nc' := 3) (ns' := 18) [.int 3, .int a1, .int a2, .int v2] [] true d76_8 q76_212 mk_89 s_t_7 rfl rfl (Nat.le_of_ble_eq_true rfl) (Nat.le_of_ble_eq_true rfl) rfl (by decide +kernel) (by decide +kernel) (fun v4 M3 => ?_)
  exact yL.eq (y_ireti (pc := 11) d76_11 mr_76) yL.rf
set_option maxRecDepth 20000 in
set_option maxHeartbeats 4000000 in
theorem e77 {a1 : Int32} {a2 : Int32} {M : yM} : yL (yCi true (yX 89 0 [some (.ref 7), some (.int 4), some (.int a1), some (.int a2), some (.int 0)] [] M 0 0) fun v2 M1 => yI v2 M1) (yX 77 0 [some (.ref 7), some (.int a1), some (.int a2)] [] M 0 0) := by
  refine yL.eq (y_aload_n (pc := 0) (x := 7) d77_0 rfl) ?_
  refine yL.eq (y_iconst (pc := 1) (v := 4) d77_1 kc_4) ?_
  refine yL.eq (y_iload_n (pc := 2) (x := a1) d77_2 rfl) ?_
  refine yL.eq (y_iload_n (pc := 3) (x := a2) d77_3 rfl) ?_
  refine yL.eq (y_iconst (pc := 4) (v := 0) d77_4 kc_0) ?_
  refine y_callv_i (pc := 5) (n := 5) (n' := 5) (nc' := 3) (ns' := 18) [.int 4, .int a1, .int a2, .int 0] [] true d77_5 q77_212 mk_89 s_t_7 rfl rfl (Nat.le_of_ble_eq_true rfl) (Nat.le_of_ble_eq_true rfl) rfl (by decide +kernel) (by decide +kernel) (fun v2 M1 => ?_)
  exact yL.eq (y_ireti (pc := 8) d77_8 mr_77) yL.rf
set_option maxRecDepth 20000 in
set_option maxHeartbeats 4000000 in
theorem e78 {a1 : Int32} {a2 : Int32} {M : yM} : yL (yCi true (yX 89 0 [some (.ref 7), some (.int 6), some (.int a1), some (.int a2), some (.int 0)] [] M 0 0) fun v2 M1 => yI v2 M1) (yX 78 0 [some (.ref 7), some (.int a1), some (.int a2)] [] M 0 0) := by
  refine yL.eq (y_aload_n (pc := 0) (x := 7) d78_0 rfl) ?_
  refine yL.eq (y_bipush (pc := 1) (v := 6) d78_1 kb_6) ?_
  refine yL.eq (y_iload_n (pc := 3) (x := a1) d78_3 rfl) ?_
  refine yL.eq (y_iload_n (pc := 4) (x := a2) d78_4 rfl) ?_
  refine yL.eq (y_iconst (pc := 5) (v := 0) d78_5 kc_0) ?_
  refine y_callv_i (pc := 6) (n := 5) (n' := 5) (nc' := 3) (ns' := 18) [.int 6, .int a1, .int a2, .int 0] [] true d78_6 q78_212 mk_89 s_t_7 rfl rfl (Nat.le_of_ble_eq_true rfl) (Nat.le_of_ble_eq_true rfl) rfl (by decide +kernel) (by decide +kernel) (fun v2 M1 => ?_)
  exact yL.eq (y_ireti (pc := 9) d78_9 mr_78) yL.rf
set_option maxRecDepth 20000 in
set_option maxHeartbeats 4000000 in
theorem e79  {M : yM} : yL (if (M 42 2) ≤ 0 then yCv true (yX 93 0 [some (.int 0)] [] M 0 0) fun M2 => yCi false (yX 37 0 [some (.ref 42), some (.ref 11)] [] M2 0 0) fun v4 M3 => yI v4 M3 else yCv true (yX 93 0 [some (.int 1)] [] M 0 0) fun M5 => yCi false (yX 37 0 [some (.ref 42), some (.ref 11)] [] M5 0 0) fun v7 M6 => yI v7 M6) (yX 79 0 [some (.ref 7)] [] M 0 0) := by
  refine yL.eq (y_aload_n (pc := 0) (x := 7) d79_0 rfl) ?_
  refine yL.eq (y_getr (pc := 1) (r := 42) d79_1 q79_39 s_r_7_5) ?_
  refine yL.eq (y_geti (pc := 4) d79_4 q79_220 s_i_42_2) ?_
  refine yL.eq (y_if_le (pc := 7) (t := 14) d79_7 (by decide)) ?_
  refine yL.ite (fun h1 => ?_) (fun h1 => ?_)
  ·
    refine yL.eq (y_iconst (pc := 14) (v := 0) d79_14 kc_0) ?_
    refine y_calls_v (pc := 15) (n := 1) (n' := 1) (nc' := 1) (ns' := 6) [.int 0] [] true d79_15 q79_66 rfl rfl rfl (Nat.le_of_ble_eq_true rfl) (Nat.le_of_ble_eq_true rfl) rfl (by decide +kernel) (by decide +kernel) (fun M2 => ?_)
    refine yL.eq (y_aload_n (pc := 18) (x := 7) d79_18 rfl) ?_
    refine yL.eq (y_getr (pc := 19) (r := 42) d79_19 q79_39 s_r_7_5) ?_
    refine yL.eq (y_aload_n (pc := 22) (x := 7) d79_22 rfl) ?_
    refine yL.eq (y_getr (pc := 23) (r := 11) d79_23 q79_27 s_r_7_2) ?_
    refine y_callv_i (pc := 26) (n := 2) (n' := 2) (nc' := 1) (ns' := 6) [.ref 11] [] false d79_26 q79_223 mk_37 s_t_42 rfl rfl (Nat.le_of_ble_eq_true rfl) (Nat.le_of_ble_eq_true rfl) rfl (by decide +kernel) (by decide +kernel) (fun v4 M3 => ?_)
    exact yL.eq (y_ireti (pc := 29) d79_29 mr_79) yL.rf
  ·
    refine yL.eq (y_iconst (pc := 10) (v := 1) d79_10 kc_1) ?_
    refine yL.eq (y_goto (pc := 11) (t := 15) d79_11 (by decide)) ?_
    refine y_calls_v (pc := 15) (n := 1) (n' := 1) (nc' := 1) (ns' := 6) [.int 1] [] true d79_15 q79_66 rfl rfl rfl (Nat.le_of_ble_eq_true rfl) (Nat.le_of_ble_eq_true rfl) rfl (by decide +kernel) (by decide +kernel) (fun M5 => ?_)
    refine yL.eq (y_aload_n (pc := 18) (x := 7) d79_18 rfl) ?_
    refine yL.eq (y_getr (pc := 19) (r := 42) d79_19 q79_39 s_r_7_5) ?_
    refine yL.eq (y_aload_n (pc := 22) (x := 7) d79_22 rfl) ?_
    refine yL.eq (y_getr (pc := 23) (r := 11) d79_23 q79_27 s_r_7_2) ?_
    refine y_callv_i (pc := 26) (n := 2) (n' := 2) (nc' := 1) (ns' := 6) [.ref 11] [] false d79_26 q79_223 mk_37 s_t_42 rfl rfl (Nat.le_of_ble_eq_true rfl) (Nat.le_of_ble_eq_true rfl) rfl (by decide +kernel) (by decide +kernel) (fun v7 M6 => ?_)
    exact yL.eq (y_ireti (pc := 29) d79_29 mr_79) yL.rf
set_option maxRecDepth 20000 in
set_option maxHeartbeats 4000000 in
theorem e80 {a1 : Int32} {a2 : Int32} {M : yM} : yL (yCi false (yX 95 0 [some (.int a1)] [] M 0 0) fun v2 M1 => yCv true (yX 91 0 [some (.int v2)] [] M1 0 0) fun M3 => yCi false (yX 94 0 [some (.int a2), some (.int 0), some (.int 1)] [] M3 0 0) fun v5 M4 => yCv true (yX 92 0 [some (.int v5)] [] M4 0 0) fun M6 => yCv false (yX 2 0 [some (.ref 27), some (.ref 11)] [] M6 0 0) fun M7 => if yinB a1 4 = true then if yinB a1 4 = true then yLet (yU M7 34 (yx a1) ((M7 34 (yx a1)) + 1)) fun M9 => yCv false (yX 45 0 [some (.ref 26), none, none] [] M9 0 0) fun M11 => if a2 = 0 then yI (M11 26 8) M11 else yI (M11 26 7) M11 else none else none) (yX 80 0 [some (.ref 7), some (.int a1), some (.int a2)] [] M 0 0) := by
  refine yL.eq (y_iload_n (pc := 0) (x := a1) d80_0 rfl) ?_
  refine y_calls_i (pc := 1) (n := 1) (n' := 1) (nc' := 0) (ns' := 0) [.int a1] [] false d80_1 q80_197 rfl rfl rfl (Nat.le_of_ble_eq_true rfl) (Nat.le_of_ble_eq_true rfl) rfl (by decide +kernel) (by decide +kernel) (fun v2 M1 => ?_)
  refine y_calls_v (pc := 4) (n := 1) (n' := 1) (nc' := 1) (ns' := 6) [.int v2] [] true d80_4 q80_126 rfl rfl rfl (Nat.le_of_ble_eq_true rfl) (Nat.le_of_ble_eq_true rfl) rfl (by decide +kernel) (by decide +kernel) (fun M3 => ?_)
  refine yL.eq (y_iload_n (pc := 7) (x := a2) d80_7 rfl) ?_
  refine yL.eq (y_iconst (pc := 8) (v := 0) d80_8 kc_0) ?_
  refine yL.eq (y_iconst (pc := 9) (v := 1) d80_9 kc_1) ?_
  refine y_calls_i (pc := 10) (n := 3) (n' := 3) (nc' := 1) (ns' := 6) [.int a2, .int 0, .int 1] [] false d80_10 q80_54 rfl rfl rfl (Nat.le_of_ble_eq_true rfl) (Nat.le_of_ble_eq_true rfl) rfl (by decide +kernel) (by decide +kernel) (fun v5 M4 => ?_)
  refine y_calls_v (pc := 13) (n := 1) (n' := 1) (nc' := 2) (ns' := 12) [.int v5] [] true d80_13 q80_58 rfl rfl rfl (Nat.le_of_ble_eq_true rfl) (Nat.le_of_ble_eq_true rfl) rfl (by decide +kernel) (by decide +kernel) (fun M6 => ?_)
  refine yL.eq (y_aload_n (pc := 16) (x := 7) d80_16 rfl) ?_
  refine yL.eq (y_getr (pc := 17) (r := 27) d80_17 q80_33 s_r_7_4) ?_
  refine yL.eq (y_aload_n (pc := 20) (x := 7) d80_20 rfl) ?_
  refine yL.eq (y_getr (pc := 21) (r := 11) d80_21 q80_27 s_r_7_2) ?_
  refine y_callv_v (pc := 24) (n := 2) (n' := 2) (nc' := 2) (ns' := 12) [.ref 11] [] false d80_24 q80_77 mk_2 (yC_t yC27) rfl rfl (Nat.le_of_ble_eq_true rfl) (Nat.le_of_ble_eq_true rfl) rfl (by decide +kernel) (by decide +kernel) (fun M7 => ?_)
  refine yL.eq (y_aload_n (pc := 27) (x := 7) d80_27 rfl) ?_
  refine yL.eq (y_getr (pc := 28) (r := 27) d80_28 q80_33 s_r_7_4) ?_
  refine yL.eq (y_getr (pc := 31) (r := 34) d80_31 q80_200 (((((((yC_r yC27)).2).2).2).2).2).2.1) ?_
  refine yL.eq (y_iload_n (pc := 34) (x := a1) d80_34 rfl) ?_
  refine yL.eq (y_dup2 (pc := 35) d80_35 rfl) ?_
  refine yL.eq (y_iald (pc := 36) (n := 4) d80_36 (((((((yC_a yC27)).2).2).2).2).2).2.1) ?_
  refine yL.gd (fun h8 => ?_)
  refine yL.eq (y_iconst (pc := 37) (v := 1) d80_37 kc_1) ?_
  refine yL.eq (y_iadd (pc := 38) d80_38) ?_
  refine y_iastL (pc := 39) (n := 4) d80_39 (((((((yC_a yC27)).2).2).2).2).2).2.1 (fun h10 M9 => ?_)
  refine yL.eq (y_aload_n (pc := 40) (x := 7) d80_40 rfl) ?_
  refine yL.eq (y_getr (pc := 41) (r := 26) d80_41 q80_30 s_r_7_3) ?_
  refine y_callv_v (pc := 44) (n := 1) (n' := 3) (nc' := 2) (ns' := 12) [] [] false d80_44 q80_103 mk_45 (yP_t yP26) rfl rfl (Nat.le_of_ble_eq_true rfl) (Nat.le_of_ble_eq_true rfl) rfl (by decide +kernel) (by decide +kernel) (fun M11 => ?_)
  refine yL.eq (y_iload_n (pc := 47) (x := a2) d80_47 rfl) ?_
  refine yL.eq (y_if_ne (pc := 48) (t := 61) d80_48 (by decide)) ?_
  refine yL.ite (fun h12 => ?_) (fun h12 => ?_)
  ·
    refine yL.eq (y_aload_n (pc := 51) (x := 7) d80_51 rfl) ?_
    refine yL.eq (y_getr (pc := 52) (r := 26) d80_52 q80_30 s_r_7_3) ?_
    refine yL.eq (y_geti (pc := 55) d80_55 q80_106 (((yP_i yP26)).2).2.1) ?_
    refine yL.eq (y_goto (pc := 58) (t := 68) d80_58 (by decide)) ?_
    exact yL.eq (y_ireti (pc := 68) d80_68 mr_80) yL.rf
  ·
    refine yL.eq (y_aload_n (pc := 61) (x := 7) d80_61 rfl) ?_
    refine yL.eq (y_getr (pc := 62) (r := 26) d80_62 q80_30 s_r_7_3) ?_
    refine yL.eq (y_geti (pc := 65) d80_65 q80_109 ((yP_i yP26)).2.1) ?_
    exact yL.eq (y_ireti (pc := 68) d80_68 mr_80) yL.rf
set_option maxRecDepth 20000 in
set_option maxHeartbeats 4000000 in
theorem e81 {a1 : Int32} {a2 : Int32} {M : yM} : yL (yCi false (yX 94 0 [some (.int a1), some (.int 1), some (.int 24)] [] M 0 0) fun v2 M1 => if v2 = 0 then yCv true (yX 92 0 [some (.int 0)] [] M1 0 0) fun M4 => if a2 = 0 then yCi false (yX 15 0 [some (.ref 11), some (.int a1), none, none] [] M4 0 0) fun v7 M6 => yI v7 M6 else yCi false (yX 16 0 [some (.ref 11), some (.int a1), none, none] [] M4 0 0) fun v9 M8 => yI v9 M8 else yCi false (yX 94 0 [some (.int a2), some (.int 0), some (.int 1)] [] M1 0 0) fun v11 M10 => if v11 = 0 then yCv true (yX 92 0 [some (.int 0)] [] M10 0 0) fun M13 => if a2 = 0 then yCi false (yX 15 0 [some (.ref 11), some (.int a1), none, none] [] M13 0 0) fun v16 M15 => yI v16 M15 else yCi false (yX 16 0 [some (.ref 11), some (.int a1), none, none] [] M13 0 0) fun v18 M17 => yI v18 M17 else yCv true (yX 92 0 [some (.int 1)] [] M10 0 0) fun M19 => if a2 = 0 then yCi false (yX 15 0 [some (.ref 11), some (.int a1), none, none] [] M19 0 0) fun v22 M21 => yI v22 M21 else yCi false (yX 16 0 [some (.ref 11), some (.int a1), none, none] [] M19 0 0) fun v24 M23 => yI v24 M23) (yX 81 0 [some (.ref 7), some (.int a1), some (.int a2)] [] M 0 0) := by
  refine yL.eq (y_iload_n (pc := 0) (x := a1) d81_0 rfl) ?_
  refine yL.eq (y_iconst (pc := 1) (v := 1) d81_1 kc_1) ?_
  refine yL.eq (y_bipush (pc := 2) (v := 24) d81_2 kb_24) ?_
  refine y_calls_i (pc := 4) (n := 3) (n' := 3) (nc' := 0) (ns' := 0) [.int a1, .int 1, .int 24] [] false d81_4 q81_54 rfl rfl rfl (Nat.le_of_ble_eq_true rfl) (Nat.le_of_ble_eq_true rfl) rfl (by decide +kernel) (by decide +kernel) (fun v2 M1 => ?_)
  refine yL.eq (y_if_eq (pc := 7) (t := 23) d81_7 (by decide)) ?_
  refine yL.ite (fun h3 => ?_) (fun h3 => ?_)
  ·
    refine yL.eq (y_iconst (pc := 23) (v := 0) d81_23 kc_0) ?_
    refine y_calls_v (pc := 24) (n := 1) (n' := 1) (nc' := 1) (ns' := 6) [.int 0] [] true d81_24 q81_58 rfl rfl rfl (Nat.le_of_ble_eq_true rfl) (Nat.le_of_ble_eq_true rfl) rfl (by decide +kernel) (by decide +kernel) (fun M4 => ?_)
    refine yL.eq (y_iload_n (pc := 27) (x := a2) d81_27 rfl) ?_
    refine yL.eq (y_if_ne (pc := 28) (t := 42) d81_28 (by decide)) ?_
    refine yL.ite (fun h5 => ?_) (fun h5 => ?_)
    ·
      refine yL.eq (y_aload_n (pc := 31) (x := 7) d81_31 rfl) ?_
      refine yL.eq (y_getr (pc := 32) (r := 11) d81_32 q81_27 s_r_7_2) ?_
      refine yL.eq (y_iload_n (pc := 35) (x := a1) d81_35 rfl) ?_
      refine y_callv_i (pc := 36) (n := 2) (n' := 4) (nc' := 1) (ns' := 6) [.int a1] [] false d81_36 q81_99 mk_15 (yC_t yC11) rfl rfl (Nat.le_of_ble_eq_true rfl) (Nat.le_of_ble_eq_true rfl) rfl (by decide +kernel) (by decide +kernel) (fun v7 M6 => ?_)
      refine yL.eq (y_goto (pc := 39) (t := 50) d81_39 (by decide)) ?_
      exact yL.eq (y_ireti (pc := 50) d81_50 mr_81) yL.rf
    ·
      refine yL.eq (y_aload_n (pc := 42) (x := 7) d81_42 rfl) ?_
      refine yL.eq (y_getr (pc := 43) (r := 11) d81_43 q81_27 s_r_7_2) ?_
      refine yL.eq (y_iload_n (pc := 46) (x := a1) d81_46 rfl) ?_
      refine y_callv_i (pc := 47) (n := 2) (n' := 4) (nc' := 1) (ns' := 6) [.int a1] [] false d81_47 q81_226 mk_16 (yC_t yC11) rfl rfl (Nat.le_of_ble_eq_true rfl) (Nat.le_of_ble_eq_true rfl) rfl (by decide +kernel) (by decide +kernel) (fun v9 M8 => ?_)
      exact yL.eq (y_ireti (pc := 50) d81_50 mr_81) yL.rf
  ·
    refine yL.eq (y_iload_n (pc := 10) (x := a2) d81_10 rfl) ?_
    refine yL.eq (y_iconst (pc := 11) (v := 0) d81_11 kc_0) ?_
    refine yL.eq (y_iconst (pc := 12) (v := 1) d81_12 kc_1) ?_
    refine y_calls_i (pc := 13) (n := 3) (n' := 3) (nc' := 0) (ns' := 0) [.int a2, .int 0, .int 1] [] false d81_13 q81_54 rfl rfl rfl (Nat.le_of_ble_eq_true rfl) (Nat.le_of_ble_eq_true rfl) rfl (by decide +kernel) (by decide +kernel) (fun v11 M10 => ?_)
    refine yL.eq (y_if_eq (pc := 16) (t := 23) d81_16 (by decide)) ?_
    refine yL.ite (fun h12 => ?_) (fun h12 => ?_)
    ·
      refine yL.eq (y_iconst (pc := 23) (v := 0) d81_23 kc_0) ?_
      refine y_calls_v (pc := 24) (n := 1) (n' := 1) (nc' := 1) (ns' := 6) [.int 0] [] true d81_24 q81_58 rfl rfl rfl (Nat.le_of_ble_eq_true rfl) (Nat.le_of_ble_eq_true rfl) rfl (by decide +kernel) (by decide +kernel) (fun M13 => ?_)
      refine yL.eq (y_iload_n (pc := 27) (x := a2) d81_27 rfl) ?_
      refine yL.eq (y_if_ne (pc := 28) (t := 42) d81_28 (by decide)) ?_
      refine yL.ite (fun h14 => ?_) (fun h14 => ?_)
      ·
        refine yL.eq (y_aload_n (pc := 31) (x := 7) d81_31 rfl) ?_
        refine yL.eq (y_getr (pc := 32) (r := 11) d81_32 q81_27 s_r_7_2) ?_
        refine yL.eq (y_iload_n (pc := 35) (x := a1) d81_35 rfl) ?_
        refine y_callv_i (pc := 36) (n := 2) (n' := 4) (nc' := 1) (ns' := 6) [.int a1] [] false d81_36 q81_99 mk_15 (yC_t yC11) rfl rfl (Nat.le_of_ble_eq_true rfl) (Nat.le_of_ble_eq_true rfl) rfl (by decide +kernel) (by decide +kernel) (fun v16 M15 => ?_)
        refine yL.eq (y_goto (pc := 39) (t := 50) d81_39 (by decide)) ?_
        exact yL.eq (y_ireti (pc := 50) d81_50 mr_81) yL.rf
      ·
        refine yL.eq (y_aload_n (pc := 42) (x := 7) d81_42 rfl) ?_
        refine yL.eq (y_getr (pc := 43) (r := 11) d81_43 q81_27 s_r_7_2) ?_
        refine yL.eq (y_iload_n (pc := 46) (x := a1) d81_46 rfl) ?_
        refine y_callv_i (pc := 47) (n := 2) (n' := 4) (nc' := 1) (ns' := 6) [.int a1] [] false d81_47 q81_226 mk_16 (yC_t yC11) rfl rfl (Nat.le_of_ble_eq_true rfl) (Nat.le_of_ble_eq_true rfl) rfl (by decide +kernel) (by decide +kernel) (fun v18 M17 => ?_)
        exact yL.eq (y_ireti (pc := 50) d81_50 mr_81) yL.rf
    ·
      refine yL.eq (y_iconst (pc := 19) (v := 1) d81_19 kc_1) ?_
      refine yL.eq (y_goto (pc := 20) (t := 24) d81_20 (by decide)) ?_
      refine y_calls_v (pc := 24) (n := 1) (n' := 1) (nc' := 1) (ns' := 6) [.int 1] [] true d81_24 q81_58 rfl rfl rfl (Nat.le_of_ble_eq_true rfl) (Nat.le_of_ble_eq_true rfl) rfl (by decide +kernel) (by decide +kernel) (fun M19 => ?_)
      refine yL.eq (y_iload_n (pc := 27) (x := a2) d81_27 rfl) ?_
      refine yL.eq (y_if_ne (pc := 28) (t := 42) d81_28 (by decide)) ?_
      refine yL.ite (fun h20 => ?_) (fun h20 => ?_)
      ·
        refine yL.eq (y_aload_n (pc := 31) (x := 7) d81_31 rfl) ?_
        refine yL.eq (y_getr (pc := 32) (r := 11) d81_32 q81_27 s_r_7_2) ?_
        refine yL.eq (y_iload_n (pc := 35) (x := a1) d81_35 rfl) ?_
        refine y_callv_i (pc := 36) (n := 2) (n' := 4) (nc' := 1) (ns' := 6) [.int a1] [] false d81_36 q81_99 mk_15 (yC_t yC11) rfl rfl (Nat.le_of_ble_eq_true rfl) (Nat.le_of_ble_eq_true rfl) rfl (by decide +kernel) (by decide +kernel) (fun v22 M21 => ?_)
        refine yL.eq (y_goto (pc := 39) (t := 50) d81_39 (by decide)) ?_
        exact yL.eq (y_ireti (pc := 50) d81_50 mr_81) yL.rf
      ·
        refine yL.eq (y_aload_n (pc := 42) (x := 7) d81_42 rfl) ?_
        refine yL.eq (y_getr (pc := 43) (r := 11) d81_43 q81_27 s_r_7_2) ?_
        refine yL.eq (y_iload_n (pc := 46) (x := a1) d81_46 rfl) ?_
        refine y_callv_i (pc := 47) (n := 2) (n' := 4) (nc' := 1) (ns' := 6) [.int a1] [] false d81_47 q81_226 mk_16 (yC_t yC11) rfl rfl (Nat.le_of_ble_eq_true rfl) (Nat.le_of_ble_eq_true rfl) rfl (by decide +kernel) (by decide +kernel) (fun v24 M23 => ?_)
        exact yL.eq (y_ireti (pc := 50) d81_50 mr_81) yL.rf
set_option maxRecDepth 20000 in
set_option maxHeartbeats 4000000 in
theorem e82 {a1 : Int32} {M : yM} : yL (yCi false (yX 4 0 [some (.ref 11), some (.int a1)] [] M 0 0) fun v2 M1 => yCv true (yX 91 0 [some (.int v2)] [] M1 0 0) fun M3 => yCv false (yX 45 0 [some (.ref 10), none, none] [] M3 0 0) fun M4 => if yinB a1 14 = true then if (M4 20 (yx a1)) = (-1) then yI (-1) M4 else yCv false (yX 2 0 [some (.ref 27), some (.ref 11)] [] M4 0 0) fun M7 => yX 82 46 [some (.ref 7), some (.int a1), some (.int 1)] [] M7 1 6 else none) (yX 82 0 [some (.ref 7), some (.int a1), none] [] M 0 0) := by
  refine yL.eq (y_aload_n (pc := 0) (x := 7) d82_0 rfl) ?_
  refine yL.eq (y_getr (pc := 1) (r := 11) d82_1 q82_27 s_r_7_2) ?_
  refine yL.eq (y_iload_n (pc := 4) (x := a1) d82_4 rfl) ?_
  refine y_callv_i (pc := 5) (n := 2) (n' := 2) (nc' := 0) (ns' := 0) [.int a1] [] false d82_5 q82_150 mk_4 (yC_t yC11) rfl rfl (Nat.le_of_ble_eq_true rfl) (Nat.le_of_ble_eq_true rfl) rfl (by decide +kernel) (by decide +kernel) (fun v2 M1 => ?_)
  refine y_calls_v (pc := 8) (n := 1) (n' := 1) (nc' := 1) (ns' := 6) [.int v2] [] true d82_8 q82_126 rfl rfl rfl (Nat.le_of_ble_eq_true rfl) (Nat.le_of_ble_eq_true rfl) rfl (by decide +kernel) (by decide +kernel) (fun M3 => ?_)
  refine yL.eq (y_aload_n (pc := 11) (x := 7) d82_11 rfl) ?_
  refine yL.eq (y_getr (pc := 12) (r := 10) d82_12 q82_19 s_r_7_1) ?_
  refine y_callv_v (pc := 15) (n := 1) (n' := 3) (nc' := 1) (ns' := 6) [] [] false d82_15 q82_103 mk_45 (yP_t yP10) rfl rfl (Nat.le_of_ble_eq_true rfl) (Nat.le_of_ble_eq_true rfl) rfl (by decide +kernel) (by decide +kernel) (fun M4 => ?_)
  refine yL.eq (y_aload_n (pc := 18) (x := 7) d82_18 rfl) ?_
  refine yL.eq (y_getr (pc := 19) (r := 10) d82_19 q82_19 s_r_7_1) ?_
  refine yL.eq (y_getr (pc := 22) (r := 20) d82_22 q82_177 ((yP_r yP10)).2.1) ?_
  refine yL.eq (y_iload_n (pc := 25) (x := a1) d82_25 rfl) ?_
  refine yL.eq (y_iald (pc := 26) (n := 14) d82_26 (yP_a yP10).1) ?_
  refine yL.gd (fun h5 => ?_)
  refine yL.eq (y_iconst (pc := 27) (v := (-1)) d82_27 kc_m1) ?_
  refine yL.eq (y_icmp_ne (pc := 28) (t := 33) d82_28 (by decide)) ?_
  refine yL.ite (fun h6 => ?_) (fun h6 => ?_)
  ·
    refine yL.eq (y_iconst (pc := 31) (v := (-1)) d82_31 kc_m1) ?_
    exact yL.eq (y_ireti (pc := 32) d82_32 mr_82) yL.rf
  ·
    refine yL.eq (y_aload_n (pc := 33) (x := 7) d82_33 rfl) ?_
    refine yL.eq (y_getr (pc := 34) (r := 27) d82_34 q82_33 s_r_7_4) ?_
    refine yL.eq (y_aload_n (pc := 37) (x := 7) d82_37 rfl) ?_
    refine yL.eq (y_getr (pc := 38) (r := 11) d82_38 q82_27 s_r_7_2) ?_
    refine y_callv_v (pc := 41) (n := 2) (n' := 2) (nc' := 1) (ns' := 6) [.ref 11] [] false d82_41 q82_77 mk_2 (yC_t yC27) rfl rfl (Nat.le_of_ble_eq_true rfl) (Nat.le_of_ble_eq_true rfl) rfl (by decide +kernel) (by decide +kernel) (fun M7 => ?_)
    refine yL.eq (y_iconst (pc := 44) (v := 1) d82_44 kc_1) ?_
    refine yL.eq (y_istore_n (pc := 45) (ls' := [some (.ref 7), some (.int a1), some (.int 1)]) d82_45 rfl rfl) ?_
    exact yL.rf
set_option maxRecDepth 20000 in
set_option maxHeartbeats 4000000 in
theorem e82_46 {x1 : Int32} {x2 : Int32} {M : yM} : yL (if x2 ≤ 60 then if yinB x1 14 = true then if yinB x1 14 = true then yLet (yU M 29 (yx x1) ((M 29 (yx x1)) + 1)) fun M3 => yCv false (yX 45 0 [some (.ref 26), none, none] [] M3 0 0) fun M5 => if (M5 26 8) ≤ (M5 10 8) then yX 82 46 [some (.ref 7), some (.int x1), some (.int (x2 + 1))] [] M5 1 6 else yI (x2 - 1) M5 else none else none else yI 60 M) (yX 82 46 [some (.ref 7), some (.int x1), some (.int x2)] [] M 1 6) := by
  refine yL.eq (y_iload_n (pc := 46) (x := x2) d82_46 rfl) ?_
  refine yL.eq (y_bipush (pc := 47) (v := 60) d82_47 kb_60) ?_
  refine yL.eq (y_icmp_gt (pc := 49) (t := 99) d82_49 (by decide)) ?_
  refine yL.ite (fun h1 => ?_) (fun h1 => ?_)
  ·
    refine yL.eq (y_aload_n (pc := 52) (x := 7) d82_52 rfl) ?_
    refine yL.eq (y_getr (pc := 53) (r := 27) d82_53 q82_33 s_r_7_4) ?_
    refine yL.eq (y_getr (pc := 56) (r := 29) d82_56 q82_153 ((yC_r yC27)).2.1) ?_
    refine yL.eq (y_iload_n (pc := 59) (x := x1) d82_59 rfl) ?_
    refine yL.eq (y_dup2 (pc := 60) d82_60 rfl) ?_
    refine yL.eq (y_iald (pc := 61) (n := 14) d82_61 ((yC_a yC27)).2.1) ?_
    refine yL.gd (fun h2 => ?_)
    refine yL.eq (y_iconst (pc := 62) (v := 1) d82_62 kc_1) ?_
    refine yL.eq (y_iadd (pc := 63) d82_63) ?_
    refine y_iastL (pc := 64) (n := 14) d82_64 ((yC_a yC27)).2.1 (fun h4 M3 => ?_)
    refine yL.eq (y_aload_n (pc := 65) (x := 7) d82_65 rfl) ?_
    refine yL.eq (y_getr (pc := 66) (r := 26) d82_66 q82_30 s_r_7_3) ?_
    refine y_callv_v (pc := 69) (n := 1) (n' := 3) (nc' := 1) (ns' := 6) [] [] false d82_69 q82_103 mk_45 (yP_t yP26) rfl rfl (Nat.le_of_ble_eq_true rfl) (Nat.le_of_ble_eq_true rfl) rfl (by decide +kernel) (by decide +kernel) (fun M5 => ?_)
    refine yL.eq (y_aload_n (pc := 72) (x := 7) d82_72 rfl) ?_
    refine yL.eq (y_getr (pc := 73) (r := 26) d82_73 q82_30 s_r_7_3) ?_
    refine yL.eq (y_geti (pc := 76) d82_76 q82_106 (((yP_i yP26)).2).2.1) ?_
    refine yL.eq (y_aload_n (pc := 79) (x := 7) d82_79 rfl) ?_
    refine yL.eq (y_getr (pc := 80) (r := 10) d82_80 q82_19 s_r_7_1) ?_
    refine yL.eq (y_geti (pc := 83) d82_83 q82_106 (((yP_i yP10)).2).2.1) ?_
    refine yL.eq (y_icmp_le (pc := 86) (t := 93) d82_86 (by decide)) ?_
    refine yL.ite (fun h6 => ?_) (fun h6 => ?_)
    ·
      refine yL.eq (y_iinc (pc := 93) (v := 1) (x := x2) (ls' := [some (.ref 7), some (.int x1), some (.int (x2 + 1))]) d82_93 kc_1 rfl (Nat.le_of_ble_eq_true rfl) rfl) ?_
      refine yL.eq (y_goto (pc := 96) (t := 46) d82_96 (by decide)) ?_
      exact yL.rf
    ·
      refine yL.eq (y_iload_n (pc := 89) (x := x2) d82_89 rfl) ?_
      refine yL.eq (y_iconst (pc := 90) (v := 1) d82_90 kc_1) ?_
      refine yL.eq (y_isub (pc := 91) d82_91) ?_
      exact yL.eq (y_ireti (pc := 92) d82_92 mr_82) yL.rf
  ·
    refine yL.eq (y_bipush (pc := 99) (v := 60) d82_99 kb_60) ?_
    exact yL.eq (y_ireti (pc := 101) d82_101 mr_82) yL.rf
set_option maxRecDepth 20000 in
set_option maxHeartbeats 4000000 in
theorem e83  {M : yM} : yL (yCv false (yX 2 0 [some (.ref 27), some (.ref 11)] [] M 0 0) fun M1 => yX 83 20 [some (.ref 7), some (.int (-1)), some (.int 0), some (.int 0), some (.int 0), none, none, none] [] M1 0 0) (yX 83 0 [some (.ref 7), none, none, none, none, none, none, none] [] M 0 0) := by
  refine yL.eq (y_aload_n (pc := 0) (x := 7) d83_0 rfl) ?_
  refine yL.eq (y_getr (pc := 1) (r := 27) d83_1 q83_33 s_r_7_4) ?_
  refine yL.eq (y_aload_n (pc := 4) (x := 7) d83_4 rfl) ?_
  refine yL.eq (y_getr (pc := 5) (r := 11) d83_5 q83_27 s_r_7_2) ?_
  refine y_callv_v (pc := 8) (n := 2) (n' := 2) (nc' := 0) (ns' := 0) [.ref 11] [] false d83_8 q83_77 mk_2 (yC_t yC27) rfl rfl (Nat.le_of_ble_eq_true rfl) (Nat.le_of_ble_eq_true rfl) rfl (by decide +kernel) (by decide +kernel) (fun M1 => ?_)
  refine yL.eq (y_iconst (pc := 11) (v := (-1)) d83_11 kc_m1) ?_
  refine yL.eq (y_istore_n (pc := 12) (ls' := [some (.ref 7), some (.int (-1)), none, none, none, none, none, none]) d83_12 rfl rfl) ?_
  refine yL.eq (y_iconst (pc := 13) (v := 0) d83_13 kc_0) ?_
  refine yL.eq (y_istore_n (pc := 14) (ls' := [some (.ref 7), some (.int (-1)), some (.int 0), none, none, none, none, none]) d83_14 rfl rfl) ?_
  refine yL.eq (y_iconst (pc := 15) (v := 0) d83_15 kc_0) ?_
  refine yL.eq (y_istore_n (pc := 16) (ls' := [some (.ref 7), some (.int (-1)), some (.int 0), some (.int 0), none, none, none, none]) d83_16 rfl rfl) ?_
  refine yL.eq (y_iconst (pc := 17) (v := 0) d83_17 kc_0) ?_
  refine yL.eq (y_istore (pc := 18) (ls' := [some (.ref 7), some (.int (-1)), some (.int 0), some (.int 0), some (.int 0), none, none, none]) d83_18 rfl rfl) ?_
  exact yL.rf
set_option maxRecDepth 20000 in
set_option maxHeartbeats 4000000 in
theorem e83_20 {x1 : Int32} {x2 : Int32} {x3 : Int32} {x4 : Int32} {o5 : Option Value} {o6 : Option Value} {o7 : Option Value} {M : yM} : yL (if x4 < 4 then if yinB 4 5 = true then yLet (yU M 35 (yx 4) x4) fun M2 => yCv false (yX 45 0 [some (.ref 26), none, none] [] M2 0 0) fun M4 => if (M4 26 7) < x2 then yX 83 80 [some (.ref 7), some (.int x1), some (.int x2), some (.int x3), some (.int x4), some (.int (M4 26 7)), some (.int (M4 26 8)), o7] [] M4 0 0 else if (M4 26 7) = x2 then if (M4 26 8) < x3 then yX 83 80 [some (.ref 7), some (.int x1), some (.int x2), some (.int x3), some (.int x4), some (.int (M4 26 7)), some (.int (M4 26 8)), o7] [] M4 0 0 else yX 83 84 [some (.ref 7), some (.int x1), some (.int x2), some (.int x3), some (.int x4), some (.int (M4 26 7)), some (.int (M4 26 8)), o7] [] M4 0 0 else yX 83 84 [some (.ref 7), some (.int x1), some (.int x2), some (.int x3), some (.int x4), some (.int (M4 26 7)), some (.int (M4 26 8)), o7] [] M4 0 0 else none else yI x1 M) (yX 83 20 [some (.ref 7), some (.int x1), some (.int x2), some (.int x3), some (.int x4), o5, o6, o7] [] M 0 0) := by
  refine yL.eq (y_iload (pc := 20) (x := x4) d83_20 rfl) ?_
  refine yL.eq (y_iconst (pc := 22) (v := 4) d83_22 kc_4) ?_
  refine yL.eq (y_icmp_ge (pc := 23) (t := 112) d83_23 (by decide)) ?_
  refine yL.ite (fun h1 => ?_) (fun h1 => ?_)
  ·
    refine yL.eq (y_aload_n (pc := 26) (x := 7) d83_26 rfl) ?_
    refine yL.eq (y_getr (pc := 27) (r := 27) d83_27 q83_33 s_r_7_4) ?_
    refine yL.eq (y_getr (pc := 30) (r := 35) d83_30 q83_206 ((((((((yC_r yC27)).2).2).2).2).2).2).2) ?_
    refine yL.eq (y_iconst (pc := 33) (v := 4) d83_33 kc_4) ?_
    refine yL.eq (y_iload (pc := 34) (x := x4) d83_34 rfl) ?_
    refine y_iastL (pc := 36) (n := 5) d83_36 ((((((((yC_a yC27)).2).2).2).2).2).2).2 (fun h3 M2 => ?_)
    refine yL.eq (y_aload_n (pc := 37) (x := 7) d83_37 rfl) ?_
    refine yL.eq (y_getr (pc := 38) (r := 26) d83_38 q83_30 s_r_7_3) ?_
    refine y_callv_v (pc := 41) (n := 1) (n' := 3) (nc' := 0) (ns' := 0) [] [] false d83_41 q83_103 mk_45 (yP_t yP26) rfl rfl (Nat.le_of_ble_eq_true rfl) (Nat.le_of_ble_eq_true rfl) rfl (by decide +kernel) (by decide +kernel) (fun M4 => ?_)
    refine yL.eq (y_aload_n (pc := 44) (x := 7) d83_44 rfl) ?_
    refine yL.eq (y_getr (pc := 45) (r := 26) d83_45 q83_30 s_r_7_3) ?_
    refine yL.eq (y_geti (pc := 48) d83_48 q83_109 ((yP_i yP26)).2.1) ?_
    refine yL.eq (y_istore (pc := 51) (ls' := [some (.ref 7), some (.int x1), some (.int x2), some (.int x3), some (.int x4), some (.int (M4 26 7)), o6, o7]) d83_51 rfl rfl) ?_
    refine yL.eq (y_aload_n (pc := 53) (x := 7) d83_53 rfl) ?_
    refine yL.eq (y_getr (pc := 54) (r := 26) d83_54 q83_30 s_r_7_3) ?_
    refine yL.eq (y_geti (pc := 57) d83_57 q83_106 (((yP_i yP26)).2).2.1) ?_
    refine yL.eq (y_istore (pc := 60) (ls' := [some (.ref 7), some (.int x1), some (.int x2), some (.int x3), some (.int x4), some (.int (M4 26 7)), some (.int (M4 26 8)), o7]) d83_60 rfl rfl) ?_
    refine yL.eq (y_iload (pc := 62) (x := (M4 26 7)) d83_62 rfl) ?_
    refine yL.eq (y_iload_n (pc := 64) (x := x2) d83_64 rfl) ?_
    refine yL.eq (y_icmp_lt (pc := 65) (t := 80) d83_65 (by decide)) ?_
    refine yL.ite (fun h5 => ?_) (fun h5 => ?_)
    ·
      exact yL.rf
    ·
      refine yL.eq (y_iload (pc := 68) (x := (M4 26 7)) d83_68 rfl) ?_
      refine yL.eq (y_iload_n (pc := 70) (x := x2) d83_70 rfl) ?_
      refine yL.eq (y_icmp_ne (pc := 71) (t := 84) d83_71 (by decide)) ?_
      refine yL.ite (fun h6 => ?_) (fun h6 => ?_)
      ·
        refine yL.eq (y_iload (pc := 74) (x := (M4 26 8)) d83_74 rfl) ?_
        refine yL.eq (y_iload_n (pc := 76) (x := x3) d83_76 rfl) ?_
        refine yL.eq (y_icmp_ge (pc := 77) (t := 84) d83_77 (by decide)) ?_
        refine yL.ite (fun h7 => ?_) (fun h7 => ?_)
        ·
          exact yL.rf
        ·
          exact yL.rf
      ·
        exact yL.rf
  ·
    refine yL.eq (y_iload_n (pc := 112) (x := x1) d83_112 rfl) ?_
    exact yL.eq (y_ireti (pc := 113) d83_113 mr_83) yL.rf
set_option maxRecDepth 20000 in
set_option maxHeartbeats 4000000 in
theorem e83_80 {x1 : Int32} {x2 : Int32} {x3 : Int32} {x4 : Int32} {x5 : Int32} {x6 : Int32} {o7 : Option Value} {M : yM} : yL (if x1 = (-1) then yX 83 20 [some (.ref 7), some (.int x4), some (.int x5), some (.int x6), some (.int (x4 + 1)), some (.int x5), some (.int x6), some (.int 1)] [] M 0 0 else yX 83 20 [some (.ref 7), some (.int x4), some (.int x5), some (.int x6), some (.int (x4 + 1)), some (.int x5), some (.int x6), some (.int 1)] [] M 0 0) (yX 83 80 [some (.ref 7), some (.int x1), some (.int x2), some (.int x3), some (.int x4), some (.int x5), some (.int x6), o7] [] M 0 0) := by
  refine yL.eq (y_iconst (pc := 80) (v := 1) d83_80 kc_1) ?_
  refine yL.eq (y_goto (pc := 81) (t := 85) d83_81 (by decide)) ?_
  refine yL.eq (y_istore (pc := 85) (ls' := [some (.ref 7), some (.int x1), some (.int x2), some (.int x3), some (.int x4), some (.int x5), some (.int x6), some (.int 1)]) d83_85 rfl rfl) ?_
  refine yL.eq (y_iload_n (pc := 87) (x := x1) d83_87 rfl) ?_
  refine yL.eq (y_iconst (pc := 88) (v := (-1)) d83_88 kc_m1) ?_
  refine yL.eq (y_icmp_eq (pc := 89) (t := 97) d83_89 (by decide)) ?_
  refine yL.ite (fun h1 => ?_) (fun h1 => ?_)
  ·
    refine yL.eq (y_iload (pc := 97) (x := x4) d83_97 rfl) ?_
    refine yL.eq (y_istore_n (pc := 99) (ls' := [some (.ref 7), some (.int x4), some (.int x2), some (.int x3), some (.int x4), some (.int x5), some (.int x6), some (.int 1)]) d83_99 rfl rfl) ?_
    refine yL.eq (y_iload (pc := 100) (x := x5) d83_100 rfl) ?_
    refine yL.eq (y_istore_n (pc := 102) (ls' := [some (.ref 7), some (.int x4), some (.int x5), some (.int x3), some (.int x4), some (.int x5), some (.int x6), some (.int 1)]) d83_102 rfl rfl) ?_
    refine yL.eq (y_iload (pc := 103) (x := x6) d83_103 rfl) ?_
    refine yL.eq (y_istore_n (pc := 105) (ls' := [some (.ref 7), some (.int x4), some (.int x5), some (.int x6), some (.int x4), some (.int x5), some (.int x6), some (.int 1)]) d83_105 rfl rfl) ?_
    refine yL.eq (y_iinc (pc := 106) (v := 1) (x := x4) (ls' := [some (.ref 7), some (.int x4), some (.int x5), some (.int x6), some (.int (x4 + 1)), some (.int x5), some (.int x6), some (.int 1)]) d83_106 kc_1 rfl (Nat.le_of_ble_eq_true rfl) rfl) ?_
    refine yL.eq (y_goto (pc := 109) (t := 20) d83_109 (by decide)) ?_
    exact yL.rf
  ·
    refine yL.eq (y_iload (pc := 92) (x := 1) d83_92 rfl) ?_
    refine yL.eq (y_if_eq (pc := 94) (t := 106) d83_94 (by decide)) ?_
    refine yL.eq (if_neg cn_Int32_1_eq_0) ?_
    refine yL.eq (y_iload (pc := 97) (x := x4) d83_97 rfl) ?_
    refine yL.eq (y_istore_n (pc := 99) (ls' := [some (.ref 7), some (.int x4), some (.int x2), some (.int x3), some (.int x4), some (.int x5), some (.int x6), some (.int 1)]) d83_99 rfl rfl) ?_
    refine yL.eq (y_iload (pc := 100) (x := x5) d83_100 rfl) ?_
    refine yL.eq (y_istore_n (pc := 102) (ls' := [some (.ref 7), some (.int x4), some (.int x5), some (.int x3), some (.int x4), some (.int x5), some (.int x6), some (.int 1)]) d83_102 rfl rfl) ?_
    refine yL.eq (y_iload (pc := 103) (x := x6) d83_103 rfl) ?_
    refine yL.eq (y_istore_n (pc := 105) (ls' := [some (.ref 7), some (.int x4), some (.int x5), some (.int x6), some (.int x4), some (.int x5), some (.int x6), some (.int 1)]) d83_105 rfl rfl) ?_
    refine yL.eq (y_iinc (pc := 106) (v := 1) (x := x4) (ls' := [some (.ref 7), some (.int x4), some (.int x5), some (.int x6), some (.int (x4 + 1)), some (.int x5), some (.int x6), some (.int 1)]) d83_106 kc_1 rfl (Nat.le_of_ble_eq_true rfl) rfl) ?_
    refine yL.eq (y_goto (pc := 109) (t := 20) d83_109 (by decide)) ?_
    exact yL.rf
set_option maxRecDepth 20000 in
set_option maxHeartbeats 4000000 in
theorem e83_84 {x1 : Int32} {x2 : Int32} {x3 : Int32} {x4 : Int32} {x5 : Int32} {x6 : Int32} {o7 : Option Value} {M : yM} : yL (if x1 = (-1) then yX 83 20 [some (.ref 7), some (.int x4), some (.int x5), some (.int x6), some (.int (x4 + 1)), some (.int x5), some (.int x6), some (.int 0)] [] M 0 0 else yX 83 20 [some (.ref 7), some (.int x1), some (.int x2), some (.int x3), some (.int (x4 + 1)), some (.int x5), some (.int x6), some (.int 0)] [] M 0 0) (yX 83 84 [some (.ref 7), some (.int x1), some (.int x2), some (.int x3), some (.int x4), some (.int x5), some (.int x6), o7] [] M 0 0) := by
  refine yL.eq (y_iconst (pc := 84) (v := 0) d83_84 kc_0) ?_
  refine yL.eq (y_istore (pc := 85) (ls' := [some (.ref 7), some (.int x1), some (.int x2), some (.int x3), some (.int x4), some (.int x5), some (.int x6), some (.int 0)]) d83_85 rfl rfl) ?_
  refine yL.eq (y_iload_n (pc := 87) (x := x1) d83_87 rfl) ?_
  refine yL.eq (y_iconst (pc := 88) (v := (-1)) d83_88 kc_m1) ?_
  refine yL.eq (y_icmp_eq (pc := 89) (t := 97) d83_89 (by decide)) ?_
  refine yL.ite (fun h1 => ?_) (fun h1 => ?_)
  ·
    refine yL.eq (y_iload (pc := 97) (x := x4) d83_97 rfl) ?_
    refine yL.eq (y_istore_n (pc := 99) (ls' := [some (.ref 7), some (.int x4), some (.int x2), some (.int x3), some (.int x4), some (.int x5), some (.int x6), some (.int 0)]) d83_99 rfl rfl) ?_
    refine yL.eq (y_iload (pc := 100) (x := x5) d83_100 rfl) ?_
    refine yL.eq (y_istore_n (pc := 102) (ls' := [some (.ref 7), some (.int x4), some (.int x5), some (.int x3), some (.int x4), some (.int x5), some (.int x6), some (.int 0)]) d83_102 rfl rfl) ?_
    refine yL.eq (y_iload (pc := 103) (x := x6) d83_103 rfl) ?_
    refine yL.eq (y_istore_n (pc := 105) (ls' := [some (.ref 7), some (.int x4), some (.int x5), some (.int x6), some (.int x4), some (.int x5), some (.int x6), some (.int 0)]) d83_105 rfl rfl) ?_
    refine yL.eq (y_iinc (pc := 106) (v := 1) (x := x4) (ls' := [some (.ref 7), some (.int x4), some (.int x5), some (.int x6), some (.int (x4 + 1)), some (.int x5), some (.int x6), some (.int 0)]) d83_106 kc_1 rfl (Nat.le_of_ble_eq_true rfl) rfl) ?_
    refine yL.eq (y_goto (pc := 109) (t := 20) d83_109 (by decide)) ?_
    exact yL.rf
  ·
    refine yL.eq (y_iload (pc := 92) (x := 0) d83_92 rfl) ?_
    refine yL.eq (y_if_eq (pc := 94) (t := 106) d83_94 (by decide)) ?_
    refine yL.eq (if_pos cp_Int32_0_eq_0) ?_
    refine yL.eq (y_iinc (pc := 106) (v := 1) (x := x4) (ls' := [some (.ref 7), some (.int x1), some (.int x2), some (.int x3), some (.int (x4 + 1)), some (.int x5), some (.int x6), some (.int 0)]) d83_106 kc_1 rfl (Nat.le_of_ble_eq_true rfl) rfl) ?_
    refine yL.eq (y_goto (pc := 109) (t := 20) d83_109 (by decide)) ?_
    exact yL.rf
set_option maxRecDepth 20000 in
set_option maxHeartbeats 4000000 in
theorem e84 {a1 : Int32} {a2 : Int32} {M : yM} : yL (yCi false (yX 94 0 [some (.int a1), some (.int 1), some (.int 24)] [] M 0 0) fun v2 M1 => if v2 = 0 then yCv true (yX 92 0 [some (.int 0)] [] M1 0 0) fun M4 => yCi false (yX 16 0 [some (.ref 11), some (.int a1), none, none] [] M4 0 0) fun v6 M5 => yX 84 45 [some (.ref 7), some (.int a1), some (.int a2), some (.int a1), some (.int v6), some (.int (a1 + 1)), none] [] M5 1 6 else yCi false (yX 94 0 [some (.int a2), some (.int a1), some (.int 24)] [] M1 0 0) fun v8 M7 => if v8 = 0 then yCv true (yX 92 0 [some (.int 0)] [] M7 0 0) fun M10 => yCi false (yX 16 0 [some (.ref 11), some (.int a1), none, none] [] M10 0 0) fun v12 M11 => yX 84 45 [some (.ref 7), some (.int a1), some (.int a2), some (.int a1), some (.int v12), some (.int (a1 + 1)), none] [] M11 1 6 else yCv true (yX 92 0 [some (.int 1)] [] M7 0 0) fun M13 => yCi false (yX 16 0 [some (.ref 11), some (.int a1), none, none] [] M13 0 0) fun v15 M14 => yX 84 45 [some (.ref 7), some (.int a1), some (.int a2), some (.int a1), some (.int v15), some (.int (a1 + 1)), none] [] M14 1 6) (yX 84 0 [some (.ref 7), some (.int a1), some (.int a2), none, none, none, none] [] M 0 0) := by
  refine yL.eq (y_iload_n (pc := 0) (x := a1) d84_0 rfl) ?_
  refine yL.eq (y_iconst (pc := 1) (v := 1) d84_1 kc_1) ?_
  refine yL.eq (y_bipush (pc := 2) (v := 24) d84_2 kb_24) ?_
  refine y_calls_i (pc := 4) (n := 3) (n' := 3) (nc' := 0) (ns' := 0) [.int a1, .int 1, .int 24] [] false d84_4 q84_54 rfl rfl rfl (Nat.le_of_ble_eq_true rfl) (Nat.le_of_ble_eq_true rfl) rfl (by decide +kernel) (by decide +kernel) (fun v2 M1 => ?_)
  refine yL.eq (y_if_eq (pc := 7) (t := 24) d84_7 (by decide)) ?_
  refine yL.ite (fun h3 => ?_) (fun h3 => ?_)
  ·
    refine yL.eq (y_iconst (pc := 24) (v := 0) d84_24 kc_0) ?_
    refine y_calls_v (pc := 25) (n := 1) (n' := 1) (nc' := 1) (ns' := 6) [.int 0] [] true d84_25 q84_58 rfl rfl rfl (Nat.le_of_ble_eq_true rfl) (Nat.le_of_ble_eq_true rfl) rfl (by decide +kernel) (by decide +kernel) (fun M4 => ?_)
    refine yL.eq (y_iload_n (pc := 28) (x := a1) d84_28 rfl) ?_
    refine yL.eq (y_istore_n (pc := 29) (ls' := [some (.ref 7), some (.int a1), some (.int a2), some (.int a1), none, none, none]) d84_29 rfl rfl) ?_
    refine yL.eq (y_aload_n (pc := 30) (x := 7) d84_30 rfl) ?_
    refine yL.eq (y_getr (pc := 31) (r := 11) d84_31 q84_27 s_r_7_2) ?_
    refine yL.eq (y_iload_n (pc := 34) (x := a1) d84_34 rfl) ?_
    refine y_callv_i (pc := 35) (n := 2) (n' := 4) (nc' := 1) (ns' := 6) [.int a1] [] false d84_35 q84_226 mk_16 (yC_t yC11) rfl rfl (Nat.le_of_ble_eq_true rfl) (Nat.le_of_ble_eq_true rfl) rfl (by decide +kernel) (by decide +kernel) (fun v6 M5 => ?_)
    refine yL.eq (y_istore (pc := 38) (ls' := [some (.ref 7), some (.int a1), some (.int a2), some (.int a1), some (.int v6), none, none]) d84_38 rfl rfl) ?_
    refine yL.eq (y_iload_n (pc := 40) (x := a1) d84_40 rfl) ?_
    refine yL.eq (y_iconst (pc := 41) (v := 1) d84_41 kc_1) ?_
    refine yL.eq (y_iadd (pc := 42) d84_42) ?_
    refine yL.eq (y_istore (pc := 43) (ls' := [some (.ref 7), some (.int a1), some (.int a2), some (.int a1), some (.int v6), some (.int (a1 + 1)), none]) d84_43 rfl rfl) ?_
    exact yL.rf
  ·
    refine yL.eq (y_iload_n (pc := 10) (x := a2) d84_10 rfl) ?_
    refine yL.eq (y_iload_n (pc := 11) (x := a1) d84_11 rfl) ?_
    refine yL.eq (y_bipush (pc := 12) (v := 24) d84_12 kb_24) ?_
    refine y_calls_i (pc := 14) (n := 3) (n' := 3) (nc' := 0) (ns' := 0) [.int a2, .int a1, .int 24] [] false d84_14 q84_54 rfl rfl rfl (Nat.le_of_ble_eq_true rfl) (Nat.le_of_ble_eq_true rfl) rfl (by decide +kernel) (by decide +kernel) (fun v8 M7 => ?_)
    refine yL.eq (y_if_eq (pc := 17) (t := 24) d84_17 (by decide)) ?_
    refine yL.ite (fun h9 => ?_) (fun h9 => ?_)
    ·
      refine yL.eq (y_iconst (pc := 24) (v := 0) d84_24 kc_0) ?_
      refine y_calls_v (pc := 25) (n := 1) (n' := 1) (nc' := 1) (ns' := 6) [.int 0] [] true d84_25 q84_58 rfl rfl rfl (Nat.le_of_ble_eq_true rfl) (Nat.le_of_ble_eq_true rfl) rfl (by decide +kernel) (by decide +kernel) (fun M10 => ?_)
      refine yL.eq (y_iload_n (pc := 28) (x := a1) d84_28 rfl) ?_
      refine yL.eq (y_istore_n (pc := 29) (ls' := [some (.ref 7), some (.int a1), some (.int a2), some (.int a1), none, none, none]) d84_29 rfl rfl) ?_
      refine yL.eq (y_aload_n (pc := 30) (x := 7) d84_30 rfl) ?_
      refine yL.eq (y_getr (pc := 31) (r := 11) d84_31 q84_27 s_r_7_2) ?_
      refine yL.eq (y_iload_n (pc := 34) (x := a1) d84_34 rfl) ?_
      refine y_callv_i (pc := 35) (n := 2) (n' := 4) (nc' := 1) (ns' := 6) [.int a1] [] false d84_35 q84_226 mk_16 (yC_t yC11) rfl rfl (Nat.le_of_ble_eq_true rfl) (Nat.le_of_ble_eq_true rfl) rfl (by decide +kernel) (by decide +kernel) (fun v12 M11 => ?_)
      refine yL.eq (y_istore (pc := 38) (ls' := [some (.ref 7), some (.int a1), some (.int a2), some (.int a1), some (.int v12), none, none]) d84_38 rfl rfl) ?_
      refine yL.eq (y_iload_n (pc := 40) (x := a1) d84_40 rfl) ?_
      refine yL.eq (y_iconst (pc := 41) (v := 1) d84_41 kc_1) ?_
      refine yL.eq (y_iadd (pc := 42) d84_42) ?_
      refine yL.eq (y_istore (pc := 43) (ls' := [some (.ref 7), some (.int a1), some (.int a2), some (.int a1), some (.int v12), some (.int (a1 + 1)), none]) d84_43 rfl rfl) ?_
      exact yL.rf
    ·
      refine yL.eq (y_iconst (pc := 20) (v := 1) d84_20 kc_1) ?_
      refine yL.eq (y_goto (pc := 21) (t := 25) d84_21 (by decide)) ?_
      refine y_calls_v (pc := 25) (n := 1) (n' := 1) (nc' := 1) (ns' := 6) [.int 1] [] true d84_25 q84_58 rfl rfl rfl (Nat.le_of_ble_eq_true rfl) (Nat.le_of_ble_eq_true rfl) rfl (by decide +kernel) (by decide +kernel) (fun M13 => ?_)
      refine yL.eq (y_iload_n (pc := 28) (x := a1) d84_28 rfl) ?_
      refine yL.eq (y_istore_n (pc := 29) (ls' := [some (.ref 7), some (.int a1), some (.int a2), some (.int a1), none, none, none]) d84_29 rfl rfl) ?_
      refine yL.eq (y_aload_n (pc := 30) (x := 7) d84_30 rfl) ?_
      refine yL.eq (y_getr (pc := 31) (r := 11) d84_31 q84_27 s_r_7_2) ?_
      refine yL.eq (y_iload_n (pc := 34) (x := a1) d84_34 rfl) ?_
      refine y_callv_i (pc := 35) (n := 2) (n' := 4) (nc' := 1) (ns' := 6) [.int a1] [] false d84_35 q84_226 mk_16 (yC_t yC11) rfl rfl (Nat.le_of_ble_eq_true rfl) (Nat.le_of_ble_eq_true rfl) rfl (by decide +kernel) (by decide +kernel) (fun v15 M14 => ?_)
      refine yL.eq (y_istore (pc := 38) (ls' := [some (.ref 7), some (.int a1), some (.int a2), some (.int a1), some (.int v15), none, none]) d84_38 rfl rfl) ?_
      refine yL.eq (y_iload_n (pc := 40) (x := a1) d84_40 rfl) ?_
      refine yL.eq (y_iconst (pc := 41) (v := 1) d84_41 kc_1) ?_
      refine yL.eq (y_iadd (pc := 42) d84_42) ?_
      refine yL.eq (y_istore (pc := 43) (ls' := [some (.ref 7), some (.int a1), some (.int a2), some (.int a1), some (.int v15), some (.int (a1 + 1)), none]) d84_43 rfl rfl) ?_
      exact yL.rf
set_option maxRecDepth 20000 in
set_option maxHeartbeats 4000000 in
theorem e84_45 {o1 : Option Value} {x2 : Int32} {x3 : Int32} {x4 : Int32} {x5 : Int32} {o6 : Option Value} {M : yM} : yL (if x5 ≤ x2 then yCi false (yX 16 0 [some (.ref 11), some (.int x5), none, none] [] M 0 0) fun v3 M2 => if v3 < x4 then yX 84 45 [some (.ref 7), o1, some (.int x2), some (.int x5), some (.int v3), some (.int (x5 + 1)), some (.int v3)] [] M2 1 6 else yX 84 45 [some (.ref 7), o1, some (.int x2), some (.int x3), some (.int x4), some (.int (x5 + 1)), some (.int v3)] [] M2 1 6 else yI x3 M) (yX 84 45 [some (.ref 7), o1, some (.int x2), some (.int x3), some (.int x4), some (.int x5), o6] [] M 1 6) := by
  refine yL.eq (y_iload (pc := 45) (x := x5) d84_45 rfl) ?_
  refine yL.eq (y_iload_n (pc := 47) (x := x2) d84_47 rfl) ?_
  refine yL.eq (y_icmp_gt (pc := 48) (t := 82) d84_48 (by decide)) ?_
  refine yL.ite (fun h1 => ?_) (fun h1 => ?_)
  ·
    refine yL.eq (y_aload_n (pc := 51) (x := 7) d84_51 rfl) ?_
    refine yL.eq (y_getr (pc := 52) (r := 11) d84_52 q84_27 s_r_7_2) ?_
    refine yL.eq (y_iload (pc := 55) (x := x5) d84_55 rfl) ?_
    refine y_callv_i (pc := 57) (n := 2) (n' := 4) (nc' := 1) (ns' := 6) [.int x5] [] false d84_57 q84_226 mk_16 (yC_t yC11) rfl rfl (Nat.le_of_ble_eq_true rfl) (Nat.le_of_ble_eq_true rfl) rfl (by decide +kernel) (by decide +kernel) (fun v3 M2 => ?_)
    refine yL.eq (y_istore (pc := 60) (ls' := [some (.ref 7), o1, some (.int x2), some (.int x3), some (.int x4), some (.int x5), some (.int v3)]) d84_60 rfl rfl) ?_
    refine yL.eq (y_iload (pc := 62) (x := v3) d84_62 rfl) ?_
    refine yL.eq (y_iload (pc := 64) (x := x4) d84_64 rfl) ?_
    refine yL.eq (y_icmp_ge (pc := 66) (t := 76) d84_66 (by decide)) ?_
    refine yL.ite (fun h4 => ?_) (fun h4 => ?_)
    ·
      refine yL.eq (y_iload (pc := 69) (x := x5) d84_69 rfl) ?_
      refine yL.eq (y_istore_n (pc := 71) (ls' := [some (.ref 7), o1, some (.int x2), some (.int x5), some (.int x4), some (.int x5), some (.int v3)]) d84_71 rfl rfl) ?_
      refine yL.eq (y_iload (pc := 72) (x := v3) d84_72 rfl) ?_
      refine yL.eq (y_istore (pc := 74) (ls' := [some (.ref 7), o1, some (.int x2), some (.int x5), some (.int v3), some (.int x5), some (.int v3)]) d84_74 rfl rfl) ?_
      refine yL.eq (y_iinc (pc := 76) (v := 1) (x := x5) (ls' := [some (.ref 7), o1, some (.int x2), some (.int x5), some (.int v3), some (.int (x5 + 1)), some (.int v3)]) d84_76 kc_1 rfl (Nat.le_of_ble_eq_true rfl) rfl) ?_
      refine yL.eq (y_goto (pc := 79) (t := 45) d84_79 (by decide)) ?_
      exact yL.rf
    ·
      refine yL.eq (y_iinc (pc := 76) (v := 1) (x := x5) (ls' := [some (.ref 7), o1, some (.int x2), some (.int x3), some (.int x4), some (.int (x5 + 1)), some (.int v3)]) d84_76 kc_1 rfl (Nat.le_of_ble_eq_true rfl) rfl) ?_
      refine yL.eq (y_goto (pc := 79) (t := 45) d84_79 (by decide)) ?_
      exact yL.rf
  ·
    refine yL.eq (y_iload_n (pc := 82) (x := x3) d84_82 rfl) ?_
    exact yL.eq (y_ireti (pc := 83) d84_83 mr_84) yL.rf
set_option maxRecDepth 20000 in
set_option maxHeartbeats 4000000 in
theorem e85 {a1 : Int32} {a2 : Int64} {M : yM} : yL (yCi false (yX 94 0 [some (.int a1), some (.int 1), some (.int 3)] [] M 0 0) fun v2 M1 => yCv true (yX 92 0 [some (.int v2)] [] M1 0 0) fun M3 => yX 85 15 [some (.ref 7), some (.int a1), some (.long a2), none, some (.long 1), none, some (.int 0), none, none, none, none] [] M3 1 6) (yX 85 0 [some (.ref 7), some (.int a1), some (.long a2), none, none, none, none, none, none, none, none] [] M 0 0) := by
  refine yL.eq (y_iload_n (pc := 0) (x := a1) d85_0 rfl) ?_
  refine yL.eq (y_iconst (pc := 1) (v := 1) d85_1 kc_1) ?_
  refine yL.eq (y_iconst (pc := 2) (v := 3) d85_2 kc_3) ?_
  refine y_calls_i (pc := 3) (n := 3) (n' := 3) (nc' := 0) (ns' := 0) [.int a1, .int 1, .int 3] [] false d85_3 q85_54 rfl rfl rfl (Nat.le_of_ble_eq_true rfl) (Nat.le_of_ble_eq_true rfl) rfl (by decide +kernel) (by decide +kernel) (fun v2 M1 => ?_)
  refine y_calls_v (pc := 6) (n := 1) (n' := 1) (nc' := 1) (ns' := 6) [.int v2] [] true d85_6 q85_58 rfl rfl rfl (Nat.le_of_ble_eq_true rfl) (Nat.le_of_ble_eq_true rfl) rfl (by decide +kernel) (by decide +kernel) (fun M3 => ?_)
  refine yL.eq (y_lconst (pc := 9) (v := 1) d85_9 kl_1) ?_
  refine yL.eq (y_lstore (pc := 10) (ls' := [some (.ref 7), some (.int a1), some (.long a2), none, some (.long 1), none, none, none, none, none, none]) d85_10 rfl rfl) ?_
  refine yL.eq (y_iconst (pc := 12) (v := 0) d85_12 kc_0) ?_
  refine yL.eq (y_istore (pc := 13) (ls' := [some (.ref 7), some (.int a1), some (.long a2), none, some (.long 1), none, some (.int 0), none, none, none, none]) d85_13 rfl rfl) ?_
  exact yL.rf
set_option maxRecDepth 20000 in
set_option maxHeartbeats 4000000 in
theorem e85_15 {x1 : Int32} {x2 : Int64} {x4 : Int64} {x6 : Int32} {o7 : Option Value} {o8 : Option Value} {o9 : Option Value} {o10 : Option Value} {M : yM} : yL (if x6 < x1 then yX 85 15 [some (.ref 7), some (.int x1), some (.long x2), none, some (.long (x4 * 1000000)), none, some (.int (x6 + 1)), o7, o8, o9, o10] [] M 1 6 else if x2 < 0 then yCv true (yX 92 0 [some (.int 0)] [] M 0 0) fun M3 => yCv false (yX 2 0 [some (.ref 27), some (.ref 11)] [] M3 0 0) fun M4 => yX 85 73 [some (.ref 7), some (.int x1), some (.long x2), none, some (.long x4), none, some (.long x2), none, some (.int 0), o9, o10] [] M4 2 12 else if x2 < x4 then yCv true (yX 92 0 [some (.int 1)] [] M 0 0) fun M6 => yCv false (yX 2 0 [some (.ref 27), some (.ref 11)] [] M6 0 0) fun M7 => yX 85 73 [some (.ref 7), some (.int x1), some (.long x2), none, some (.long x4), none, some (.long x2), none, some (.int 0), o9, o10] [] M7 2 12 else yCv true (yX 92 0 [some (.int 0)] [] M 0 0) fun M8 => yCv false (yX 2 0 [some (.ref 27), some (.ref 11)] [] M8 0 0) fun M9 => yX 85 73 [some (.ref 7), some (.int x1), some (.long x2), none, some (.long x4), none, some (.long x2), none, some (.int 0), o9, o10] [] M9 2 12) (yX 85 15 [some (.ref 7), some (.int x1), some (.long x2), none, some (.long x4), none, some (.int x6), o7, o8, o9, o10] [] M 1 6) := by
  refine yL.eq (y_iload (pc := 15) (x := x6) d85_15 rfl) ?_
  refine yL.eq (y_iload_n (pc := 17) (x := x1) d85_17 rfl) ?_
  refine yL.eq (y_icmp_ge (pc := 18) (t := 35) d85_18 (by decide)) ?_
  refine yL.ite (fun h1 => ?_) (fun h1 => ?_)
  ·
    refine yL.eq (y_lload (pc := 21) (x := x4) d85_21 rfl) ?_
    refine yL.eq (y_ldc2_w (pc := 23) (v := 1000000) d85_23 q85_229) ?_
    refine yL.eq (y_lmul (pc := 26) d85_26) ?_
    refine yL.eq (y_lstore (pc := 27) (ls' := [some (.ref 7), some (.int x1), some (.long x2), none, some (.long (x4 * 1000000)), none, some (.int x6), o7, o8, o9, o10]) d85_27 rfl rfl) ?_
    refine yL.eq (y_iinc (pc := 29) (v := 1) (x := x6) (ls' := [some (.ref 7), some (.int x1), some (.long x2), none, some (.long (x4 * 1000000)), none, some (.int (x6 + 1)), o7, o8, o9, o10]) d85_29 kc_1 rfl (Nat.le_of_ble_eq_true rfl) rfl) ?_
    refine yL.eq (y_goto (pc := 32) (t := 15) d85_32 (by decide)) ?_
    exact yL.rf
  ·
    refine yL.eq (y_lload_n (pc := 35) (x := x2) d85_35 rfl) ?_
    refine yL.eq (y_lconst (pc := 36) (v := 0) d85_36 kl_0) ?_
    refine yL.eq (y_lcmp (pc := 37) d85_37) ?_
    refine yL.eq (y_lif_lt (pc := 38) (t := 52) d85_38 (by decide)) ?_
    refine yL.ite (fun h2 => ?_) (fun h2 => ?_)
    ·
      refine yL.eq (y_iconst (pc := 52) (v := 0) d85_52 kc_0) ?_
      refine y_calls_v (pc := 53) (n := 1) (n' := 1) (nc' := 2) (ns' := 12) [.int 0] [] true d85_53 q85_58 rfl rfl rfl (Nat.le_of_ble_eq_true rfl) (Nat.le_of_ble_eq_true rfl) rfl (by decide +kernel) (by decide +kernel) (fun M3 => ?_)
      refine yL.eq (y_aload_n (pc := 56) (x := 7) d85_56 rfl) ?_
      refine yL.eq (y_getr (pc := 57) (r := 27) d85_57 q85_33 s_r_7_4) ?_
      refine yL.eq (y_aload_n (pc := 60) (x := 7) d85_60 rfl) ?_
      refine yL.eq (y_getr (pc := 61) (r := 11) d85_61 q85_27 s_r_7_2) ?_
      refine y_callv_v (pc := 64) (n := 2) (n' := 2) (nc' := 2) (ns' := 12) [.ref 11] [] false d85_64 q85_77 mk_2 (yC_t yC27) rfl rfl (Nat.le_of_ble_eq_true rfl) (Nat.le_of_ble_eq_true rfl) rfl (by decide +kernel) (by decide +kernel) (fun M4 => ?_)
      refine yL.eq (y_lload_n (pc := 67) (x := x2) d85_67 rfl) ?_
      refine yL.eq (y_lstore (pc := 68) (ls' := [some (.ref 7), some (.int x1), some (.long x2), none, some (.long x4), none, some (.long x2), none, o8, o9, o10]) d85_68 rfl rfl) ?_
      refine yL.eq (y_iconst (pc := 70) (v := 0) d85_70 kc_0) ?_
      refine yL.eq (y_istore (pc := 71) (ls' := [some (.ref 7), some (.int x1), some (.long x2), none, some (.long x4), none, some (.long x2), none, some (.int 0), o9, o10]) d85_71 rfl rfl) ?_
      exact yL.rf
    ·
      refine yL.eq (y_lload_n (pc := 41) (x := x2) d85_41 rfl) ?_
      refine yL.eq (y_lload (pc := 42) (x := x4) d85_42 rfl) ?_
      refine yL.eq (y_lcmp (pc := 44) d85_44) ?_
      refine yL.eq (y_lif_ge (pc := 45) (t := 52) d85_45 (by decide)) ?_
      refine yL.ite (fun h5 => ?_) (fun h5 => ?_)
      ·
        refine yL.eq (y_iconst (pc := 48) (v := 1) d85_48 kc_1) ?_
        refine yL.eq (y_goto (pc := 49) (t := 53) d85_49 (by decide)) ?_
        refine y_calls_v (pc := 53) (n := 1) (n' := 1) (nc' := 2) (ns' := 12) [.int 1] [] true d85_53 q85_58 rfl rfl rfl (Nat.le_of_ble_eq_true rfl) (Nat.le_of_ble_eq_true rfl) rfl (by decide +kernel) (by decide +kernel) (fun M6 => ?_)
        refine yL.eq (y_aload_n (pc := 56) (x := 7) d85_56 rfl) ?_
        refine yL.eq (y_getr (pc := 57) (r := 27) d85_57 q85_33 s_r_7_4) ?_
        refine yL.eq (y_aload_n (pc := 60) (x := 7) d85_60 rfl) ?_
        refine yL.eq (y_getr (pc := 61) (r := 11) d85_61 q85_27 s_r_7_2) ?_
        refine y_callv_v (pc := 64) (n := 2) (n' := 2) (nc' := 2) (ns' := 12) [.ref 11] [] false d85_64 q85_77 mk_2 (yC_t yC27) rfl rfl (Nat.le_of_ble_eq_true rfl) (Nat.le_of_ble_eq_true rfl) rfl (by decide +kernel) (by decide +kernel) (fun M7 => ?_)
        refine yL.eq (y_lload_n (pc := 67) (x := x2) d85_67 rfl) ?_
        refine yL.eq (y_lstore (pc := 68) (ls' := [some (.ref 7), some (.int x1), some (.long x2), none, some (.long x4), none, some (.long x2), none, o8, o9, o10]) d85_68 rfl rfl) ?_
        refine yL.eq (y_iconst (pc := 70) (v := 0) d85_70 kc_0) ?_
        refine yL.eq (y_istore (pc := 71) (ls' := [some (.ref 7), some (.int x1), some (.long x2), none, some (.long x4), none, some (.long x2), none, some (.int 0), o9, o10]) d85_71 rfl rfl) ?_
        exact yL.rf
      ·
        refine yL.eq (y_iconst (pc := 52) (v := 0) d85_52 kc_0) ?_
        refine y_calls_v (pc := 53) (n := 1) (n' := 1) (nc' := 2) (ns' := 12) [.int 0] [] true d85_53 q85_58 rfl rfl rfl (Nat.le_of_ble_eq_true rfl) (Nat.le_of_ble_eq_true rfl) rfl (by decide +kernel) (by decide +kernel) (fun M8 => ?_)
        refine yL.eq (y_aload_n (pc := 56) (x := 7) d85_56 rfl) ?_
        refine yL.eq (y_getr (pc := 57) (r := 27) d85_57 q85_33 s_r_7_4) ?_
        refine yL.eq (y_aload_n (pc := 60) (x := 7) d85_60 rfl) ?_
        refine yL.eq (y_getr (pc := 61) (r := 11) d85_61 q85_27 s_r_7_2) ?_
        refine y_callv_v (pc := 64) (n := 2) (n' := 2) (nc' := 2) (ns' := 12) [.ref 11] [] false d85_64 q85_77 mk_2 (yC_t yC27) rfl rfl (Nat.le_of_ble_eq_true rfl) (Nat.le_of_ble_eq_true rfl) rfl (by decide +kernel) (by decide +kernel) (fun M9 => ?_)
        refine yL.eq (y_lload_n (pc := 67) (x := x2) d85_67 rfl) ?_
        refine yL.eq (y_lstore (pc := 68) (ls' := [some (.ref 7), some (.int x1), some (.long x2), none, some (.long x4), none, some (.long x2), none, o8, o9, o10]) d85_68 rfl rfl) ?_
        refine yL.eq (y_iconst (pc := 70) (v := 0) d85_70 kc_0) ?_
        refine yL.eq (y_istore (pc := 71) (ls' := [some (.ref 7), some (.int x1), some (.long x2), none, some (.long x4), none, some (.long x2), none, some (.int 0), o9, o10]) d85_71 rfl rfl) ?_
        exact yL.rf
set_option maxRecDepth 20000 in
set_option maxHeartbeats 4000000 in
theorem e85_73 {x1 : Int32} {o2 : Option Value} {o3 : Option Value} {x4 : Int64} {x6 : Int64} {x8 : Int32} {o9 : Option Value} {o10 : Option Value} {M : yM} : yL (if x8 < x1 then if (x4 / 1000000) < 1 then yCv false (yX 45 0 [some (.ref 26), none, none] [] M 0 0) fun M3 => yCi false (yX 101 0 [some (.ref 7), some (.int ((0 : Int64).toInt32)), none, none, none] [] M3 0 0) fun v5 M4 => if v5 = 0 then yI x8 M4 else yX 85 73 [some (.ref 7), some (.int x1), o2, (xUn o3), some (.long (x4 / 1000000)), none, some (.long (x6 - (0 * (x4 / 1000000)))), none, some (.int (x8 + 1)), some (.long 0), none] [] M4 2 12 else if (x4 / 1000000) = 0 then none else yCv false (yX 45 0 [some (.ref 26), none, none] [] M 0 0) fun M8 => yCi false (yX 101 0 [some (.ref 7), some (.int ((x6 / (x4 / 1000000)).toInt32)), none, none, none] [] M8 0 0) fun v10 M9 => if v10 = 0 then yI x8 M9 else yX 85 73 [some (.ref 7), some (.int x1), o2, (xUn o3), some (.long (x4 / 1000000)), none, some (.long (x6 - ((x6 / (x4 / 1000000)) * (x4 / 1000000)))), none, some (.int (x8 + 1)), some (.long (x6 / (x4 / 1000000))), none] [] M9 2 12 else yI (-1) M) (yX 85 73 [some (.ref 7), some (.int x1), o2, o3, some (.long x4), none, some (.long x6), none, some (.int x8), o9, o10] [] M 2 12) := by
  refine yL.eq (y_iload (pc := 73) (x := x8) d85_73 rfl) ?_
  refine yL.eq (y_iload_n (pc := 75) (x := x1) d85_75 rfl) ?_
  refine yL.eq (y_icmp_ge (pc := 76) (t := 141) d85_76 (by decide)) ?_
  refine yL.ite (fun h1 => ?_) (fun h1 => ?_)
  ·
    refine yL.eq (y_lload (pc := 79) (x := x4) d85_79 rfl) ?_
    refine yL.eq (y_ldc2_w (pc := 81) (v := 1000000) d85_81 q85_229) ?_
    refine yL.eq (y_ldivc (pc := 84) d85_84 nzJ_1000000) ?_
    refine yL.eq (y_lstore (pc := 85) (ls' := [some (.ref 7), some (.int x1), o2, (xUn o3), some (.long (x4 / 1000000)), none, some (.long x6), none, some (.int x8), o9, o10]) d85_85 rfl rfl) ?_
    refine yL.eq (y_lload (pc := 87) (x := (x4 / 1000000)) d85_87 rfl) ?_
    refine yL.eq (y_lconst (pc := 89) (v := 1) d85_89 kl_1) ?_
    refine yL.eq (y_lcmp (pc := 90) d85_90) ?_
    refine yL.eq (y_lif_ge (pc := 91) (t := 98) d85_91 (by decide)) ?_
    refine yL.ite (fun h2 => ?_) (fun h2 => ?_)
    ·
      refine yL.eq (y_lconst (pc := 94) (v := 0) d85_94 kl_0) ?_
      refine yL.eq (y_goto (pc := 95) (t := 103) d85_95 (by decide)) ?_
      refine yL.eq (y_lstore (pc := 103) (ls' := [some (.ref 7), some (.int x1), o2, (xUn o3), some (.long (x4 / 1000000)), none, some (.long x6), none, some (.int x8), some (.long 0), none]) d85_103 rfl rfl) ?_
      refine yL.eq (y_lload (pc := 105) (x := x6) d85_105 rfl) ?_
      refine yL.eq (y_lload (pc := 107) (x := 0) d85_107 rfl) ?_
      refine yL.eq (y_lload (pc := 109) (x := (x4 / 1000000)) d85_109 rfl) ?_
      refine yL.eq (y_lmul (pc := 111) d85_111) ?_
      refine yL.eq (y_lsub (pc := 112) d85_112) ?_
      refine yL.eq (y_lstore (pc := 113) (ls' := [some (.ref 7), some (.int x1), o2, (xUn o3), some (.long (x4 / 1000000)), none, some (.long (x6 - (0 * (x4 / 1000000)))), none, some (.int x8), some (.long 0), none]) d85_113 rfl rfl) ?_
      refine yL.eq (y_aload_n (pc := 115) (x := 7) d85_115 rfl) ?_
      refine yL.eq (y_getr (pc := 116) (r := 26) d85_116 q85_30 s_r_7_3) ?_
      refine y_callv_v (pc := 119) (n := 1) (n' := 3) (nc' := 2) (ns' := 12) [] [] false d85_119 q85_103 mk_45 (yP_t yP26) rfl rfl (Nat.le_of_ble_eq_true rfl) (Nat.le_of_ble_eq_true rfl) rfl (by decide +kernel) (by decide +kernel) (fun M3 => ?_)
      refine yL.eq (y_aload_n (pc := 122) (x := 7) d85_122 rfl) ?_
      refine yL.eq (y_lload (pc := 123) (x := 0) d85_123 rfl) ?_
      refine yL.eq (y_l2i (pc := 125) d85_125) ?_
      refine y_callv_i (pc := 126) (n := 2) (n' := 5) (nc' := 2) (ns' := 12) [.int ((0 : Int64).toInt32)] [] false d85_126 q85_231 mk_101 s_t_7 rfl rfl (Nat.le_of_ble_eq_true rfl) (Nat.le_of_ble_eq_true rfl) rfl (by decide +kernel) (by decide +kernel) (fun v5 M4 => ?_)
      refine yL.eq (y_if_ne (pc := 129) (t := 135) d85_129 (by decide)) ?_
      refine yL.ite (fun h6 => ?_) (fun h6 => ?_)
      ·
        refine yL.eq (y_iload (pc := 132) (x := x8) d85_132 rfl) ?_
        exact yL.eq (y_ireti (pc := 134) d85_134 mr_85) yL.rf
      ·
        refine yL.eq (y_iinc (pc := 135) (v := 1) (x := x8) (ls' := [some (.ref 7), some (.int x1), o2, (xUn o3), some (.long (x4 / 1000000)), none, some (.long (x6 - (0 * (x4 / 1000000)))), none, some (.int (x8 + 1)), some (.long 0), none]) d85_135 kc_1 rfl (Nat.le_of_ble_eq_true rfl) rfl) ?_
        refine yL.eq (y_goto (pc := 138) (t := 73) d85_138 (by decide)) ?_
        exact yL.rf
    ·
      refine yL.eq (y_lload (pc := 98) (x := x6) d85_98 rfl) ?_
      refine yL.eq (y_lload (pc := 100) (x := (x4 / 1000000)) d85_100 rfl) ?_
      refine yL.eq (y_ldiv (pc := 102) d85_102) ?_
      refine yL.gn (fun h7 => ?_)
      refine yL.eq (y_lstore (pc := 103) (ls' := [some (.ref 7), some (.int x1), o2, (xUn o3), some (.long (x4 / 1000000)), none, some (.long x6), none, some (.int x8), some (.long (x6 / (x4 / 1000000))), none]) d85_103 rfl rfl) ?_
      refine yL.eq (y_lload (pc := 105) (x := x6) d85_105 rfl) ?_
      refine yL.eq (y_lload (pc := 107) (x := (x6 / (x4 / 1000000))) d85_107 rfl) ?_
      refine yL.eq (y_lload (pc := 109) (x := (x4 / 1000000)) d85_109 rfl) ?_
      refine yL.eq (y_lmul (pc := 111) d85_111) ?_
      refine yL.eq (y_lsub (pc := 112) d85_112) ?_
      refine yL.eq (y_lstore (pc := 113) (ls' := [some (.ref 7), some (.int x1), o2, (xUn o3), some (.long (x4 / 1000000)), none, some (.long (x6 - ((x6 / (x4 / 1000000)) * (x4 / 1000000)))), none, some (.int x8), some (.long (x6 / (x4 / 1000000))), none]) d85_113 rfl rfl) ?_
      refine yL.eq (y_aload_n (pc := 115) (x := 7) d85_115 rfl) ?_
      refine yL.eq (y_getr (pc := 116) (r := 26) d85_116 q85_30 s_r_7_3) ?_
      refine y_callv_v (pc := 119) (n := 1) (n' := 3) (nc' := 2) (ns' := 12) [] [] false d85_119 q85_103 mk_45 (yP_t yP26) rfl rfl (Nat.le_of_ble_eq_true rfl) (Nat.le_of_ble_eq_true rfl) rfl (by decide +kernel) (by decide +kernel) (fun M8 => ?_)
      refine yL.eq (y_aload_n (pc := 122) (x := 7) d85_122 rfl) ?_
      refine yL.eq (y_lload (pc := 123) (x := (x6 / (x4 / 1000000))) d85_123 rfl) ?_
      refine yL.eq (y_l2i (pc := 125) d85_125) ?_
      refine y_callv_i (pc := 126) (n := 2) (n' := 5) (nc' := 2) (ns' := 12) [.int ((x6 / (x4 / 1000000)).toInt32)] [] false d85_126 q85_231 mk_101 s_t_7 rfl rfl (Nat.le_of_ble_eq_true rfl) (Nat.le_of_ble_eq_true rfl) rfl (by decide +kernel) (by decide +kernel) (fun v10 M9 => ?_)
      refine yL.eq (y_if_ne (pc := 129) (t := 135) d85_129 (by decide)) ?_
      refine yL.ite (fun h11 => ?_) (fun h11 => ?_)
      ·
        refine yL.eq (y_iload (pc := 132) (x := x8) d85_132 rfl) ?_
        exact yL.eq (y_ireti (pc := 134) d85_134 mr_85) yL.rf
      ·
        refine yL.eq (y_iinc (pc := 135) (v := 1) (x := x8) (ls' := [some (.ref 7), some (.int x1), o2, (xUn o3), some (.long (x4 / 1000000)), none, some (.long (x6 - ((x6 / (x4 / 1000000)) * (x4 / 1000000)))), none, some (.int (x8 + 1)), some (.long (x6 / (x4 / 1000000))), none]) d85_135 kc_1 rfl (Nat.le_of_ble_eq_true rfl) rfl) ?_
        refine yL.eq (y_goto (pc := 138) (t := 73) d85_138 (by decide)) ?_
        exact yL.rf
  ·
    refine yL.eq (y_iconst (pc := 141) (v := (-1)) d85_141 kc_m1) ?_
    exact yL.eq (y_ireti (pc := 142) d85_142 mr_85) yL.rf
set_option maxRecDepth 20000 in
set_option maxHeartbeats 4000000 in
theorem e86 {a1 : Int64} {a3 : Int32} {M : yM} : yL (yCi false (yX 94 0 [some (.int a3), some (.int 1), some (.int 60)] [] M 0 0) fun v2 M1 => yCv true (yX 92 0 [some (.int v2)] [] M1 0 0) fun M3 => yCv false (yX 2 0 [some (.ref 27), some (.ref 11)] [] M3 0 0) fun M4 => yX 86 27 [some (.ref 7), some (.long a1), none, some (.int a3), some (.long a1), none, some (.int 0), none] [] M4 1 6) (yX 86 0 [some (.ref 7), some (.long a1), none, some (.int a3), none, none, none, none] [] M 0 0) := by
  refine yL.eq (y_iload_n (pc := 0) (x := a3) d86_0 rfl) ?_
  refine yL.eq (y_iconst (pc := 1) (v := 1) d86_1 kc_1) ?_
  refine yL.eq (y_bipush (pc := 2) (v := 60) d86_2 kb_60) ?_
  refine y_calls_i (pc := 4) (n := 3) (n' := 3) (nc' := 0) (ns' := 0) [.int a3, .int 1, .int 60] [] false d86_4 q86_54 rfl rfl rfl (Nat.le_of_ble_eq_true rfl) (Nat.le_of_ble_eq_true rfl) rfl (by decide +kernel) (by decide +kernel) (fun v2 M1 => ?_)
  refine y_calls_v (pc := 7) (n := 1) (n' := 1) (nc' := 1) (ns' := 6) [.int v2] [] true d86_7 q86_58 rfl rfl rfl (Nat.le_of_ble_eq_true rfl) (Nat.le_of_ble_eq_true rfl) rfl (by decide +kernel) (by decide +kernel) (fun M3 => ?_)
  refine yL.eq (y_aload_n (pc := 10) (x := 7) d86_10 rfl) ?_
  refine yL.eq (y_getr (pc := 11) (r := 27) d86_11 q86_33 s_r_7_4) ?_
  refine yL.eq (y_aload_n (pc := 14) (x := 7) d86_14 rfl) ?_
  refine yL.eq (y_getr (pc := 15) (r := 11) d86_15 q86_27 s_r_7_2) ?_
  refine y_callv_v (pc := 18) (n := 2) (n' := 2) (nc' := 1) (ns' := 6) [.ref 11] [] false d86_18 q86_77 mk_2 (yC_t yC27) rfl rfl (Nat.le_of_ble_eq_true rfl) (Nat.le_of_ble_eq_true rfl) rfl (by decide +kernel) (by decide +kernel) (fun M4 => ?_)
  refine yL.eq (y_lload_n (pc := 21) (x := a1) d86_21 rfl) ?_
  refine yL.eq (y_lstore (pc := 22) (ls' := [some (.ref 7), some (.long a1), none, some (.int a3), some (.long a1), none, none, none]) d86_22 rfl rfl) ?_
  refine yL.eq (y_iconst (pc := 24) (v := 0) d86_24 kc_0) ?_
  refine yL.eq (y_istore (pc := 25) (ls' := [some (.ref 7), some (.long a1), none, some (.int a3), some (.long a1), none, some (.int 0), none]) d86_25 rfl rfl) ?_
  exact yL.rf
set_option maxRecDepth 20000 in
set_option maxHeartbeats 4000000 in
theorem e86_27 {o1 : Option Value} {o2 : Option Value} {x3 : Int32} {x4 : Int64} {x6 : Int32} {o7 : Option Value} {M : yM} : yL (if x6 < x3 then yCv false (yX 104 0 [some (.ref 7), some (.int ((((((x4 * 6364136223846793005) + 1442695040888963407).toUInt64 >>> ((33 : Int32).toInt64.toUInt64 &&& Int64.toUInt64 63)).toInt64).toInt32) % 8)), some (.int ((((((x4 * 6364136223846793005) + 1442695040888963407).toUInt64 >>> ((33 : Int32).toInt64.toUInt64 &&& Int64.toUInt64 63)).toInt64).toInt32) / 8))] [] M 0 0) fun M2 => yX 86 27 [some (.ref 7), o1, o2, some (.int x3), some (.long ((x4 * 6364136223846793005) + 1442695040888963407)), none, some (.int (x6 + 1)), some (.int (((((x4 * 6364136223846793005) + 1442695040888963407).toUInt64 >>> ((33 : Int32).toInt64.toUInt64 &&& Int64.toUInt64 63)).toInt64).toInt32))] [] M2 1 6 else yCv false (yX 45 0 [some (.ref 26), none, none] [] M 0 0) fun M3 => yCi false (yX 15 0 [some (.ref 27), some (.int (M3 27 3)), none, none] [] M3 0 0) fun v5 M4 => yI (((1000 * (M4 26 8)) + (10 * (M4 26 7))) + (v5 % 10)) M4) (yX 86 27 [some (.ref 7), o1, o2, some (.int x3), some (.long x4), none, some (.int x6), o7] [] M 1 6) := by
  refine yL.eq (y_iload (pc := 27) (x := x6) d86_27 rfl) ?_
  refine yL.eq (y_iload_n (pc := 29) (x := x3) d86_29 rfl) ?_
  refine yL.eq (y_icmp_ge (pc := 30) (t := 73) d86_30 (by decide)) ?_
  refine yL.ite (fun h1 => ?_) (fun h1 => ?_)
  ·
    refine yL.eq (y_lload (pc := 33) (x := x4) d86_33 rfl) ?_
    refine yL.eq (y_ldc2_w (pc := 35) (v := 6364136223846793005) d86_35 q86_234) ?_
    refine yL.eq (y_lmul (pc := 38) d86_38) ?_
    refine yL.eq (y_ldc2_w (pc := 39) (v := 1442695040888963407) d86_39 q86_236) ?_
    refine yL.eq (y_ladd (pc := 42) d86_42) ?_
    refine yL.eq (y_lstore (pc := 43) (ls' := [some (.ref 7), o1, o2, some (.int x3), some (.long ((x4 * 6364136223846793005) + 1442695040888963407)), none, some (.int x6), o7]) d86_43 rfl rfl) ?_
    refine yL.eq (y_lload (pc := 45) (x := ((x4 * 6364136223846793005) + 1442695040888963407)) d86_45 rfl) ?_
    refine yL.eq (y_bipush (pc := 47) (v := 33) d86_47 kb_33) ?_
    refine yL.eq (y_lushr (pc := 49) d86_49) ?_
    refine yL.eq (y_l2i (pc := 50) d86_50) ?_
    refine yL.eq (y_istore (pc := 51) (ls' := [some (.ref 7), o1, o2, some (.int x3), some (.long ((x4 * 6364136223846793005) + 1442695040888963407)), none, some (.int x6), some (.int (((((x4 * 6364136223846793005) + 1442695040888963407).toUInt64 >>> ((33 : Int32).toInt64.toUInt64 &&& Int64.toUInt64 63)).toInt64).toInt32))]) d86_51 rfl rfl) ?_
    refine yL.eq (y_aload_n (pc := 53) (x := 7) d86_53 rfl) ?_
    refine yL.eq (y_iload (pc := 54) (x := (((((x4 * 6364136223846793005) + 1442695040888963407).toUInt64 >>> ((33 : Int32).toInt64.toUInt64 &&& Int64.toUInt64 63)).toInt64).toInt32)) d86_54 rfl) ?_
    refine yL.eq (y_bipush (pc := 56) (v := 8) d86_56 kb_8) ?_
    refine yL.eq (y_imodc (pc := 58) d86_58 nzI_8) ?_
    refine yL.eq (y_iload (pc := 59) (x := (((((x4 * 6364136223846793005) + 1442695040888963407).toUInt64 >>> ((33 : Int32).toInt64.toUInt64 &&& Int64.toUInt64 63)).toInt64).toInt32)) d86_59 rfl) ?_
    refine yL.eq (y_bipush (pc := 61) (v := 8) d86_61 kb_8) ?_
    refine yL.eq (y_idivc (pc := 63) d86_63 nzI_8) ?_
    refine y_callv_v (pc := 64) (n := 3) (n' := 3) (nc' := 1) (ns' := 6) [.int ((((((x4 * 6364136223846793005) + 1442695040888963407).toUInt64 >>> ((33 : Int32).toInt64.toUInt64 &&& Int64.toUInt64 63)).toInt64).toInt32) % 8), .int ((((((x4 * 6364136223846793005) + 1442695040888963407).toUInt64 >>> ((33 : Int32).toInt64.toUInt64 &&& Int64.toUInt64 63)).toInt64).toInt32) / 8)] [] false d86_64 q86_238 mk_104 s_t_7 rfl rfl (Nat.le_of_ble_eq_true rfl) (Nat.le_of_ble_eq_true rfl) rfl (by decide +kernel) (by decide +kernel) (fun M2 => ?_)
    refine yL.eq (y_iinc (pc := 67) (v := 1) (x := x6) (ls' := [some (.ref 7), o1, o2, some (.int x3), some (.long ((x4 * 6364136223846793005) + 1442695040888963407)), none, some (.int (x6 + 1)), some (.int (((((x4 * 6364136223846793005) + 1442695040888963407).toUInt64 >>> ((33 : Int32).toInt64.toUInt64 &&& Int64.toUInt64 63)).toInt64).toInt32))]) d86_67 kc_1 rfl (Nat.le_of_ble_eq_true rfl) rfl) ?_
    refine yL.eq (y_goto (pc := 70) (t := 27) d86_70 (by decide)) ?_
    exact yL.rf
  ·
    refine yL.eq (y_aload_n (pc := 73) (x := 7) d86_73 rfl) ?_
    refine yL.eq (y_getr (pc := 74) (r := 26) d86_74 q86_30 s_r_7_3) ?_
    refine y_callv_v (pc := 77) (n := 1) (n' := 3) (nc' := 1) (ns' := 6) [] [] false d86_77 q86_103 mk_45 (yP_t yP26) rfl rfl (Nat.le_of_ble_eq_true rfl) (Nat.le_of_ble_eq_true rfl) rfl (by decide +kernel) (by decide +kernel) (fun M3 => ?_)
    refine yL.eq (y_aload_n (pc := 80) (x := 7) d86_80 rfl) ?_
    refine yL.eq (y_getr (pc := 81) (r := 27) d86_81 q86_33 s_r_7_4) ?_
    refine yL.eq (y_aload_n (pc := 84) (x := 7) d86_84 rfl) ?_
    refine yL.eq (y_getr (pc := 85) (r := 27) d86_85 q86_33 s_r_7_4) ?_
    refine yL.eq (y_geti (pc := 88) d86_88 q86_96 ((((yC_i yC27)).2).2).2) ?_
    refine y_callv_i (pc := 91) (n := 2) (n' := 4) (nc' := 1) (ns' := 6) [.int (M3 27 3)] [] false d86_91 q86_99 mk_15 (yC_t yC27) rfl rfl (Nat.le_of_ble_eq_true rfl) (Nat.le_of_ble_eq_true rfl) rfl (by decide +kernel) (by decide +kernel) (fun v5 M4 => ?_)
    refine yL.eq (y_bipush (pc := 94) (v := 10) d86_94 kb_10) ?_
    refine yL.eq (y_imodc (pc := 96) d86_96 nzI_10) ?_
    refine yL.eq (y_istore (pc := 97) (ls' := [some (.ref 7), o1, o2, some (.int x3), some (.long x4), none, some (.int (v5 % 10)), o7]) d86_97 rfl rfl) ?_
    refine yL.eq (y_sipush (pc := 99) (v := 1000) d86_99 ks_1000) ?_
    refine yL.eq (y_aload_n (pc := 102) (x := 7) d86_102 rfl) ?_
    refine yL.eq (y_getr (pc := 103) (r := 26) d86_103 q86_30 s_r_7_3) ?_
    refine yL.eq (y_geti (pc := 106) d86_106 q86_106 (((yP_i yP26)).2).2.1) ?_
    refine yL.eq (y_imul (pc := 109) d86_109) ?_
    refine yL.eq (y_bipush (pc := 110) (v := 10) d86_110 kb_10) ?_
    refine yL.eq (y_aload_n (pc := 112) (x := 7) d86_112 rfl) ?_
    refine yL.eq (y_getr (pc := 113) (r := 26) d86_113 q86_30 s_r_7_3) ?_
    refine yL.eq (y_geti (pc := 116) d86_116 q86_109 ((yP_i yP26)).2.1) ?_
    refine yL.eq (y_imul (pc := 119) d86_119) ?_
    refine yL.eq (y_iadd (pc := 120) d86_120) ?_
    refine yL.eq (y_iload (pc := 121) (x := (v5 % 10)) d86_121 rfl) ?_
    refine yL.eq (y_iadd (pc := 123) d86_123) ?_
    exact yL.eq (y_ireti (pc := 124) d86_124 mr_86) yL.rf
set_option maxRecDepth 20000 in
set_option maxHeartbeats 4000000 in
theorem e87 {a1 : Int32} {M : yM} : yL (yCi false (yX 97 0 [some (.int a1)] [] M 0 0) fun v2 M1 => yCv true (yX 91 0 [some (.int v2)] [] M1 0 0) fun M3 => if yinB a1 2 = true then yCv false (yX 2 0 [some (.ref (171 + 9 * yx a1)), some (.ref 11)] [] M3 0 0) fun M5 => if yinB a1 2 = true then yLet (yU M5 189 (yx a1) (vp_nar .boolean 1)) fun M6 => yI (M6 11 1) M6 else none else none) (yX 87 0 [some (.ref 7), some (.int a1)] [] M 0 0) := by
  refine yL.eq (y_iload_n (pc := 0) (x := a1) d87_0 rfl) ?_
  refine y_calls_i (pc := 1) (n := 1) (n' := 1) (nc' := 0) (ns' := 0) [.int a1] [] false d87_1 q87_242 rfl rfl rfl (Nat.le_of_ble_eq_true rfl) (Nat.le_of_ble_eq_true rfl) rfl (by decide +kernel) (by decide +kernel) (fun v2 M1 => ?_)
  refine y_calls_v (pc := 4) (n := 1) (n' := 1) (nc' := 1) (ns' := 6) [.int v2] [] true d87_4 q87_126 rfl rfl rfl (Nat.le_of_ble_eq_true rfl) (Nat.le_of_ble_eq_true rfl) rfl (by decide +kernel) (by decide +kernel) (fun M3 => ?_)
  refine yL.eq (y_aload_n (pc := 7) (x := 7) d87_7 rfl) ?_
  refine yL.eq (y_getr (pc := 8) (r := 170) d87_8 q87_46 s_r_7_6) ?_
  refine yL.eq (y_iload_n (pc := 11) (x := a1) d87_11 rfl) ?_
  refine yL.eq (y_aald (pc := 12) d87_12 yAr_170) ?_
  refine yL.gd (fun h4 => ?_)
  refine yL.eq (y_aload_n (pc := 13) (x := 7) d87_13 rfl) ?_
  refine yL.eq (y_getr (pc := 14) (r := 11) d87_14 q87_27 s_r_7_2) ?_
  refine y_callv_v (pc := 17) (n := 2) (n' := 2) (nc' := 1) (ns' := 6) [.ref 11] [] false d87_17 q87_77 mk_2 (yC_t (yC_170 (yx_lt h4))) rfl rfl (Nat.le_of_ble_eq_true rfl) (Nat.le_of_ble_eq_true rfl) rfl (by decide +kernel) (by decide +kernel) (fun M5 => ?_)
  refine yL.eq (y_aload_n (pc := 20) (x := 7) d87_20 rfl) ?_
  refine yL.eq (y_getr (pc := 21) (r := 189) d87_21 q87_50 s_r_7_7) ?_
  refine yL.eq (y_iload_n (pc := 24) (x := a1) d87_24 rfl) ?_
  refine yL.eq (y_iconst (pc := 25) (v := 1) d87_25 kc_1) ?_
  refine y_bastL (pc := 26) (n := 2) d87_26 s_a_189 (fun h7 M6 => ?_)
  refine yL.eq (y_aload_n (pc := 27) (x := 7) d87_27 rfl) ?_
  refine yL.eq (y_getr (pc := 28) (r := 11) d87_28 q87_27 s_r_7_2) ?_
  refine yL.eq (y_geti (pc := 31) d87_31 q87_90 ((yC_i yC11)).2.1) ?_
  exact yL.eq (y_ireti (pc := 34) d87_34 mr_87) yL.rf
set_option maxRecDepth 20000 in
set_option maxHeartbeats 4000000 in
theorem e88 {a1 : Int32} {M : yM} : yL (yCi false (yX 97 0 [some (.int a1)] [] M 0 0) fun v2 M1 => yCv true (yX 91 0 [some (.int v2)] [] M1 0 0) fun M3 => if yinB a1 2 = true then yCv true (yX 93 0 [some (.int (M3 189 (yx a1)))] [] M3 0 0) fun M5 => if yinB a1 2 = true then yCv false (yX 2 0 [some (.ref 11), some (.ref (171 + 9 * yx a1))] [] M5 0 0) fun M7 => yCv false (yX 38 0 [some (.ref 42)] [] M7 0 0) fun M8 => yI (M8 11 1) M8 else none else none) (yX 88 0 [some (.ref 7), some (.int a1)] [] M 0 0) := by
  refine yL.eq (y_iload_n (pc := 0) (x := a1) d88_0 rfl) ?_
  refine y_calls_i (pc := 1) (n := 1) (n' := 1) (nc' := 0) (ns' := 0) [.int a1] [] false d88_1 q88_242 rfl rfl rfl (Nat.le_of_ble_eq_true rfl) (Nat.le_of_ble_eq_true rfl) rfl (by decide +kernel) (by decide +kernel) (fun v2 M1 => ?_)
  refine y_calls_v (pc := 4) (n := 1) (n' := 1) (nc' := 1) (ns' := 6) [.int v2] [] true d88_4 q88_126 rfl rfl rfl (Nat.le_of_ble_eq_true rfl) (Nat.le_of_ble_eq_true rfl) rfl (by decide +kernel) (by decide +kernel) (fun M3 => ?_)
  refine yL.eq (y_aload_n (pc := 7) (x := 7) d88_7 rfl) ?_
  refine yL.eq (y_getr (pc := 8) (r := 189) d88_8 q88_50 s_r_7_7) ?_
  refine yL.eq (y_iload_n (pc := 11) (x := a1) d88_11 rfl) ?_
  refine yL.eq (y_bald (pc := 12) (n := 2) d88_12 s_a_189) ?_
  refine yL.gd (fun h4 => ?_)
  refine y_calls_v (pc := 13) (n := 1) (n' := 1) (nc' := 2) (ns' := 12) [.int (M3 189 (yx a1))] [] true d88_13 q88_66 rfl rfl rfl (Nat.le_of_ble_eq_true rfl) (Nat.le_of_ble_eq_true rfl) rfl (by decide +kernel) (by decide +kernel) (fun M5 => ?_)
  refine yL.eq (y_aload_n (pc := 16) (x := 7) d88_16 rfl) ?_
  refine yL.eq (y_getr (pc := 17) (r := 11) d88_17 q88_27 s_r_7_2) ?_
  refine yL.eq (y_aload_n (pc := 20) (x := 7) d88_20 rfl) ?_
  refine yL.eq (y_getr (pc := 21) (r := 170) d88_21 q88_46 s_r_7_6) ?_
  refine yL.eq (y_iload_n (pc := 24) (x := a1) d88_24 rfl) ?_
  refine yL.eq (y_aald (pc := 25) d88_25 yAr_170) ?_
  refine yL.gd (fun h6 => ?_)
  refine y_callv_v (pc := 26) (n := 2) (n' := 2) (nc' := 2) (ns' := 12) [.ref (171 + 9 * yx a1)] [] false d88_26 q88_77 mk_2 (yC_t yC11) rfl rfl (Nat.le_of_ble_eq_true rfl) (Nat.le_of_ble_eq_true rfl) rfl (by decide +kernel) (by decide +kernel) (fun M7 => ?_)
  refine yL.eq (y_aload_n (pc := 29) (x := 7) d88_29 rfl) ?_
  refine yL.eq (y_getr (pc := 30) (r := 42) d88_30 q88_39 s_r_7_5) ?_
  refine y_callv_v (pc := 33) (n := 1) (n' := 1) (nc' := 2) (ns' := 12) [] [] false d88_33 q88_81 mk_38 s_t_42 rfl rfl (Nat.le_of_ble_eq_true rfl) (Nat.le_of_ble_eq_true rfl) rfl (by decide +kernel) (by decide +kernel) (fun M8 => ?_)
  refine yL.eq (y_aload_n (pc := 36) (x := 7) d88_36 rfl) ?_
  refine yL.eq (y_getr (pc := 37) (r := 11) d88_37 q88_27 s_r_7_2) ?_
  refine yL.eq (y_geti (pc := 40) d88_40 q88_90 ((yC_i yC11)).2.1) ?_
  exact yL.eq (y_ireti (pc := 43) d88_43 mr_88) yL.rf
set_option maxRecDepth 20000 in
set_option maxHeartbeats 4000000 in
theorem e89 {a1 : Int32} {a2 : Int32} {a3 : Int32} {a4 : Int32} {M : yM} : yL (yCi false (yX 6 0 [some (.ref 11), some (.int a1), some (.int a2), some (.int a3), some (.int a4)] [] M 0 0) fun v2 M1 => yCv true (yX 90 0 [some (.int v2)] [] M1 0 0) fun M3 => yCv false (yX 36 0 [some (.ref 42), some (.ref 11)] [] M3 0 0) fun M4 => yCi false (yX 8 0 [some (.ref 11), some (.int a1), some (.int a2), some (.int a3), some (.int a4)] [] M4 0 0) fun v6 M5 => yI v6 M5) (yX 89 0 [some (.ref 7), some (.int a1), some (.int a2), some (.int a3), some (.int a4)] [] M 0 0) := by
  refine yL.eq (y_aload_n (pc := 0) (x := 7) d89_0 rfl) ?_
  refine yL.eq (y_getr (pc := 1) (r := 11) d89_1 q89_27 s_r_7_2) ?_
  refine yL.eq (y_iload_n (pc := 4) (x := a1) d89_4 rfl) ?_
  refine yL.eq (y_iload_n (pc := 5) (x := a2) d89_5 rfl) ?_
  refine yL.eq (y_iload_n (pc := 6) (x := a3) d89_6 rfl) ?_
  refine yL.eq (y_iload (pc := 7) (x := a4) d89_7 rfl) ?_
  refine y_callv_i (pc := 9) (n := 5) (n' := 5) (nc' := 0) (ns' := 0) [.int a1, .int a2, .int a3, .int a4] [] false d89_9 q89_245 mk_6 (yC_t yC11) rfl rfl (Nat.le_of_ble_eq_true rfl) (Nat.le_of_ble_eq_true rfl) rfl (by decide +kernel) (by decide +kernel) (fun v2 M1 => ?_)
  refine y_calls_v (pc := 12) (n := 1) (n' := 1) (nc' := 3) (ns' := 18) [.int v2] [] true d89_12 q89_248 rfl rfl rfl (Nat.le_of_ble_eq_true rfl) (Nat.le_of_ble_eq_true rfl) rfl (by decide +kernel) (by decide +kernel) (fun M3 => ?_)
  refine yL.eq (y_aload_n (pc := 15) (x := 7) d89_15 rfl) ?_
  refine yL.eq (y_getr (pc := 16) (r := 42) d89_16 q89_39 s_r_7_5) ?_
  refine yL.eq (y_aload_n (pc := 19) (x := 7) d89_19 rfl) ?_
  refine yL.eq (y_getr (pc := 20) (r := 11) d89_20 q89_27 s_r_7_2) ?_
  refine y_callv_v (pc := 23) (n := 2) (n' := 2) (nc' := 3) (ns' := 18) [.ref 11] [] false d89_23 q89_252 mk_36 s_t_42 rfl rfl (Nat.le_of_ble_eq_true rfl) (Nat.le_of_ble_eq_true rfl) rfl (by decide +kernel) (by decide +kernel) (fun M4 => ?_)
  refine yL.eq (y_aload_n (pc := 26) (x := 7) d89_26 rfl) ?_
  refine yL.eq (y_getr (pc := 27) (r := 11) d89_27 q89_27 s_r_7_2) ?_
  refine yL.eq (y_iload_n (pc := 30) (x := a1) d89_30 rfl) ?_
  refine yL.eq (y_iload_n (pc := 31) (x := a2) d89_31 rfl) ?_
  refine yL.eq (y_iload_n (pc := 32) (x := a3) d89_32 rfl) ?_
  refine yL.eq (y_iload (pc := 33) (x := a4) d89_33 rfl) ?_
  refine y_callv_i (pc := 35) (n := 5) (n' := 5) (nc' := 3) (ns' := 18) [.int a1, .int a2, .int a3, .int a4] [] false d89_35 q89_255 mk_8 (yC_t yC11) rfl rfl (Nat.le_of_ble_eq_true rfl) (Nat.le_of_ble_eq_true rfl) rfl (by decide +kernel) (by decide +kernel) (fun v6 M5 => ?_)
  exact yL.eq (y_ireti (pc := 38) d89_38 mr_89) yL.rf
set_option maxRecDepth 20000 in
set_option maxHeartbeats 4000000 in
theorem e90 {a0 : Int32} {M : yM} : yL (if a0 = 1 then yCv true (yX 91 0 [some (.int 0)] [] M 0 0) fun M2 => if a0 = 2 then yCv true (yX 92 0 [some (.int 0)] [] M2 0 0) fun M4 => if a0 = 3 then yCv true (yX 93 0 [some (.int 0)] [] M4 0 0) fun M6 => yV M6 else yCv true (yX 93 0 [some (.int 1)] [] M4 0 0) fun M7 => yV M7 else yCv true (yX 92 0 [some (.int 1)] [] M2 0 0) fun M8 => if a0 = 3 then yCv true (yX 93 0 [some (.int 0)] [] M8 0 0) fun M10 => yV M10 else yCv true (yX 93 0 [some (.int 1)] [] M8 0 0) fun M11 => yV M11 else yCv true (yX 91 0 [some (.int 1)] [] M 0 0) fun M12 => if a0 = 2 then yCv true (yX 92 0 [some (.int 0)] [] M12 0 0) fun M14 => if a0 = 3 then yCv true (yX 93 0 [some (.int 0)] [] M14 0 0) fun M16 => yV M16 else yCv true (yX 93 0 [some (.int 1)] [] M14 0 0) fun M17 => yV M17 else yCv true (yX 92 0 [some (.int 1)] [] M12 0 0) fun M18 => if a0 = 3 then yCv true (yX 93 0 [some (.int 0)] [] M18 0 0) fun M20 => yV M20 else yCv true (yX 93 0 [some (.int 1)] [] M18 0 0) fun M21 => yV M21) (yX 90 0 [some (.int a0)] [] M 0 0) := by
  refine yL.eq (y_iload_n (pc := 0) (x := a0) d90_0 rfl) ?_
  refine yL.eq (y_iconst (pc := 1) (v := 1) d90_1 kc_1) ?_
  refine yL.eq (y_icmp_eq (pc := 2) (t := 9) d90_2 (by decide)) ?_
  refine yL.ite (fun h1 => ?_) (fun h1 => ?_)
  ·
    refine yL.eq (y_iconst (pc := 9) (v := 0) d90_9 kc_0) ?_
    refine y_calls_v (pc := 10) (n := 1) (n' := 1) (nc' := 1) (ns' := 6) [.int 0] [] true d90_10 q90_126 rfl rfl rfl (Nat.le_of_ble_eq_true rfl) (Nat.le_of_ble_eq_true rfl) rfl (by decide +kernel) (by decide +kernel) (fun M2 => ?_)
    refine yL.eq (y_iload_n (pc := 13) (x := a0) d90_13 rfl) ?_
    refine yL.eq (y_iconst (pc := 14) (v := 2) d90_14 kc_2) ?_
    refine yL.eq (y_icmp_eq (pc := 15) (t := 22) d90_15 (by decide)) ?_
    refine yL.ite (fun h3 => ?_) (fun h3 => ?_)
    ·
      refine yL.eq (y_iconst (pc := 22) (v := 0) d90_22 kc_0) ?_
      refine y_calls_v (pc := 23) (n := 1) (n' := 1) (nc' := 2) (ns' := 12) [.int 0] [] true d90_23 q90_58 rfl rfl rfl (Nat.le_of_ble_eq_true rfl) (Nat.le_of_ble_eq_true rfl) rfl (by decide +kernel) (by decide +kernel) (fun M4 => ?_)
      refine yL.eq (y_iload_n (pc := 26) (x := a0) d90_26 rfl) ?_
      refine yL.eq (y_iconst (pc := 27) (v := 3) d90_27 kc_3) ?_
      refine yL.eq (y_icmp_eq (pc := 28) (t := 35) d90_28 (by decide)) ?_
      refine yL.ite (fun h5 => ?_) (fun h5 => ?_)
      ·
        refine yL.eq (y_iconst (pc := 35) (v := 0) d90_35 kc_0) ?_
        refine y_calls_v (pc := 36) (n := 1) (n' := 1) (nc' := 3) (ns' := 18) [.int 0] [] true d90_36 q90_66 rfl rfl rfl (Nat.le_of_ble_eq_true rfl) (Nat.le_of_ble_eq_true rfl) rfl (by decide +kernel) (by decide +kernel) (fun M6 => ?_)
        exact yL.eq (y_ret (pc := 39) d90_39 mr_90) yL.rf
      ·
        refine yL.eq (y_iconst (pc := 31) (v := 1) d90_31 kc_1) ?_
        refine yL.eq (y_goto (pc := 32) (t := 36) d90_32 (by decide)) ?_
        refine y_calls_v (pc := 36) (n := 1) (n' := 1) (nc' := 3) (ns' := 18) [.int 1] [] true d90_36 q90_66 rfl rfl rfl (Nat.le_of_ble_eq_true rfl) (Nat.le_of_ble_eq_true rfl) rfl (by decide +kernel) (by decide +kernel) (fun M7 => ?_)
        exact yL.eq (y_ret (pc := 39) d90_39 mr_90) yL.rf
    ·
      refine yL.eq (y_iconst (pc := 18) (v := 1) d90_18 kc_1) ?_
      refine yL.eq (y_goto (pc := 19) (t := 23) d90_19 (by decide)) ?_
      refine y_calls_v (pc := 23) (n := 1) (n' := 1) (nc' := 2) (ns' := 12) [.int 1] [] true d90_23 q90_58 rfl rfl rfl (Nat.le_of_ble_eq_true rfl) (Nat.le_of_ble_eq_true rfl) rfl (by decide +kernel) (by decide +kernel) (fun M8 => ?_)
      refine yL.eq (y_iload_n (pc := 26) (x := a0) d90_26 rfl) ?_
      refine yL.eq (y_iconst (pc := 27) (v := 3) d90_27 kc_3) ?_
      refine yL.eq (y_icmp_eq (pc := 28) (t := 35) d90_28 (by decide)) ?_
      refine yL.ite (fun h9 => ?_) (fun h9 => ?_)
      ·
        refine yL.eq (y_iconst (pc := 35) (v := 0) d90_35 kc_0) ?_
        refine y_calls_v (pc := 36) (n := 1) (n' := 1) (nc' := 3) (ns' := 18) [.int 0] [] true d90_36 q90_66 rfl rfl rfl (Nat.le_of_ble_eq_true rfl) (Nat.le_of_ble_eq_true rfl) rfl (by decide +kernel) (by decide +kernel) (fun M10 => ?_)
        exact yL.eq (y_ret (pc := 39) d90_39 mr_90) yL.rf
      ·
        refine yL.eq (y_iconst (pc := 31) (v := 1) d90_31 kc_1) ?_
        refine yL.eq (y_goto (pc := 32) (t := 36) d90_32 (by decide)) ?_
        refine y_calls_v (pc := 36) (n := 1) (n' := 1) (nc' := 3) (ns' := 18) [.int 1] [] true d90_36 q90_66 rfl rfl rfl (Nat.le_of_ble_eq_true rfl) (Nat.le_of_ble_eq_true rfl) rfl (by decide +kernel) (by decide +kernel) (fun M11 => ?_)
        exact yL.eq (y_ret (pc := 39) d90_39 mr_90) yL.rf
  ·
    refine yL.eq (y_iconst (pc := 5) (v := 1) d90_5 kc_1) ?_
    refine yL.eq (y_goto (pc := 6) (t := 10) d90_6 (by decide)) ?_
    refine y_calls_v (pc := 10) (n := 1) (n' := 1) (nc' := 1) (ns' := 6) [.int 1] [] true d90_10 q90_126 rfl rfl rfl (Nat.le_of_ble_eq_true rfl) (Nat.le_of_ble_eq_true rfl) rfl (by decide +kernel) (by decide +kernel) (fun M12 => ?_)
    refine yL.eq (y_iload_n (pc := 13) (x := a0) d90_13 rfl) ?_
    refine yL.eq (y_iconst (pc := 14) (v := 2) d90_14 kc_2) ?_
    refine yL.eq (y_icmp_eq (pc := 15) (t := 22) d90_15 (by decide)) ?_
    refine yL.ite (fun h13 => ?_) (fun h13 => ?_)
    ·
      refine yL.eq (y_iconst (pc := 22) (v := 0) d90_22 kc_0) ?_
      refine y_calls_v (pc := 23) (n := 1) (n' := 1) (nc' := 2) (ns' := 12) [.int 0] [] true d90_23 q90_58 rfl rfl rfl (Nat.le_of_ble_eq_true rfl) (Nat.le_of_ble_eq_true rfl) rfl (by decide +kernel) (by decide +kernel) (fun M14 => ?_)
      refine yL.eq (y_iload_n (pc := 26) (x := a0) d90_26 rfl) ?_
      refine yL.eq (y_iconst (pc := 27) (v := 3) d90_27 kc_3) ?_
      refine yL.eq (y_icmp_eq (pc := 28) (t := 35) d90_28 (by decide)) ?_
      refine yL.ite (fun h15 => ?_) (fun h15 => ?_)
      ·
        refine yL.eq (y_iconst (pc := 35) (v := 0) d90_35 kc_0) ?_
        refine y_calls_v (pc := 36) (n := 1) (n' := 1) (nc' := 3) (ns' := 18) [.int 0] [] true d90_36 q90_66 rfl rfl rfl (Nat.le_of_ble_eq_true rfl) (Nat.le_of_ble_eq_true rfl) rfl (by decide +kernel) (by decide +kernel) (fun M16 => ?_)
        exact yL.eq (y_ret (pc := 39) d90_39 mr_90) yL.rf
      ·
        refine yL.eq (y_iconst (pc := 31) (v := 1) d90_31 kc_1) ?_
        refine yL.eq (y_goto (pc := 32) (t := 36) d90_32 (by decide)) ?_
        refine y_calls_v (pc := 36) (n := 1) (n' := 1) (nc' := 3) (ns' := 18) [.int 1] [] true d90_36 q90_66 rfl rfl rfl (Nat.le_of_ble_eq_true rfl) (Nat.le_of_ble_eq_true rfl) rfl (by decide +kernel) (by decide +kernel) (fun M17 => ?_)
        exact yL.eq (y_ret (pc := 39) d90_39 mr_90) yL.rf
    ·
      refine yL.eq (y_iconst (pc := 18) (v := 1) d90_18 kc_1) ?_
      refine yL.eq (y_goto (pc := 19) (t := 23) d90_19 (by decide)) ?_
      refine y_calls_v (pc := 23) (n := 1) (n' := 1) (nc' := 2) (ns' := 12) [.int 1] [] true d90_23 q90_58 rfl rfl rfl (Nat.le_of_ble_eq_true rfl) (Nat.le_of_ble_eq_true rfl) rfl (by decide +kernel) (by decide +kernel) (fun M18 => ?_)
      refine yL.eq (y_iload_n (pc := 26) (x := a0) d90_26 rfl) ?_
      refine yL.eq (y_iconst (pc := 27) (v := 3) d90_27 kc_3) ?_
      refine yL.eq (y_icmp_eq (pc := 28) (t := 35) d90_28 (by decide)) ?_
      refine yL.ite (fun h19 => ?_) (fun h19 => ?_)
      ·
        refine yL.eq (y_iconst (pc := 35) (v := 0) d90_35 kc_0) ?_
        refine y_calls_v (pc := 36) (n := 1) (n' := 1) (nc' := 3) (ns' := 18) [.int 0] [] true d90_36 q90_66 rfl rfl rfl (Nat.le_of_ble_eq_true rfl) (Nat.le_of_ble_eq_true rfl) rfl (by decide +kernel) (by decide +kernel) (fun M20 => ?_)
        exact yL.eq (y_ret (pc := 39) d90_39 mr_90) yL.rf
      ·
        refine yL.eq (y_iconst (pc := 31) (v := 1) d90_31 kc_1) ?_
        refine yL.eq (y_goto (pc := 32) (t := 36) d90_32 (by decide)) ?_
        refine y_calls_v (pc := 36) (n := 1) (n' := 1) (nc' := 3) (ns' := 18) [.int 1] [] true d90_36 q90_66 rfl rfl rfl (Nat.le_of_ble_eq_true rfl) (Nat.le_of_ble_eq_true rfl) rfl (by decide +kernel) (by decide +kernel) (fun M21 => ?_)
        exact yL.eq (y_ret (pc := 39) d90_39 mr_90) yL.rf
set_option maxRecDepth 20000 in
set_option maxHeartbeats 4000000 in
theorem e91 {a0 : Int32} {M : yM} : yL (if a0 = 0 then yTw 0 M else yV M) (yX 91 0 [some (.int a0)] [] M 0 0) := by
  refine yL.eq (y_iload_n (pc := 0) (x := a0) d91_0 rfl) ?_
  refine yL.eq (y_if_ne (pc := 1) (t := 15) d91_1 (by decide)) ?_
  refine yL.ite (fun h1 => ?_) (fun h1 => ?_)
  ·
    exact yL.eq (y_thr (pc := 4) d91_4 (by decide +kernel) (by decide +kernel)) yL.rf
  ·
    exact yL.eq (y_ret (pc := 15) d91_15 mr_91) yL.rf
set_option maxRecDepth 20000 in
set_option maxHeartbeats 4000000 in
theorem e92 {a0 : Int32} {M : yM} : yL (if a0 = 0 then yTw 1 M else yV M) (yX 92 0 [some (.int a0)] [] M 0 0) := by
  refine yL.eq (y_iload_n (pc := 0) (x := a0) d92_0 rfl) ?_
  refine yL.eq (y_if_ne (pc := 1) (t := 15) d92_1 (by decide)) ?_
  refine yL.ite (fun h1 => ?_) (fun h1 => ?_)
  ·
    exact yL.eq (y_thr (pc := 4) d92_4 (by decide +kernel) (by decide +kernel)) yL.rf
  ·
    exact yL.eq (y_ret (pc := 15) d92_15 mr_92) yL.rf
set_option maxRecDepth 20000 in
set_option maxHeartbeats 4000000 in
theorem e93 {a0 : Int32} {M : yM} : yL (if a0 = 0 then yTw 2 M else yV M) (yX 93 0 [some (.int a0)] [] M 0 0) := by
  refine yL.eq (y_iload_n (pc := 0) (x := a0) d93_0 rfl) ?_
  refine yL.eq (y_if_ne (pc := 1) (t := 15) d93_1 (by decide)) ?_
  refine yL.ite (fun h1 => ?_) (fun h1 => ?_)
  ·
    exact yL.eq (y_thr (pc := 4) d93_4 (by decide +kernel) (by decide +kernel)) yL.rf
  ·
    exact yL.eq (y_ret (pc := 15) d93_15 mr_93) yL.rf
set_option maxRecDepth 20000 in
set_option maxHeartbeats 4000000 in
theorem e94 {a0 : Int32} {a1 : Int32} {a2 : Int32} {M : yM} : yL (if a1 ≤ a0 then if a0 ≤ a2 then yI 1 M else yI 0 M else yI 0 M) (yX 94 0 [some (.int a0), some (.int a1), some (.int a2)] [] M 0 0) := by
  refine yL.eq (y_iload_n (pc := 0) (x := a1) d94_0 rfl) ?_
  refine yL.eq (y_iload_n (pc := 1) (x := a0) d94_1 rfl) ?_
  refine yL.eq (y_icmp_gt (pc := 2) (t := 14) d94_2 (by decide)) ?_
  refine yL.ite (fun h1 => ?_) (fun h1 => ?_)
  ·
    refine yL.eq (y_iload_n (pc := 5) (x := a0) d94_5 rfl) ?_
    refine yL.eq (y_iload_n (pc := 6) (x := a2) d94_6 rfl) ?_
    refine yL.eq (y_icmp_gt (pc := 7) (t := 14) d94_7 (by decide)) ?_
    refine yL.ite (fun h2 => ?_) (fun h2 => ?_)
    ·
      refine yL.eq (y_iconst (pc := 10) (v := 1) d94_10 kc_1) ?_
      refine yL.eq (y_goto (pc := 11) (t := 15) d94_11 (by decide)) ?_
      exact yL.eq (y_iretz (pc := 15) d94_15 mr_94) (yL.eq yZ_1 yL.rf)
    ·
      refine yL.eq (y_iconst (pc := 14) (v := 0) d94_14 kc_0) ?_
      exact yL.eq (y_iretz (pc := 15) d94_15 mr_94) (yL.eq yZ_0 yL.rf)
  ·
    refine yL.eq (y_iconst (pc := 14) (v := 0) d94_14 kc_0) ?_
    exact yL.eq (y_iretz (pc := 15) d94_15 mr_94) (yL.eq yZ_0 yL.rf)
set_option maxRecDepth 20000 in
set_option maxHeartbeats 4000000 in
theorem e95 {a0 : Int32} {M : yM} : yL (yCi false (yX 94 0 [some (.int a0), some (.int 0), some (.int 3)] [] M 0 0) fun v2 M1 => yZ v2 M1) (yX 95 0 [some (.int a0)] [] M 0 0) := by
  refine yL.eq (y_iload_n (pc := 0) (x := a0) d95_0 rfl) ?_
  refine yL.eq (y_iconst (pc := 1) (v := 0) d95_1 kc_0) ?_
  refine yL.eq (y_iconst (pc := 2) (v := 3) d95_2 kc_3) ?_
  refine y_calls_i (pc := 3) (n := 3) (n' := 3) (nc' := 0) (ns' := 0) [.int a0, .int 0, .int 3] [] false d95_3 q95_54 rfl rfl rfl (Nat.le_of_ble_eq_true rfl) (Nat.le_of_ble_eq_true rfl) rfl (by decide +kernel) (by decide +kernel) (fun v2 M1 => ?_)
  exact yL.eq (y_iretz (pc := 6) d95_6 mr_95) yL.rf
set_option maxRecDepth 20000 in
set_option maxHeartbeats 4000000 in
theorem e96 {a0 : Int32} {M : yM} : yL (yCi false (yX 94 0 [some (.int a0), some (.int 0), some (.int 4)] [] M 0 0) fun v2 M1 => yZ v2 M1) (yX 96 0 [some (.int a0)] [] M 0 0) := by
  refine yL.eq (y_iload_n (pc := 0) (x := a0) d96_0 rfl) ?_
  refine yL.eq (y_iconst (pc := 1) (v := 0) d96_1 kc_0) ?_
  refine yL.eq (y_iconst (pc := 2) (v := 4) d96_2 kc_4) ?_
  refine y_calls_i (pc := 3) (n := 3) (n' := 3) (nc' := 0) (ns' := 0) [.int a0, .int 0, .int 4] [] false d96_3 q96_54 rfl rfl rfl (Nat.le_of_ble_eq_true rfl) (Nat.le_of_ble_eq_true rfl) rfl (by decide +kernel) (by decide +kernel) (fun v2 M1 => ?_)
  exact yL.eq (y_iretz (pc := 6) d96_6 mr_96) yL.rf
set_option maxRecDepth 20000 in
set_option maxHeartbeats 4000000 in
theorem e97 {a0 : Int32} {M : yM} : yL (yCi false (yX 94 0 [some (.int a0), some (.int 0), some (.int 1)] [] M 0 0) fun v2 M1 => yZ v2 M1) (yX 97 0 [some (.int a0)] [] M 0 0) := by
  refine yL.eq (y_iload_n (pc := 0) (x := a0) d97_0 rfl) ?_
  refine yL.eq (y_iconst (pc := 1) (v := 0) d97_1 kc_0) ?_
  refine yL.eq (y_iconst (pc := 2) (v := 1) d97_2 kc_1) ?_
  refine y_calls_i (pc := 3) (n := 3) (n' := 3) (nc' := 0) (ns' := 0) [.int a0, .int 0, .int 1] [] false d97_3 q97_54 rfl rfl rfl (Nat.le_of_ble_eq_true rfl) (Nat.le_of_ble_eq_true rfl) rfl (by decide +kernel) (by decide +kernel) (fun v2 M1 => ?_)
  exact yL.eq (y_iretz (pc := 6) d97_6 mr_97) yL.rf
set_option maxRecDepth 20000 in
set_option maxHeartbeats 4000000 in
theorem e98 {a0 : Int32} {M : yM} : yL (if a0 = 0 then yI 0 M else yI 1 M) (yX 98 0 [some (.int a0)] [] M 0 0) := by
  refine yL.eq (y_iload_n (pc := 0) (x := a0) d98_0 rfl) ?_
  refine yL.eq (y_if_eq (pc := 1) (t := 8) d98_1 (by decide)) ?_
  refine yL.ite (fun h1 => ?_) (fun h1 => ?_)
  ·
    refine yL.eq (y_iconst (pc := 8) (v := 0) d98_8 kc_0) ?_
    exact yL.eq (y_ireti (pc := 9) d98_9 mr_98) yL.rf
  ·
    refine yL.eq (y_iconst (pc := 4) (v := 1) d98_4 kc_1) ?_
    refine yL.eq (y_goto (pc := 5) (t := 9) d98_5 (by decide)) ?_
    exact yL.eq (y_ireti (pc := 9) d98_9 mr_98) yL.rf
set_option maxRecDepth 20000 in
set_option maxHeartbeats 4000000 in
theorem e99 {a0 : Int32} {a1 : Int32} {M : yM} : yL (if ((a0 >>> (a1 &&& 31)) &&& 1) = 1 then yI 1 M else yI 0 M) (yX 99 0 [some (.int a0), some (.int a1)] [] M 0 0) := by
  refine yL.eq (y_iload_n (pc := 0) (x := a0) d99_0 rfl) ?_
  refine yL.eq (y_iload_n (pc := 1) (x := a1) d99_1 rfl) ?_
  refine yL.eq (y_ishr (pc := 2) d99_2) ?_
  refine yL.eq (y_iconst (pc := 3) (v := 1) d99_3 kc_1) ?_
  refine yL.eq (y_iand (pc := 4) d99_4) ?_
  refine yL.eq (y_iconst (pc := 5) (v := 1) d99_5 kc_1) ?_
  refine yL.eq (y_icmp_ne (pc := 6) (t := 13) d99_6 (by decide)) ?_
  refine yL.ite (fun h1 => ?_) (fun h1 => ?_)
  ·
    refine yL.eq (y_iconst (pc := 9) (v := 1) d99_9 kc_1) ?_
    refine yL.eq (y_goto (pc := 10) (t := 14) d99_10 (by decide)) ?_
    exact yL.eq (y_iretz (pc := 14) d99_14 mr_99) (yL.eq yZ_1 yL.rf)
  ·
    refine yL.eq (y_iconst (pc := 13) (v := 0) d99_13 kc_0) ?_
    exact yL.eq (y_iretz (pc := 14) d99_14 mr_99) (yL.eq yZ_0 yL.rf)
set_option maxRecDepth 20000 in
set_option maxHeartbeats 4000000 in
theorem e100 {a0 : Int32} {a1 : Int32} {a2 : Int32} {M : yM} : yL (if a2 = 0 then yI (a0 &&& (((1 : Int32) <<< (a1 &&& 31)) ^^^ (-1))) M else yI (a0 ||| ((1 : Int32) <<< (a1 &&& 31))) M) (yX 100 0 [some (.int a0), some (.int a1), some (.int a2)] [] M 0 0) := by
  refine yL.eq (y_iload_n (pc := 0) (x := a2) d100_0 rfl) ?_
  refine yL.eq (y_if_eq (pc := 1) (t := 12) d100_1 (by decide)) ?_
  refine yL.ite (fun h1 => ?_) (fun h1 => ?_)
  ·
    refine yL.eq (y_iload_n (pc := 12) (x := a0) d100_12 rfl) ?_
    refine yL.eq (y_iconst (pc := 13) (v := 1) d100_13 kc_1) ?_
    refine yL.eq (y_iload_n (pc := 14) (x := a1) d100_14 rfl) ?_
    refine yL.eq (y_ishl (pc := 15) d100_15) ?_
    refine yL.eq (y_iconst (pc := 16) (v := (-1)) d100_16 kc_m1) ?_
    refine yL.eq (y_ixor (pc := 17) d100_17) ?_
    refine yL.eq (y_iand (pc := 18) d100_18) ?_
    exact yL.eq (y_ireti (pc := 19) d100_19 mr_100) yL.rf
  ·
    refine yL.eq (y_iload_n (pc := 4) (x := a0) d100_4 rfl) ?_
    refine yL.eq (y_iconst (pc := 5) (v := 1) d100_5 kc_1) ?_
    refine yL.eq (y_iload_n (pc := 6) (x := a1) d100_6 rfl) ?_
    refine yL.eq (y_ishl (pc := 7) d100_7) ?_
    refine yL.eq (y_ior (pc := 8) d100_8) ?_
    refine yL.eq (y_goto (pc := 9) (t := 19) d100_9 (by decide)) ?_
    exact yL.eq (y_ireti (pc := 19) d100_19 mr_100) yL.rf
set_option maxRecDepth 20000 in
set_option maxHeartbeats 4000000 in
theorem e101 {a1 : Int32} {M : yM} : yL (if (a1 / 100000) = 1 then if (a1 % 10) = 0 then yCi false (yX 5 0 [some (.ref 27), some (.int 5), some (.int ((a1 / 1000) % 100)), some (.int ((a1 / 10) % 100)), some (.int 0)] [] M 0 0) fun v4 M3 => if v4 = 0 then yI 0 M3 else yI 1 M3 else yI 0 M else if (a1 / 100000) = 2 then if (a1 % 10) = 0 then yCi false (yX 5 0 [some (.ref 27), some (.int 8), some (.int ((a1 / 1000) % 100)), some (.int ((a1 / 10) % 100)), some (.int 0)] [] M 0 0) fun v9 M8 => if v9 = 0 then yI 0 M8 else yI 1 M8 else yI 0 M else if (a1 / 100000) = 3 then if (a1 % 10) ≤ 1 then yCi false (yX 5 0 [some (.ref 27), some (.int 3), some (.int ((a1 / 1000) % 100)), some (.int ((a1 / 10) % 100)), some (.int (a1 % 10))] [] M 0 0) fun v14 M13 => if v14 = 0 then yI 0 M13 else yI 1 M13 else yI 0 M else if (a1 / 100000) = 4 then if (a1 % 1000) = 0 then yCi false (yX 5 0 [some (.ref 27), some (.int 4), some (.int (((a1 / 1000) % 100) / 10)), some (.int (((a1 / 1000) % 100) % 10)), some (.int 0)] [] M 0 0) fun v19 M18 => if v19 = 0 then yI 0 M18 else yI 1 M18 else yI 0 M else if (a1 / 100000) = 5 then if ((a1 / 100) % 100) = 0 then yCi false (yX 5 0 [some (.ref 27), some (.int 6), some (.int (((a1 / 1000) % 100) / 10)), some (.int (a1 % 100)), some (.int 0)] [] M 0 0) fun v24 M23 => if v24 = 0 then yI 0 M23 else yI 1 M23 else yI 0 M else if (a1 / 100000) = 6 then if (a1 % 10) = 0 then yCi false (yX 102 0 [some (.ref 7), some (.int ((a1 / 1000) % 100)), some (.int ((a1 / 10) % 100))] [] M 0 0) fun v29 M28 => if v29 = 0 then yI 0 M28 else yI 1 M28 else yI 0 M else if (a1 / 100000) = 7 then if ((a1 / 1000) % 100) = 0 then if (M 26 8) ≤ (a1 % 1000) then yI 1 M else yI 0 M else yI 0 M else if (a1 / 100000) = 8 then if ((a1 / 100) % 10) = 0 then yCi false (yX 103 0 [some (.ref 7), some (.int ((a1 / 1000) % 100)), some (.int (a1 % 100))] [] M 0 0) fun v37 M36 => if v37 = 0 then yI 0 M36 else yI 1 M36 else yI 0 M else if (a1 / 100000) = 9 then if ((a1 / 1000) % 100) = 0 then if ((a1 / 10) % 100) = 0 then if (M 26 7) ≤ (a1 % 10) then yI 1 M else yI 0 M else yI 0 M else yI 0 M else yI 0 M) (yX 101 0 [some (.ref 7), some (.int a1), none, none, none] [] M 0 0) := by
  refine yL.eq (y_iload_n (pc := 0) (x := a1) d101_0 rfl) ?_
  refine yL.eq (y_sipush (pc := 1) (v := 1000) d101_1 ks_1000) ?_
  refine yL.eq (y_idivc (pc := 4) d101_4 nzI_1000) ?_
  refine yL.eq (y_bipush (pc := 5) (v := 100) d101_5 kb_100) ?_
  refine yL.eq (y_imodc (pc := 7) d101_7 nzI_100) ?_
  refine yL.eq (y_istore_n (pc := 8) (ls' := [some (.ref 7), some (.int a1), some (.int ((a1 / 1000) % 100)), none, none]) d101_8 rfl rfl) ?_
  refine yL.eq (y_iload_n (pc := 9) (x := a1) d101_9 rfl) ?_
  refine yL.eq (y_bipush (pc := 10) (v := 10) d101_10 kb_10) ?_
  refine yL.eq (y_idivc (pc := 12) d101_12 nzI_10) ?_
  refine yL.eq (y_bipush (pc := 13) (v := 100) d101_13 kb_100) ?_
  refine yL.eq (y_imodc (pc := 15) d101_15 nzI_100) ?_
  refine yL.eq (y_istore_n (pc := 16) (ls' := [some (.ref 7), some (.int a1), some (.int ((a1 / 1000) % 100)), some (.int ((a1 / 10) % 100)), none]) d101_16 rfl rfl) ?_
  refine yL.eq (y_iload_n (pc := 17) (x := a1) d101_17 rfl) ?_
  refine yL.eq (y_bipush (pc := 18) (v := 10) d101_18 kb_10) ?_
  refine yL.eq (y_imodc (pc := 20) d101_20 nzI_10) ?_
  refine yL.eq (y_istore (pc := 21) (ls' := [some (.ref 7), some (.int a1), some (.int ((a1 / 1000) % 100)), some (.int ((a1 / 10) % 100)), some (.int (a1 % 10))]) d101_21 rfl rfl) ?_
  refine yL.eq (y_iload_n (pc := 23) (x := a1) d101_23 rfl) ?_
  refine yL.eq (y_ldc_w (pc := 24) (v := 100000) d101_24 q101_275) ?_
  refine yL.eq (y_idivc (pc := 27) d101_27 nzI_100000) ?_
  refine yL.eq (y_tsw (pc := 28) (ts := [80, 105, 131, 158, 192, 229, 249, 274, 302]) (d := 328) d101_28 (by decide +kernel)) ?_
  refine yL.eq (y_ts (c := 1) (lo' := 2) kc_1 (by decide)) ?_
  refine yL.ite (fun h1 => ?_) (fun h1 => ?_)
  ·
    refine yL.eq (y_iload (pc := 80) (x := (a1 % 10)) d101_80 rfl) ?_
    refine yL.eq (y_if_ne (pc := 82) (t := 103) d101_82 (by decide)) ?_
    refine yL.ite (fun h2 => ?_) (fun h2 => ?_)
    ·
      refine yL.eq (y_aload_n (pc := 85) (x := 7) d101_85 rfl) ?_
      refine yL.eq (y_getr (pc := 86) (r := 27) d101_86 q101_33 s_r_7_4) ?_
      refine yL.eq (y_iconst (pc := 89) (v := 5) d101_89 kc_5) ?_
      refine yL.eq (y_iload_n (pc := 90) (x := ((a1 / 1000) % 100)) d101_90 rfl) ?_
      refine yL.eq (y_iload_n (pc := 91) (x := ((a1 / 10) % 100)) d101_91 rfl) ?_
      refine yL.eq (y_iconst (pc := 92) (v := 0) d101_92 kc_0) ?_
      refine y_callv_i (pc := 93) (n := 5) (n' := 5) (nc' := 0) (ns' := 0) [.int 5, .int ((a1 / 1000) % 100), .int ((a1 / 10) % 100), .int 0] [] false d101_93 q101_276 mk_5 (yC_t yC27) rfl rfl (Nat.le_of_ble_eq_true rfl) (Nat.le_of_ble_eq_true rfl) rfl (by decide +kernel) (by decide +kernel) (fun v4 M3 => ?_)
      refine yL.eq (y_if_eq (pc := 96) (t := 103) d101_96 (by decide)) ?_
      refine yL.ite (fun h5 => ?_) (fun h5 => ?_)
      ·
        refine yL.eq (y_iconst (pc := 103) (v := 0) d101_103 kc_0) ?_
        exact yL.eq (y_iretz (pc := 104) d101_104 mr_101) (yL.eq yZ_0 yL.rf)
      ·
        refine yL.eq (y_iconst (pc := 99) (v := 1) d101_99 kc_1) ?_
        refine yL.eq (y_goto (pc := 100) (t := 104) d101_100 (by decide)) ?_
        exact yL.eq (y_iretz (pc := 104) d101_104 mr_101) (yL.eq yZ_1 yL.rf)
    ·
      refine yL.eq (y_iconst (pc := 103) (v := 0) d101_103 kc_0) ?_
      exact yL.eq (y_iretz (pc := 104) d101_104 mr_101) (yL.eq yZ_0 yL.rf)
  ·
    refine yL.eq (y_ts (c := 2) (lo' := 3) kc_2 (by decide)) ?_
    refine yL.ite (fun h6 => ?_) (fun h6 => ?_)
    ·
      refine yL.eq (y_iload (pc := 105) (x := (a1 % 10)) d101_105 rfl) ?_
      refine yL.eq (y_if_ne (pc := 107) (t := 129) d101_107 (by decide)) ?_
      refine yL.ite (fun h7 => ?_) (fun h7 => ?_)
      ·
        refine yL.eq (y_aload_n (pc := 110) (x := 7) d101_110 rfl) ?_
        refine yL.eq (y_getr (pc := 111) (r := 27) d101_111 q101_33 s_r_7_4) ?_
        refine yL.eq (y_bipush (pc := 114) (v := 8) d101_114 kb_8) ?_
        refine yL.eq (y_iload_n (pc := 116) (x := ((a1 / 1000) % 100)) d101_116 rfl) ?_
        refine yL.eq (y_iload_n (pc := 117) (x := ((a1 / 10) % 100)) d101_117 rfl) ?_
        refine yL.eq (y_iconst (pc := 118) (v := 0) d101_118 kc_0) ?_
        refine y_callv_i (pc := 119) (n := 5) (n' := 5) (nc' := 0) (ns' := 0) [.int 8, .int ((a1 / 1000) % 100), .int ((a1 / 10) % 100), .int 0] [] false d101_119 q101_276 mk_5 (yC_t yC27) rfl rfl (Nat.le_of_ble_eq_true rfl) (Nat.le_of_ble_eq_true rfl) rfl (by decide +kernel) (by decide +kernel) (fun v9 M8 => ?_)
        refine yL.eq (y_if_eq (pc := 122) (t := 129) d101_122 (by decide)) ?_
        refine yL.ite (fun h10 => ?_) (fun h10 => ?_)
        ·
          refine yL.eq (y_iconst (pc := 129) (v := 0) d101_129 kc_0) ?_
          exact yL.eq (y_iretz (pc := 130) d101_130 mr_101) (yL.eq yZ_0 yL.rf)
        ·
          refine yL.eq (y_iconst (pc := 125) (v := 1) d101_125 kc_1) ?_
          refine yL.eq (y_goto (pc := 126) (t := 130) d101_126 (by decide)) ?_
          exact yL.eq (y_iretz (pc := 130) d101_130 mr_101) (yL.eq yZ_1 yL.rf)
      ·
        refine yL.eq (y_iconst (pc := 129) (v := 0) d101_129 kc_0) ?_
        exact yL.eq (y_iretz (pc := 130) d101_130 mr_101) (yL.eq yZ_0 yL.rf)
    ·
      refine yL.eq (y_ts (c := 3) (lo' := 4) kc_3 (by decide)) ?_
      refine yL.ite (fun h11 => ?_) (fun h11 => ?_)
      ·
        refine yL.eq (y_iload (pc := 131) (x := (a1 % 10)) d101_131 rfl) ?_
        refine yL.eq (y_iconst (pc := 133) (v := 1) d101_133 kc_1) ?_
        refine yL.eq (y_icmp_gt (pc := 134) (t := 156) d101_134 (by decide)) ?_
        refine yL.ite (fun h12 => ?_) (fun h12 => ?_)
        ·
          refine yL.eq (y_aload_n (pc := 137) (x := 7) d101_137 rfl) ?_
          refine yL.eq (y_getr (pc := 138) (r := 27) d101_138 q101_33 s_r_7_4) ?_
          refine yL.eq (y_iconst (pc := 141) (v := 3) d101_141 kc_3) ?_
          refine yL.eq (y_iload_n (pc := 142) (x := ((a1 / 1000) % 100)) d101_142 rfl) ?_
          refine yL.eq (y_iload_n (pc := 143) (x := ((a1 / 10) % 100)) d101_143 rfl) ?_
          refine yL.eq (y_iload (pc := 144) (x := (a1 % 10)) d101_144 rfl) ?_
          refine y_callv_i (pc := 146) (n := 5) (n' := 5) (nc' := 0) (ns' := 0) [.int 3, .int ((a1 / 1000) % 100), .int ((a1 / 10) % 100), .int (a1 % 10)] [] false d101_146 q101_276 mk_5 (yC_t yC27) rfl rfl (Nat.le_of_ble_eq_true rfl) (Nat.le_of_ble_eq_true rfl) rfl (by decide +kernel) (by decide +kernel) (fun v14 M13 => ?_)
          refine yL.eq (y_if_eq (pc := 149) (t := 156) d101_149 (by decide)) ?_
          refine yL.ite (fun h15 => ?_) (fun h15 => ?_)
          ·
            refine yL.eq (y_iconst (pc := 156) (v := 0) d101_156 kc_0) ?_
            exact yL.eq (y_iretz (pc := 157) d101_157 mr_101) (yL.eq yZ_0 yL.rf)
          ·
            refine yL.eq (y_iconst (pc := 152) (v := 1) d101_152 kc_1) ?_
            refine yL.eq (y_goto (pc := 153) (t := 157) d101_153 (by decide)) ?_
            exact yL.eq (y_iretz (pc := 157) d101_157 mr_101) (yL.eq yZ_1 yL.rf)
        ·
          refine yL.eq (y_iconst (pc := 156) (v := 0) d101_156 kc_0) ?_
          exact yL.eq (y_iretz (pc := 157) d101_157 mr_101) (yL.eq yZ_0 yL.rf)
      ·
        refine yL.eq (y_ts (c := 4) (lo' := 5) kc_4 (by decide)) ?_
        refine yL.ite (fun h16 => ?_) (fun h16 => ?_)
        ·
          refine yL.eq (y_iload_n (pc := 158) (x := a1) d101_158 rfl) ?_
          refine yL.eq (y_sipush (pc := 159) (v := 1000) d101_159 ks_1000) ?_
          refine yL.eq (y_imodc (pc := 162) d101_162 nzI_1000) ?_
          refine yL.eq (y_if_ne (pc := 163) (t := 190) d101_163 (by decide)) ?_
          refine yL.ite (fun h17 => ?_) (fun h17 => ?_)
          ·
            refine yL.eq (y_aload_n (pc := 166) (x := 7) d101_166 rfl) ?_
            refine yL.eq (y_getr (pc := 167) (r := 27) d101_167 q101_33 s_r_7_4) ?_
            refine yL.eq (y_iconst (pc := 170) (v := 4) d101_170 kc_4) ?_
            refine yL.eq (y_iload_n (pc := 171) (x := ((a1 / 1000) % 100)) d101_171 rfl) ?_
            refine yL.eq (y_bipush (pc := 172) (v := 10) d101_172 kb_10) ?_
            refine yL.eq (y_idivc (pc := 174) d101_174 nzI_10) ?_
            refine yL.eq (y_iload_n (pc := 175) (x := ((a1 / 1000) % 100)) d101_175 rfl) ?_
            refine yL.eq (y_bipush (pc := 176) (v := 10) d101_176 kb_10) ?_
            refine yL.eq (y_imodc (pc := 178) d101_178 nzI_10) ?_
            refine yL.eq (y_iconst (pc := 179) (v := 0) d101_179 kc_0) ?_
            refine y_callv_i (pc := 180) (n := 5) (n' := 5) (nc' := 0) (ns' := 0) [.int 4, .int (((a1 / 1000) % 100) / 10), .int (((a1 / 1000) % 100) % 10), .int 0] [] false d101_180 q101_276 mk_5 (yC_t yC27) rfl rfl (Nat.le_of_ble_eq_true rfl) (Nat.le_of_ble_eq_true rfl) rfl (by decide +kernel) (by decide +kernel) (fun v19 M18 => ?_)
            refine yL.eq (y_if_eq (pc := 183) (t := 190) d101_183 (by decide)) ?_
            refine yL.ite (fun h20 => ?_) (fun h20 => ?_)
            ·
              refine yL.eq (y_iconst (pc := 190) (v := 0) d101_190 kc_0) ?_
              exact yL.eq (y_iretz (pc := 191) d101_191 mr_101) (yL.eq yZ_0 yL.rf)
            ·
              refine yL.eq (y_iconst (pc := 186) (v := 1) d101_186 kc_1) ?_
              refine yL.eq (y_goto (pc := 187) (t := 191) d101_187 (by decide)) ?_
              exact yL.eq (y_iretz (pc := 191) d101_191 mr_101) (yL.eq yZ_1 yL.rf)
          ·
            refine yL.eq (y_iconst (pc := 190) (v := 0) d101_190 kc_0) ?_
            exact yL.eq (y_iretz (pc := 191) d101_191 mr_101) (yL.eq yZ_0 yL.rf)
        ·
          refine yL.eq (y_ts (c := 5) (lo' := 6) kc_5 (by decide)) ?_
          refine yL.ite (fun h21 => ?_) (fun h21 => ?_)
          ·
            refine yL.eq (y_iload_n (pc := 192) (x := a1) d101_192 rfl) ?_
            refine yL.eq (y_bipush (pc := 193) (v := 100) d101_193 kb_100) ?_
            refine yL.eq (y_idivc (pc := 195) d101_195 nzI_100) ?_
            refine yL.eq (y_bipush (pc := 196) (v := 100) d101_196 kb_100) ?_
            refine yL.eq (y_imodc (pc := 198) d101_198 nzI_100) ?_
            refine yL.eq (y_if_ne (pc := 199) (t := 227) d101_199 (by decide)) ?_
            refine yL.ite (fun h22 => ?_) (fun h22 => ?_)
            ·
              refine yL.eq (y_aload_n (pc := 202) (x := 7) d101_202 rfl) ?_
              refine yL.eq (y_getr (pc := 203) (r := 27) d101_203 q101_33 s_r_7_4) ?_
              refine yL.eq (y_bipush (pc := 206) (v := 6) d101_206 kb_6) ?_
              refine yL.eq (y_iload_n (pc := 208) (x := ((a1 / 1000) % 100)) d101_208 rfl) ?_
              refine yL.eq (y_bipush (pc := 209) (v := 10) d101_209 kb_10) ?_
              refine yL.eq (y_idivc (pc := 211) d101_211 nzI_10) ?_
              refine yL.eq (y_iload_n (pc := 212) (x := a1) d101_212 rfl) ?_
              refine yL.eq (y_bipush (pc := 213) (v := 100) d101_213 kb_100) ?_
              refine yL.eq (y_imodc (pc := 215) d101_215 nzI_100) ?_
              refine yL.eq (y_iconst (pc := 216) (v := 0) d101_216 kc_0) ?_
              refine y_callv_i (pc := 217) (n := 5) (n' := 5) (nc' := 0) (ns' := 0) [.int 6, .int (((a1 / 1000) % 100) / 10), .int (a1 % 100), .int 0] [] false d101_217 q101_276 mk_5 (yC_t yC27) rfl rfl (Nat.le_of_ble_eq_true rfl) (Nat.le_of_ble_eq_true rfl) rfl (by decide +kernel) (by decide +kernel) (fun v24 M23 => ?_)
              refine yL.eq (y_if_eq (pc := 220) (t := 227) d101_220 (by decide)) ?_
              refine yL.ite (fun h25 => ?_) (fun h25 => ?_)
              ·
                refine yL.eq (y_iconst (pc := 227) (v := 0) d101_227 kc_0) ?_
                exact yL.eq (y_iretz (pc := 228) d101_228 mr_101) (yL.eq yZ_0 yL.rf)
              ·
                refine yL.eq (y_iconst (pc := 223) (v := 1) d101_223 kc_1) ?_
                refine yL.eq (y_goto (pc := 224) (t := 228) d101_224 (by decide)) ?_
                exact yL.eq (y_iretz (pc := 228) d101_228 mr_101) (yL.eq yZ_1 yL.rf)
            ·
              refine yL.eq (y_iconst (pc := 227) (v := 0) d101_227 kc_0) ?_
              exact yL.eq (y_iretz (pc := 228) d101_228 mr_101) (yL.eq yZ_0 yL.rf)
          ·
            refine yL.eq (y_ts (c := 6) (lo' := 7) kc_6 (by decide)) ?_
            refine yL.ite (fun h26 => ?_) (fun h26 => ?_)
            ·
              refine yL.eq (y_iload (pc := 229) (x := (a1 % 10)) d101_229 rfl) ?_
              refine yL.eq (y_if_ne (pc := 231) (t := 247) d101_231 (by decide)) ?_
              refine yL.ite (fun h27 => ?_) (fun h27 => ?_)
              ·
                refine yL.eq (y_aload_n (pc := 234) (x := 7) d101_234 rfl) ?_
                refine yL.eq (y_iload_n (pc := 235) (x := ((a1 / 1000) % 100)) d101_235 rfl) ?_
                refine yL.eq (y_iload_n (pc := 236) (x := ((a1 / 10) % 100)) d101_236 rfl) ?_
                refine y_callv_i (pc := 237) (n := 3) (n' := 3) (nc' := 0) (ns' := 0) [.int ((a1 / 1000) % 100), .int ((a1 / 10) % 100)] [] false d101_237 q101_280 mk_102 s_t_7 rfl rfl (Nat.le_of_ble_eq_true rfl) (Nat.le_of_ble_eq_true rfl) rfl (by decide +kernel) (by decide +kernel) (fun v29 M28 => ?_)
                refine yL.eq (y_if_eq (pc := 240) (t := 247) d101_240 (by decide)) ?_
                refine yL.ite (fun h30 => ?_) (fun h30 => ?_)
                ·
                  refine yL.eq (y_iconst (pc := 247) (v := 0) d101_247 kc_0) ?_
                  exact yL.eq (y_iretz (pc := 248) d101_248 mr_101) (yL.eq yZ_0 yL.rf)
                ·
                  refine yL.eq (y_iconst (pc := 243) (v := 1) d101_243 kc_1) ?_
                  refine yL.eq (y_goto (pc := 244) (t := 248) d101_244 (by decide)) ?_
                  exact yL.eq (y_iretz (pc := 248) d101_248 mr_101) (yL.eq yZ_1 yL.rf)
              ·
                refine yL.eq (y_iconst (pc := 247) (v := 0) d101_247 kc_0) ?_
                exact yL.eq (y_iretz (pc := 248) d101_248 mr_101) (yL.eq yZ_0 yL.rf)
            ·
              refine yL.eq (y_ts (c := 7) (lo' := 8) kc_7 (by decide)) ?_
              refine yL.ite (fun h31 => ?_) (fun h31 => ?_)
              ·
                refine yL.eq (y_iload_n (pc := 249) (x := ((a1 / 1000) % 100)) d101_249 rfl) ?_
                refine yL.eq (y_if_ne (pc := 250) (t := 272) d101_250 (by decide)) ?_
                refine yL.ite (fun h32 => ?_) (fun h32 => ?_)
                ·
                  refine yL.eq (y_aload_n (pc := 253) (x := 7) d101_253 rfl) ?_
                  refine yL.eq (y_getr (pc := 254) (r := 26) d101_254 q101_30 s_r_7_3) ?_
                  refine yL.eq (y_geti (pc := 257) d101_257 q101_106 (((yP_i yP26)).2).2.1) ?_
                  refine yL.eq (y_iload_n (pc := 260) (x := a1) d101_260 rfl) ?_
                  refine yL.eq (y_sipush (pc := 261) (v := 1000) d101_261 ks_1000) ?_
                  refine yL.eq (y_imodc (pc := 264) d101_264 nzI_1000) ?_
                  refine yL.eq (y_icmp_gt (pc := 265) (t := 272) d101_265 (by decide)) ?_
                  refine yL.ite (fun h33 => ?_) (fun h33 => ?_)
                  ·
                    refine yL.eq (y_iconst (pc := 268) (v := 1) d101_268 kc_1) ?_
                    refine yL.eq (y_goto (pc := 269) (t := 273) d101_269 (by decide)) ?_
                    exact yL.eq (y_iretz (pc := 273) d101_273 mr_101) (yL.eq yZ_1 yL.rf)
                  ·
                    refine yL.eq (y_iconst (pc := 272) (v := 0) d101_272 kc_0) ?_
                    exact yL.eq (y_iretz (pc := 273) d101_273 mr_101) (yL.eq yZ_0 yL.rf)
                ·
                  refine yL.eq (y_iconst (pc := 272) (v := 0) d101_272 kc_0) ?_
                  exact yL.eq (y_iretz (pc := 273) d101_273 mr_101) (yL.eq yZ_0 yL.rf)
              ·
                refine yL.eq (y_ts (c := 8) (lo' := 9) kc_8 (by decide)) ?_
                refine yL.ite (fun h34 => ?_) (fun h34 => ?_)
                ·
                  refine yL.eq (y_iload_n (pc := 274) (x := a1) d101_274 rfl) ?_
                  refine yL.eq (y_bipush (pc := 275) (v := 100) d101_275 kb_100) ?_
                  refine yL.eq (y_idivc (pc := 277) d101_277 nzI_100) ?_
                  refine yL.eq (y_bipush (pc := 278) (v := 10) d101_278 kb_10) ?_
                  refine yL.eq (y_imodc (pc := 280) d101_280 nzI_10) ?_
                  refine yL.eq (y_if_ne (pc := 281) (t := 300) d101_281 (by decide)) ?_
                  refine yL.ite (fun h35 => ?_) (fun h35 => ?_)
                  ·
                    refine yL.eq (y_aload_n (pc := 284) (x := 7) d101_284 rfl) ?_
                    refine yL.eq (y_iload_n (pc := 285) (x := ((a1 / 1000) % 100)) d101_285 rfl) ?_
                    refine yL.eq (y_iload_n (pc := 286) (x := a1) d101_286 rfl) ?_
                    refine yL.eq (y_bipush (pc := 287) (v := 100) d101_287 kb_100) ?_
                    refine yL.eq (y_imodc (pc := 289) d101_289 nzI_100) ?_
                    refine y_callv_i (pc := 290) (n := 3) (n' := 3) (nc' := 0) (ns' := 0) [.int ((a1 / 1000) % 100), .int (a1 % 100)] [] false d101_290 q101_284 mk_103 s_t_7 rfl rfl (Nat.le_of_ble_eq_true rfl) (Nat.le_of_ble_eq_true rfl) rfl (by decide +kernel) (by decide +kernel) (fun v37 M36 => ?_)
                    refine yL.eq (y_if_eq (pc := 293) (t := 300) d101_293 (by decide)) ?_
                    refine yL.ite (fun h38 => ?_) (fun h38 => ?_)
                    ·
                      refine yL.eq (y_iconst (pc := 300) (v := 0) d101_300 kc_0) ?_
                      exact yL.eq (y_iretz (pc := 301) d101_301 mr_101) (yL.eq yZ_0 yL.rf)
                    ·
                      refine yL.eq (y_iconst (pc := 296) (v := 1) d101_296 kc_1) ?_
                      refine yL.eq (y_goto (pc := 297) (t := 301) d101_297 (by decide)) ?_
                      exact yL.eq (y_iretz (pc := 301) d101_301 mr_101) (yL.eq yZ_1 yL.rf)
                  ·
                    refine yL.eq (y_iconst (pc := 300) (v := 0) d101_300 kc_0) ?_
                    exact yL.eq (y_iretz (pc := 301) d101_301 mr_101) (yL.eq yZ_0 yL.rf)
                ·
                  refine yL.eq (y_ts (c := 9) (lo' := 10) kc_9 (by decide)) ?_
                  refine yL.ite (fun h39 => ?_) (fun h39 => ?_)
                  ·
                    refine yL.eq (y_iload_n (pc := 302) (x := ((a1 / 1000) % 100)) d101_302 rfl) ?_
                    refine yL.eq (y_if_ne (pc := 303) (t := 326) d101_303 (by decide)) ?_
                    refine yL.ite (fun h40 => ?_) (fun h40 => ?_)
                    ·
                      refine yL.eq (y_iload_n (pc := 306) (x := ((a1 / 10) % 100)) d101_306 rfl) ?_
                      refine yL.eq (y_if_ne (pc := 307) (t := 326) d101_307 (by decide)) ?_
                      refine yL.ite (fun h41 => ?_) (fun h41 => ?_)
                      ·
                        refine yL.eq (y_aload_n (pc := 310) (x := 7) d101_310 rfl) ?_
                        refine yL.eq (y_getr (pc := 311) (r := 26) d101_311 q101_30 s_r_7_3) ?_
                        refine yL.eq (y_geti (pc := 314) d101_314 q101_109 ((yP_i yP26)).2.1) ?_
                        refine yL.eq (y_iload (pc := 317) (x := (a1 % 10)) d101_317 rfl) ?_
                        refine yL.eq (y_icmp_gt (pc := 319) (t := 326) d101_319 (by decide)) ?_
                        refine yL.ite (fun h42 => ?_) (fun h42 => ?_)
                        ·
                          refine yL.eq (y_iconst (pc := 322) (v := 1) d101_322 kc_1) ?_
                          refine yL.eq (y_goto (pc := 323) (t := 327) d101_323 (by decide)) ?_
                          exact yL.eq (y_iretz (pc := 327) d101_327 mr_101) (yL.eq yZ_1 yL.rf)
                        ·
                          refine yL.eq (y_iconst (pc := 326) (v := 0) d101_326 kc_0) ?_
                          exact yL.eq (y_iretz (pc := 327) d101_327 mr_101) (yL.eq yZ_0 yL.rf)
                      ·
                        refine yL.eq (y_iconst (pc := 326) (v := 0) d101_326 kc_0) ?_
                        exact yL.eq (y_iretz (pc := 327) d101_327 mr_101) (yL.eq yZ_0 yL.rf)
                    ·
                      refine yL.eq (y_iconst (pc := 326) (v := 0) d101_326 kc_0) ?_
                      exact yL.eq (y_iretz (pc := 327) d101_327 mr_101) (yL.eq yZ_0 yL.rf)
                  ·
                    refine yL.eq y_tsn ?_
                    refine yL.eq (y_iconst (pc := 328) (v := 0) d101_328 kc_0) ?_
                    exact yL.eq (y_iretz (pc := 329) d101_329 mr_101) (yL.eq yZ_0 yL.rf)
set_option maxRecDepth 20000 in
set_option maxHeartbeats 4000000 in
theorem e102 {a1 : Int32} {a2 : Int32} {M : yM} : yL (yCi false (yX 4 0 [some (.ref 27), some (.int a1)] [] M 0 0) fun v2 M1 => if v2 = 0 then yI 0 M1 else if yinB a1 14 = true then if (M1 36 (yx a1)) = (-1) then yI 0 M1 else if yinB a1 14 = true then if (M1 36 (yx a1)) ≤ a2 then yI 1 M1 else yI 0 M1 else none else none) (yX 102 0 [some (.ref 7), some (.int a1), some (.int a2)] [] M 0 0) := by
  refine yL.eq (y_aload_n (pc := 0) (x := 7) d102_0 rfl) ?_
  refine yL.eq (y_getr (pc := 1) (r := 27) d102_1 q102_33 s_r_7_4) ?_
  refine yL.eq (y_iload_n (pc := 4) (x := a1) d102_4 rfl) ?_
  refine y_callv_i (pc := 5) (n := 2) (n' := 2) (nc' := 0) (ns' := 0) [.int a1] [] false d102_5 q102_150 mk_4 (yC_t yC27) rfl rfl (Nat.le_of_ble_eq_true rfl) (Nat.le_of_ble_eq_true rfl) rfl (by decide +kernel) (by decide +kernel) (fun v2 M1 => ?_)
  refine yL.eq (y_if_eq (pc := 8) (t := 41) d102_8 (by decide)) ?_
  refine yL.ite (fun h3 => ?_) (fun h3 => ?_)
  ·
    refine yL.eq (y_iconst (pc := 41) (v := 0) d102_41 kc_0) ?_
    exact yL.eq (y_iretz (pc := 42) d102_42 mr_102) (yL.eq yZ_0 yL.rf)
  ·
    refine yL.eq (y_aload_n (pc := 11) (x := 7) d102_11 rfl) ?_
    refine yL.eq (y_getr (pc := 12) (r := 26) d102_12 q102_30 s_r_7_3) ?_
    refine yL.eq (y_getr (pc := 15) (r := 36) d102_15 q102_177 ((yP_r yP26)).2.1) ?_
    refine yL.eq (y_iload_n (pc := 18) (x := a1) d102_18 rfl) ?_
    refine yL.eq (y_iald (pc := 19) (n := 14) d102_19 (yP_a yP26).1) ?_
    refine yL.gd (fun h4 => ?_)
    refine yL.eq (y_iconst (pc := 20) (v := (-1)) d102_20 kc_m1) ?_
    refine yL.eq (y_icmp_eq (pc := 21) (t := 41) d102_21 (by decide)) ?_
    refine yL.ite (fun h5 => ?_) (fun h5 => ?_)
    ·
      refine yL.eq (y_iconst (pc := 41) (v := 0) d102_41 kc_0) ?_
      exact yL.eq (y_iretz (pc := 42) d102_42 mr_102) (yL.eq yZ_0 yL.rf)
    ·
      refine yL.eq (y_aload_n (pc := 24) (x := 7) d102_24 rfl) ?_
      refine yL.eq (y_getr (pc := 25) (r := 26) d102_25 q102_30 s_r_7_3) ?_
      refine yL.eq (y_getr (pc := 28) (r := 36) d102_28 q102_177 ((yP_r yP26)).2.1) ?_
      refine yL.eq (y_iload_n (pc := 31) (x := a1) d102_31 rfl) ?_
      refine yL.eq (y_iald (pc := 32) (n := 14) d102_32 (yP_a yP26).1) ?_
      refine yL.gd (fun h6 => ?_)
      refine yL.eq (y_iload_n (pc := 33) (x := a2) d102_33 rfl) ?_
      refine yL.eq (y_icmp_gt (pc := 34) (t := 41) d102_34 (by decide)) ?_
      refine yL.ite (fun h7 => ?_) (fun h7 => ?_)
      ·
        refine yL.eq (y_iconst (pc := 37) (v := 1) d102_37 kc_1) ?_
        refine yL.eq (y_goto (pc := 38) (t := 42) d102_38 (by decide)) ?_
        exact yL.eq (y_iretz (pc := 42) d102_42 mr_102) (yL.eq yZ_1 yL.rf)
      ·
        refine yL.eq (y_iconst (pc := 41) (v := 0) d102_41 kc_0) ?_
        exact yL.eq (y_iretz (pc := 42) d102_42 mr_102) (yL.eq yZ_0 yL.rf)
set_option maxRecDepth 20000 in
set_option maxHeartbeats 4000000 in
theorem e103 {a1 : Int32} {a2 : Int32} {M : yM} : yL (yCi false (yX 3 0 [some (.ref 27), some (.int a1)] [] M 0 0) fun v2 M1 => if v2 = 0 then yI 0 M1 else yCi false (yX 14 0 [some (.ref 27), some (.int a1), some (.int (M1 27 3)), some (.int 15), none, none, none] [] M1 0 0) fun v5 M4 => if v5 ≤ a2 then yI 1 M4 else yI 0 M4) (yX 103 0 [some (.ref 7), some (.int a1), some (.int a2)] [] M 0 0) := by
  refine yL.eq (y_aload_n (pc := 0) (x := 7) d103_0 rfl) ?_
  refine yL.eq (y_getr (pc := 1) (r := 27) d103_1 q103_33 s_r_7_4) ?_
  refine yL.eq (y_iload_n (pc := 4) (x := a1) d103_4 rfl) ?_
  refine y_callv_i (pc := 5) (n := 2) (n' := 2) (nc' := 0) (ns' := 0) [.int a1] [] false d103_5 q103_122 mk_3 (yC_t yC27) rfl rfl (Nat.le_of_ble_eq_true rfl) (Nat.le_of_ble_eq_true rfl) rfl (by decide +kernel) (by decide +kernel) (fun v2 M1 => ?_)
  refine yL.eq (y_if_eq (pc := 8) (t := 36) d103_8 (by decide)) ?_
  refine yL.ite (fun h3 => ?_) (fun h3 => ?_)
  ·
    refine yL.eq (y_iconst (pc := 36) (v := 0) d103_36 kc_0) ?_
    exact yL.eq (y_iretz (pc := 37) d103_37 mr_103) (yL.eq yZ_0 yL.rf)
  ·
    refine yL.eq (y_aload_n (pc := 11) (x := 7) d103_11 rfl) ?_
    refine yL.eq (y_getr (pc := 12) (r := 27) d103_12 q103_33 s_r_7_4) ?_
    refine yL.eq (y_iload_n (pc := 15) (x := a1) d103_15 rfl) ?_
    refine yL.eq (y_aload_n (pc := 16) (x := 7) d103_16 rfl) ?_
    refine yL.eq (y_getr (pc := 17) (r := 27) d103_17 q103_33 s_r_7_4) ?_
    refine yL.eq (y_geti (pc := 20) d103_20 q103_96 ((((yC_i yC27)).2).2).2) ?_
    refine yL.eq (y_bipush (pc := 23) (v := 15) d103_23 kb_15) ?_
    refine y_callv_i (pc := 25) (n := 4) (n' := 7) (nc' := 0) (ns' := 0) [.int a1, .int (M1 27 3), .int 15] [] false d103_25 q103_140 mk_14 (yC_t yC27) rfl rfl (Nat.le_of_ble_eq_true rfl) (Nat.le_of_ble_eq_true rfl) rfl (by decide +kernel) (by decide +kernel) (fun v5 M4 => ?_)
    refine yL.eq (y_iload_n (pc := 28) (x := a2) d103_28 rfl) ?_
    refine yL.eq (y_icmp_gt (pc := 29) (t := 36) d103_29 (by decide)) ?_
    refine yL.ite (fun h6 => ?_) (fun h6 => ?_)
    ·
      refine yL.eq (y_iconst (pc := 32) (v := 1) d103_32 kc_1) ?_
      refine yL.eq (y_goto (pc := 33) (t := 37) d103_33 (by decide)) ?_
      exact yL.eq (y_iretz (pc := 37) d103_37 mr_103) (yL.eq yZ_1 yL.rf)
    ·
      refine yL.eq (y_iconst (pc := 36) (v := 0) d103_36 kc_0) ?_
      exact yL.eq (y_iretz (pc := 37) d103_37 mr_103) (yL.eq yZ_0 yL.rf)
set_option maxRecDepth 20000 in
set_option maxHeartbeats 4000000 in
theorem e104 {a1 : Int32} {a2 : Int32} {M : yM} : yL (if a1 = 0 then yCi false (yX 5 0 [some (.ref 27), some (.int 0), some (.int (1 + (a2 % 5000))), some (.int 0), some (.int 0)] [] M 0 0) fun v3 M2 => yV M2 else if a1 = 1 then yCi false (yX 5 0 [some (.ref 27), some (.int 1), some (.int (1 + (a2 % 40))), some (.int (((a2 / 64) % 5) - 1)), some (.int ((a2 / 512) % 2))] [] M 0 0) fun v6 M5 => yV M5 else if a1 = 2 then yCi false (yX 5 0 [some (.ref 27), some (.int 1), some (.int (1 + (a2 % 40))), some (.int (((a2 / 64) % 5) - 1)), some (.int ((a2 / 512) % 2))] [] M 0 0) fun v9 M8 => yV M8 else if a1 = 3 then if ((a2 / 256) % 4) = 0 then yCi false (yX 98 0 [some (.int 0)] [] M 0 0) fun v13 M12 => yCi false (yX 5 0 [some (.ref 27), some (.int 2), some (.int (a2 % 14)), some (.int ((a2 / 16) % 12)), some (.int v13)] [] M12 0 0) fun v15 M14 => yV M14 else yCi false (yX 98 0 [some (.int 1)] [] M 0 0) fun v17 M16 => yCi false (yX 5 0 [some (.ref 27), some (.int 2), some (.int (a2 % 14)), some (.int ((a2 / 16) % 12)), some (.int v17)] [] M16 0 0) fun v19 M18 => yV M18 else if a1 = 4 then if ((a2 / 256) % 4) = 0 then yCi false (yX 98 0 [some (.int 0)] [] M 0 0) fun v23 M22 => yCi false (yX 5 0 [some (.ref 27), some (.int 3), some (.int (a2 % 14)), some (.int ((a2 / 16) % 14)), some (.int v23)] [] M22 0 0) fun v25 M24 => yV M24 else yCi false (yX 98 0 [some (.int 1)] [] M 0 0) fun v27 M26 => yCi false (yX 5 0 [some (.ref 27), some (.int 3), some (.int (a2 % 14)), some (.int ((a2 / 16) % 14)), some (.int v27)] [] M26 0 0) fun v29 M28 => yV M28 else if a1 = 5 then if ((a2 / 256) % 4) = 0 then yCi false (yX 98 0 [some (.int 0)] [] M 0 0) fun v33 M32 => yCi false (yX 5 0 [some (.ref 27), some (.int 3), some (.int (a2 % 14)), some (.int ((a2 / 16) % 14)), some (.int v33)] [] M32 0 0) fun v35 M34 => yV M34 else yCi false (yX 98 0 [some (.int 1)] [] M 0 0) fun v37 M36 => yCi false (yX 5 0 [some (.ref 27), some (.int 3), some (.int (a2 % 14)), some (.int ((a2 / 16) % 14)), some (.int v37)] [] M36 0 0) fun v39 M38 => yV M38 else if a1 = 6 then if ((a2 / 64) % 2) = 0 then yCi false (yX 5 0 [some (.ref 27), some (.int 4), some (.int (a2 % 4)), some (.int ((a2 / 4) % 4)), some (.int 0)] [] M 0 0) fun v43 M42 => yV M42 else yCi false (yX 5 0 [some (.ref 27), some (.int 5), some (.int (1 + (a2 % 24))), some (.int (1 + ((a2 / 128) % 24))), some (.int 0)] [] M 0 0) fun v45 M44 => yV M44 else yCi false (yX 5 0 [some (.ref 27), some (.int 6), some (.int (a2 % 5)), some (.int ((a2 / 8) % 16)), some (.int 0)] [] M 0 0) fun v47 M46 => yV M46) (yX 104 0 [some (.ref 7), some (.int a1), some (.int a2)] [] M 0 0) := by
  refine yL.eq (y_iload_n (pc := 0) (x := a1) d104_0 rfl) ?_
  refine yL.eq (y_tsw (pc := 1) (ts := [44, 65, 65, 98, 139, 139, 180]) (d := 239) d104_1 (by decide +kernel)) ?_
  refine yL.eq (y_ts (c := 0) (lo' := 1) kc_0 (by decide)) ?_
  refine yL.ite (fun h1 => ?_) (fun h1 => ?_)
  ·
    refine yL.eq (y_aload_n (pc := 44) (x := 7) d104_44 rfl) ?_
    refine yL.eq (y_getr (pc := 45) (r := 27) d104_45 q104_33 s_r_7_4) ?_
    refine yL.eq (y_iconst (pc := 48) (v := 0) d104_48 kc_0) ?_
    refine yL.eq (y_iconst (pc := 49) (v := 1) d104_49 kc_1) ?_
    refine yL.eq (y_iload_n (pc := 50) (x := a2) d104_50 rfl) ?_
    refine yL.eq (y_sipush (pc := 51) (v := 5000) d104_51 ks_5000) ?_
    refine yL.eq (y_imodc (pc := 54) d104_54 nzI_5000) ?_
    refine yL.eq (y_iadd (pc := 55) d104_55) ?_
    refine yL.eq (y_iconst (pc := 56) (v := 0) d104_56 kc_0) ?_
    refine yL.eq (y_iconst (pc := 57) (v := 0) d104_57 kc_0) ?_
    refine y_callv_i (pc := 58) (n := 5) (n' := 5) (nc' := 0) (ns' := 0) [.int 0, .int (1 + (a2 % 5000)), .int 0, .int 0] [] false d104_58 q104_276 mk_5 (yC_t yC27) rfl rfl (Nat.le_of_ble_eq_true rfl) (Nat.le_of_ble_eq_true rfl) rfl (by decide +kernel) (by decide +kernel) (fun v3 M2 => ?_)
    refine yL.eq (y_pop (pc := 61) d104_61 rfl) ?_
    refine yL.eq (y_goto (pc := 62) (t := 260) d104_62 (by decide)) ?_
    exact yL.eq (y_ret (pc := 260) d104_260 mr_104) yL.rf
  ·
    refine yL.eq (y_ts (c := 1) (lo' := 2) kc_1 (by decide)) ?_
    refine yL.ite (fun h4 => ?_) (fun h4 => ?_)
    ·
      refine yL.eq (y_aload_n (pc := 65) (x := 7) d104_65 rfl) ?_
      refine yL.eq (y_getr (pc := 66) (r := 27) d104_66 q104_33 s_r_7_4) ?_
      refine yL.eq (y_iconst (pc := 69) (v := 1) d104_69 kc_1) ?_
      refine yL.eq (y_iconst (pc := 70) (v := 1) d104_70 kc_1) ?_
      refine yL.eq (y_iload_n (pc := 71) (x := a2) d104_71 rfl) ?_
      refine yL.eq (y_bipush (pc := 72) (v := 40) d104_72 kb_40) ?_
      refine yL.eq (y_imodc (pc := 74) d104_74 nzI_40) ?_
      refine yL.eq (y_iadd (pc := 75) d104_75) ?_
      refine yL.eq (y_iload_n (pc := 76) (x := a2) d104_76 rfl) ?_
      refine yL.eq (y_bipush (pc := 77) (v := 64) d104_77 kb_64) ?_
      refine yL.eq (y_idivc (pc := 79) d104_79 nzI_64) ?_
      refine yL.eq (y_iconst (pc := 80) (v := 5) d104_80 kc_5) ?_
      refine yL.eq (y_imodc (pc := 81) d104_81 nzI_5) ?_
      refine yL.eq (y_iconst (pc := 82) (v := 1) d104_82 kc_1) ?_
      refine yL.eq (y_isub (pc := 83) d104_83) ?_
      refine yL.eq (y_iload_n (pc := 84) (x := a2) d104_84 rfl) ?_
      refine yL.eq (y_sipush (pc := 85) (v := 512) d104_85 ks_512) ?_
      refine yL.eq (y_idivc (pc := 88) d104_88 nzI_512) ?_
      refine yL.eq (y_iconst (pc := 89) (v := 2) d104_89 kc_2) ?_
      refine yL.eq (y_imodc (pc := 90) d104_90 nzI_2) ?_
      refine y_callv_i (pc := 91) (n := 5) (n' := 5) (nc' := 0) (ns' := 0) [.int 1, .int (1 + (a2 % 40)), .int (((a2 / 64) % 5) - 1), .int ((a2 / 512) % 2)] [] false d104_91 q104_276 mk_5 (yC_t yC27) rfl rfl (Nat.le_of_ble_eq_true rfl) (Nat.le_of_ble_eq_true rfl) rfl (by decide +kernel) (by decide +kernel) (fun v6 M5 => ?_)
      refine yL.eq (y_pop (pc := 94) d104_94 rfl) ?_
      refine yL.eq (y_goto (pc := 95) (t := 260) d104_95 (by decide)) ?_
      exact yL.eq (y_ret (pc := 260) d104_260 mr_104) yL.rf
    ·
      refine yL.eq (y_ts (c := 2) (lo' := 3) kc_2 (by decide)) ?_
      refine yL.ite (fun h7 => ?_) (fun h7 => ?_)
      ·
        refine yL.eq (y_aload_n (pc := 65) (x := 7) d104_65 rfl) ?_
        refine yL.eq (y_getr (pc := 66) (r := 27) d104_66 q104_33 s_r_7_4) ?_
        refine yL.eq (y_iconst (pc := 69) (v := 1) d104_69 kc_1) ?_
        refine yL.eq (y_iconst (pc := 70) (v := 1) d104_70 kc_1) ?_
        refine yL.eq (y_iload_n (pc := 71) (x := a2) d104_71 rfl) ?_
        refine yL.eq (y_bipush (pc := 72) (v := 40) d104_72 kb_40) ?_
        refine yL.eq (y_imodc (pc := 74) d104_74 nzI_40) ?_
        refine yL.eq (y_iadd (pc := 75) d104_75) ?_
        refine yL.eq (y_iload_n (pc := 76) (x := a2) d104_76 rfl) ?_
        refine yL.eq (y_bipush (pc := 77) (v := 64) d104_77 kb_64) ?_
        refine yL.eq (y_idivc (pc := 79) d104_79 nzI_64) ?_
        refine yL.eq (y_iconst (pc := 80) (v := 5) d104_80 kc_5) ?_
        refine yL.eq (y_imodc (pc := 81) d104_81 nzI_5) ?_
        refine yL.eq (y_iconst (pc := 82) (v := 1) d104_82 kc_1) ?_
        refine yL.eq (y_isub (pc := 83) d104_83) ?_
        refine yL.eq (y_iload_n (pc := 84) (x := a2) d104_84 rfl) ?_
        refine yL.eq (y_sipush (pc := 85) (v := 512) d104_85 ks_512) ?_
        refine yL.eq (y_idivc (pc := 88) d104_88 nzI_512) ?_
        refine yL.eq (y_iconst (pc := 89) (v := 2) d104_89 kc_2) ?_
        refine yL.eq (y_imodc (pc := 90) d104_90 nzI_2) ?_
        refine y_callv_i (pc := 91) (n := 5) (n' := 5) (nc' := 0) (ns' := 0) [.int 1, .int (1 + (a2 % 40)), .int (((a2 / 64) % 5) - 1), .int ((a2 / 512) % 2)] [] false d104_91 q104_276 mk_5 (yC_t yC27) rfl rfl (Nat.le_of_ble_eq_true rfl) (Nat.le_of_ble_eq_true rfl) rfl (by decide +kernel) (by decide +kernel) (fun v9 M8 => ?_)
        refine yL.eq (y_pop (pc := 94) d104_94 rfl) ?_
        refine yL.eq (y_goto (pc := 95) (t := 260) d104_95 (by decide)) ?_
        exact yL.eq (y_ret (pc := 260) d104_260 mr_104) yL.rf
      ·
        refine yL.eq (y_ts (c := 3) (lo' := 4) kc_3 (by decide)) ?_
        refine yL.ite (fun h10 => ?_) (fun h10 => ?_)
        ·
          refine yL.eq (y_aload_n (pc := 98) (x := 7) d104_98 rfl) ?_
          refine yL.eq (y_getr (pc := 99) (r := 27) d104_99 q104_33 s_r_7_4) ?_
          refine yL.eq (y_iconst (pc := 102) (v := 2) d104_102 kc_2) ?_
          refine yL.eq (y_iload_n (pc := 103) (x := a2) d104_103 rfl) ?_
          refine yL.eq (y_bipush (pc := 104) (v := 14) d104_104 kb_14) ?_
          refine yL.eq (y_imodc (pc := 106) d104_106 nzI_14) ?_
          refine yL.eq (y_iload_n (pc := 107) (x := a2) d104_107 rfl) ?_
          refine yL.eq (y_bipush (pc := 108) (v := 16) d104_108 kb_16) ?_
          refine yL.eq (y_idivc (pc := 110) d104_110 nzI_16) ?_
          refine yL.eq (y_bipush (pc := 111) (v := 12) d104_111 kb_12) ?_
          refine yL.eq (y_imodc (pc := 113) d104_113 nzI_12) ?_
          refine yL.eq (y_iload_n (pc := 114) (x := a2) d104_114 rfl) ?_
          refine yL.eq (y_sipush (pc := 115) (v := 256) d104_115 ks_256) ?_
          refine yL.eq (y_idivc (pc := 118) d104_118 nzI_256) ?_
          refine yL.eq (y_iconst (pc := 119) (v := 4) d104_119 kc_4) ?_
          refine yL.eq (y_imodc (pc := 120) d104_120 nzI_4) ?_
          refine yL.eq (y_if_eq (pc := 121) (t := 128) d104_121 (by decide)) ?_
          refine yL.ite (fun h11 => ?_) (fun h11 => ?_)
          ·
            refine yL.eq (y_iconst (pc := 128) (v := 0) d104_128 kc_0) ?_
            refine y_calls_i (pc := 129) (n := 1) (n' := 1) (nc' := 0) (ns' := 0) [.int 0] [.int ((a2 / 16) % 12), .int (a2 % 14), .int 2, .ref 27] false d104_129 q104_216 rfl rfl rfl (Nat.le_of_ble_eq_true rfl) (Nat.le_of_ble_eq_true rfl) rfl (by decide +kernel) (by decide +kernel) (fun v13 M12 => ?_)
            refine y_callv_i (pc := 132) (n := 5) (n' := 5) (nc' := 0) (ns' := 0) [.int 2, .int (a2 % 14), .int ((a2 / 16) % 12), .int v13] [] false d104_132 q104_276 mk_5 (yC_t yC27) rfl rfl (Nat.le_of_ble_eq_true rfl) (Nat.le_of_ble_eq_true rfl) rfl (by decide +kernel) (by decide +kernel) (fun v15 M14 => ?_)
            refine yL.eq (y_pop (pc := 135) d104_135 rfl) ?_
            refine yL.eq (y_goto (pc := 136) (t := 260) d104_136 (by decide)) ?_
            exact yL.eq (y_ret (pc := 260) d104_260 mr_104) yL.rf
          ·
            refine yL.eq (y_iconst (pc := 124) (v := 1) d104_124 kc_1) ?_
            refine yL.eq (y_goto (pc := 125) (t := 129) d104_125 (by decide)) ?_
            refine y_calls_i (pc := 129) (n := 1) (n' := 1) (nc' := 0) (ns' := 0) [.int 1] [.int ((a2 / 16) % 12), .int (a2 % 14), .int 2, .ref 27] false d104_129 q104_216 rfl rfl rfl (Nat.le_of_ble_eq_true rfl) (Nat.le_of_ble_eq_true rfl) rfl (by decide +kernel) (by decide +kernel) (fun v17 M16 => ?_)
            refine y_callv_i (pc := 132) (n := 5) (n' := 5) (nc' := 0) (ns' := 0) [.int 2, .int (a2 % 14), .int ((a2 / 16) % 12), .int v17] [] false d104_132 q104_276 mk_5 (yC_t yC27) rfl rfl (Nat.le_of_ble_eq_true rfl) (Nat.le_of_ble_eq_true rfl) rfl (by decide +kernel) (by decide +kernel) (fun v19 M18 => ?_)
            refine yL.eq (y_pop (pc := 135) d104_135 rfl) ?_
            refine yL.eq (y_goto (pc := 136) (t := 260) d104_136 (by decide)) ?_
            exact yL.eq (y_ret (pc := 260) d104_260 mr_104) yL.rf
        ·
          refine yL.eq (y_ts (c := 4) (lo' := 5) kc_4 (by decide)) ?_
          refine yL.ite (fun h20 => ?_) (fun h20 => ?_)
          ·
            refine yL.eq (y_aload_n (pc := 139) (x := 7) d104_139 rfl) ?_
            refine yL.eq (y_getr (pc := 140) (r := 27) d104_140 q104_33 s_r_7_4) ?_
            refine yL.eq (y_iconst (pc := 143) (v := 3) d104_143 kc_3) ?_
            refine yL.eq (y_iload_n (pc := 144) (x := a2) d104_144 rfl) ?_
            refine yL.eq (y_bipush (pc := 145) (v := 14) d104_145 kb_14) ?_
            refine yL.eq (y_imodc (pc := 147) d104_147 nzI_14) ?_
            refine yL.eq (y_iload_n (pc := 148) (x := a2) d104_148 rfl) ?_
            refine yL.eq (y_bipush (pc := 149) (v := 16) d104_149 kb_16) ?_
            refine yL.eq (y_idivc (pc := 151) d104_151 nzI_16) ?_
            refine yL.eq (y_bipush (pc := 152) (v := 14) d104_152 kb_14) ?_
            refine yL.eq (y_imodc (pc := 154) d104_154 nzI_14) ?_
            refine yL.eq (y_iload_n (pc := 155) (x := a2) d104_155 rfl) ?_
            refine yL.eq (y_sipush (pc := 156) (v := 256) d104_156 ks_256) ?_
            refine yL.eq (y_idivc (pc := 159) d104_159 nzI_256) ?_
            refine yL.eq (y_iconst (pc := 160) (v := 4) d104_160 kc_4) ?_
            refine yL.eq (y_imodc (pc := 161) d104_161 nzI_4) ?_
            refine yL.eq (y_if_eq (pc := 162) (t := 169) d104_162 (by decide)) ?_
            refine yL.ite (fun h21 => ?_) (fun h21 => ?_)
            ·
              refine yL.eq (y_iconst (pc := 169) (v := 0) d104_169 kc_0) ?_
              refine y_calls_i (pc := 170) (n := 1) (n' := 1) (nc' := 0) (ns' := 0) [.int 0] [.int ((a2 / 16) % 14), .int (a2 % 14), .int 3, .ref 27] false d104_170 q104_216 rfl rfl rfl (Nat.le_of_ble_eq_true rfl) (Nat.le_of_ble_eq_true rfl) rfl (by decide +kernel) (by decide +kernel) (fun v23 M22 => ?_)
              refine y_callv_i (pc := 173) (n := 5) (n' := 5) (nc' := 0) (ns' := 0) [.int 3, .int (a2 % 14), .int ((a2 / 16) % 14), .int v23] [] false d104_173 q104_276 mk_5 (yC_t yC27) rfl rfl (Nat.le_of_ble_eq_true rfl) (Nat.le_of_ble_eq_true rfl) rfl (by decide +kernel) (by decide +kernel) (fun v25 M24 => ?_)
              refine yL.eq (y_pop (pc := 176) d104_176 rfl) ?_
              refine yL.eq (y_goto (pc := 177) (t := 260) d104_177 (by decide)) ?_
              exact yL.eq (y_ret (pc := 260) d104_260 mr_104) yL.rf
            ·
              refine yL.eq (y_iconst (pc := 165) (v := 1) d104_165 kc_1) ?_
              refine yL.eq (y_goto (pc := 166) (t := 170) d104_166 (by decide)) ?_
              refine y_calls_i (pc := 170) (n := 1) (n' := 1) (nc' := 0) (ns' := 0) [.int 1] [.int ((a2 / 16) % 14), .int (a2 % 14), .int 3, .ref 27] false d104_170 q104_216 rfl rfl rfl (Nat.le_of_ble_eq_true rfl) (Nat.le_of_ble_eq_true rfl) rfl (by decide +kernel) (by decide +kernel) (fun v27 M26 => ?_)
              refine y_callv_i (pc := 173) (n := 5) (n' := 5) (nc' := 0) (ns' := 0) [.int 3, .int (a2 % 14), .int ((a2 / 16) % 14), .int v27] [] false d104_173 q104_276 mk_5 (yC_t yC27) rfl rfl (Nat.le_of_ble_eq_true rfl) (Nat.le_of_ble_eq_true rfl) rfl (by decide +kernel) (by decide +kernel) (fun v29 M28 => ?_)
              refine yL.eq (y_pop (pc := 176) d104_176 rfl) ?_
              refine yL.eq (y_goto (pc := 177) (t := 260) d104_177 (by decide)) ?_
              exact yL.eq (y_ret (pc := 260) d104_260 mr_104) yL.rf
          ·
            refine yL.eq (y_ts (c := 5) (lo' := 6) kc_5 (by decide)) ?_
            refine yL.ite (fun h30 => ?_) (fun h30 => ?_)
            ·
              refine yL.eq (y_aload_n (pc := 139) (x := 7) d104_139 rfl) ?_
              refine yL.eq (y_getr (pc := 140) (r := 27) d104_140 q104_33 s_r_7_4) ?_
              refine yL.eq (y_iconst (pc := 143) (v := 3) d104_143 kc_3) ?_
              refine yL.eq (y_iload_n (pc := 144) (x := a2) d104_144 rfl) ?_
              refine yL.eq (y_bipush (pc := 145) (v := 14) d104_145 kb_14) ?_
              refine yL.eq (y_imodc (pc := 147) d104_147 nzI_14) ?_
              refine yL.eq (y_iload_n (pc := 148) (x := a2) d104_148 rfl) ?_
              refine yL.eq (y_bipush (pc := 149) (v := 16) d104_149 kb_16) ?_
              refine yL.eq (y_idivc (pc := 151) d104_151 nzI_16) ?_
              refine yL.eq (y_bipush (pc := 152) (v := 14) d104_152 kb_14) ?_
              refine yL.eq (y_imodc (pc := 154) d104_154 nzI_14) ?_
              refine yL.eq (y_iload_n (pc := 155) (x := a2) d104_155 rfl) ?_
              refine yL.eq (y_sipush (pc := 156) (v := 256) d104_156 ks_256) ?_
              refine yL.eq (y_idivc (pc := 159) d104_159 nzI_256) ?_
              refine yL.eq (y_iconst (pc := 160) (v := 4) d104_160 kc_4) ?_
              refine yL.eq (y_imodc (pc := 161) d104_161 nzI_4) ?_
              refine yL.eq (y_if_eq (pc := 162) (t := 169) d104_162 (by decide)) ?_
              refine yL.ite (fun h31 => ?_) (fun h31 => ?_)
              ·
                refine yL.eq (y_iconst (pc := 169) (v := 0) d104_169 kc_0) ?_
                refine y_calls_i (pc := 170) (n := 1) (n' := 1) (nc' := 0) (ns' := 0) [.int 0] [.int ((a2 / 16) % 14), .int (a2 % 14), .int 3, .ref 27] false d104_170 q104_216 rfl rfl rfl (Nat.le_of_ble_eq_true rfl) (Nat.le_of_ble_eq_true rfl) rfl (by decide +kernel) (by decide +kernel) (fun v33 M32 => ?_)
                refine y_callv_i (pc := 173) (n := 5) (n' := 5) (nc' := 0) (ns' := 0) [.int 3, .int (a2 % 14), .int ((a2 / 16) % 14), .int v33] [] false d104_173 q104_276 mk_5 (yC_t yC27) rfl rfl (Nat.le_of_ble_eq_true rfl) (Nat.le_of_ble_eq_true rfl) rfl (by decide +kernel) (by decide +kernel) (fun v35 M34 => ?_)
                refine yL.eq (y_pop (pc := 176) d104_176 rfl) ?_
                refine yL.eq (y_goto (pc := 177) (t := 260) d104_177 (by decide)) ?_
                exact yL.eq (y_ret (pc := 260) d104_260 mr_104) yL.rf
              ·
                refine yL.eq (y_iconst (pc := 165) (v := 1) d104_165 kc_1) ?_
                refine yL.eq (y_goto (pc := 166) (t := 170) d104_166 (by decide)) ?_
                refine y_calls_i (pc := 170) (n := 1) (n' := 1) (nc' := 0) (ns' := 0) [.int 1] [.int ((a2 / 16) % 14), .int (a2 % 14), .int 3, .ref 27] false d104_170 q104_216 rfl rfl rfl (Nat.le_of_ble_eq_true rfl) (Nat.le_of_ble_eq_true rfl) rfl (by decide +kernel) (by decide +kernel) (fun v37 M36 => ?_)
                refine y_callv_i (pc := 173) (n := 5) (n' := 5) (nc' := 0) (ns' := 0) [.int 3, .int (a2 % 14), .int ((a2 / 16) % 14), .int v37] [] false d104_173 q104_276 mk_5 (yC_t yC27) rfl rfl (Nat.le_of_ble_eq_true rfl) (Nat.le_of_ble_eq_true rfl) rfl (by decide +kernel) (by decide +kernel) (fun v39 M38 => ?_)
                refine yL.eq (y_pop (pc := 176) d104_176 rfl) ?_
                refine yL.eq (y_goto (pc := 177) (t := 260) d104_177 (by decide)) ?_
                exact yL.eq (y_ret (pc := 260) d104_260 mr_104) yL.rf
            ·
              refine yL.eq (y_ts (c := 6) (lo' := 7) kc_6 (by decide)) ?_
              refine yL.ite (fun h40 => ?_) (fun h40 => ?_)
              ·
                refine yL.eq (y_iload_n (pc := 180) (x := a2) d104_180 rfl) ?_
                refine yL.eq (y_bipush (pc := 181) (v := 64) d104_181 kb_64) ?_
                refine yL.eq (y_idivc (pc := 183) d104_183 nzI_64) ?_
                refine yL.eq (y_iconst (pc := 184) (v := 2) d104_184 kc_2) ?_
                refine yL.eq (y_imodc (pc := 185) d104_185 nzI_2) ?_
                refine yL.eq (y_if_ne (pc := 186) (t := 210) d104_186 (by decide)) ?_
                refine yL.ite (fun h41 => ?_) (fun h41 => ?_)
                ·
                  refine yL.eq (y_aload_n (pc := 189) (x := 7) d104_189 rfl) ?_
                  refine yL.eq (y_getr (pc := 190) (r := 27) d104_190 q104_33 s_r_7_4) ?_
                  refine yL.eq (y_iconst (pc := 193) (v := 4) d104_193 kc_4) ?_
                  refine yL.eq (y_iload_n (pc := 194) (x := a2) d104_194 rfl) ?_
                  refine yL.eq (y_iconst (pc := 195) (v := 4) d104_195 kc_4) ?_
                  refine yL.eq (y_imodc (pc := 196) d104_196 nzI_4) ?_
                  refine yL.eq (y_iload_n (pc := 197) (x := a2) d104_197 rfl) ?_
                  refine yL.eq (y_iconst (pc := 198) (v := 4) d104_198 kc_4) ?_
                  refine yL.eq (y_idivc (pc := 199) d104_199 nzI_4) ?_
                  refine yL.eq (y_iconst (pc := 200) (v := 4) d104_200 kc_4) ?_
                  refine yL.eq (y_imodc (pc := 201) d104_201 nzI_4) ?_
                  refine yL.eq (y_iconst (pc := 202) (v := 0) d104_202 kc_0) ?_
                  refine y_callv_i (pc := 203) (n := 5) (n' := 5) (nc' := 0) (ns' := 0) [.int 4, .int (a2 % 4), .int ((a2 / 4) % 4), .int 0] [] false d104_203 q104_276 mk_5 (yC_t yC27) rfl rfl (Nat.le_of_ble_eq_true rfl) (Nat.le_of_ble_eq_true rfl) rfl (by decide +kernel) (by decide +kernel) (fun v43 M42 => ?_)
                  refine yL.eq (y_pop (pc := 206) d104_206 rfl) ?_
                  refine yL.eq (y_goto (pc := 207) (t := 260) d104_207 (by decide)) ?_
                  exact yL.eq (y_ret (pc := 260) d104_260 mr_104) yL.rf
                ·
                  refine yL.eq (y_aload_n (pc := 210) (x := 7) d104_210 rfl) ?_
                  refine yL.eq (y_getr (pc := 211) (r := 27) d104_211 q104_33 s_r_7_4) ?_
                  refine yL.eq (y_iconst (pc := 214) (v := 5) d104_214 kc_5) ?_
                  refine yL.eq (y_iconst (pc := 215) (v := 1) d104_215 kc_1) ?_
                  refine yL.eq (y_iload_n (pc := 216) (x := a2) d104_216 rfl) ?_
                  refine yL.eq (y_bipush (pc := 217) (v := 24) d104_217 kb_24) ?_
                  refine yL.eq (y_imodc (pc := 219) d104_219 nzI_24) ?_
                  refine yL.eq (y_iadd (pc := 220) d104_220) ?_
                  refine yL.eq (y_iconst (pc := 221) (v := 1) d104_221 kc_1) ?_
                  refine yL.eq (y_iload_n (pc := 222) (x := a2) d104_222 rfl) ?_
                  refine yL.eq (y_sipush (pc := 223) (v := 128) d104_223 ks_128) ?_
                  refine yL.eq (y_idivc (pc := 226) d104_226 nzI_128) ?_
                  refine yL.eq (y_bipush (pc := 227) (v := 24) d104_227 kb_24) ?_
                  refine yL.eq (y_imodc (pc := 229) d104_229 nzI_24) ?_
                  refine yL.eq (y_iadd (pc := 230) d104_230) ?_
                  refine yL.eq (y_iconst (pc := 231) (v := 0) d104_231 kc_0) ?_
                  refine y_callv_i (pc := 232) (n := 5) (n' := 5) (nc' := 0) (ns' := 0) [.int 5, .int (1 + (a2 % 24)), .int (1 + ((a2 / 128) % 24)), .int 0] [] false d104_232 q104_276 mk_5 (yC_t yC27) rfl rfl (Nat.le_of_ble_eq_true rfl) (Nat.le_of_ble_eq_true rfl) rfl (by decide +kernel) (by decide +kernel) (fun v45 M44 => ?_)
                  refine yL.eq (y_pop (pc := 235) d104_235 rfl) ?_
                  refine yL.eq (y_goto (pc := 236) (t := 260) d104_236 (by decide)) ?_
                  exact yL.eq (y_ret (pc := 260) d104_260 mr_104) yL.rf
              ·
                refine yL.eq y_tsn ?_
                refine yL.eq (y_aload_n (pc := 239) (x := 7) d104_239 rfl) ?_
                refine yL.eq (y_getr (pc := 240) (r := 27) d104_240 q104_33 s_r_7_4) ?_
                refine yL.eq (y_bipush (pc := 243) (v := 6) d104_243 kb_6) ?_
                refine yL.eq (y_iload_n (pc := 245) (x := a2) d104_245 rfl) ?_
                refine yL.eq (y_iconst (pc := 246) (v := 5) d104_246 kc_5) ?_
                refine yL.eq (y_imodc (pc := 247) d104_247 nzI_5) ?_
                refine yL.eq (y_iload_n (pc := 248) (x := a2) d104_248 rfl) ?_
                refine yL.eq (y_bipush (pc := 249) (v := 8) d104_249 kb_8) ?_
                refine yL.eq (y_idivc (pc := 251) d104_251 nzI_8) ?_
                refine yL.eq (y_bipush (pc := 252) (v := 16) d104_252 kb_16) ?_
                refine yL.eq (y_imodc (pc := 254) d104_254 nzI_16) ?_
                refine yL.eq (y_iconst (pc := 255) (v := 0) d104_255 kc_0) ?_
                refine y_callv_i (pc := 256) (n := 5) (n' := 5) (nc' := 0) (ns' := 0) [.int 6, .int (a2 % 5), .int ((a2 / 8) % 16), .int 0] [] false d104_256 q104_276 mk_5 (yC_t yC27) rfl rfl (Nat.le_of_ble_eq_true rfl) (Nat.le_of_ble_eq_true rfl) rfl (by decide +kernel) (by decide +kernel) (fun v47 M46 => ?_)
                refine yL.eq (y_pop (pc := 259) d104_259 rfl) ?_
                exact yL.eq (y_ret (pc := 260) d104_260 mr_104) yL.rf
set_option maxRecDepth 20000 in
set_option maxHeartbeats 4000000 in
theorem e144 {a0 : Int32} {M : yM} : yL (yI ((((((((a0 - (((a0.toUInt32 >>> ((1 : Int32).toUInt32 &&& Int32.toUInt32 31)).toInt32) &&& 1431655765)) &&& 858993459) + ((((a0 - (((a0.toUInt32 >>> ((1 : Int32).toUInt32 &&& Int32.toUInt32 31)).toInt32) &&& 1431655765)).toUInt32 >>> ((2 : Int32).toUInt32 &&& Int32.toUInt32 31)).toInt32) &&& 858993459)) + (((((a0 - (((a0.toUInt32 >>> ((1 : Int32).toUInt32 &&& Int32.toUInt32 31)).toInt32) &&& 1431655765)) &&& 858993459) + ((((a0 - (((a0.toUInt32 >>> ((1 : Int32).toUInt32 &&& Int32.toUInt32 31)).toInt32) &&& 1431655765)).toUInt32 >>> ((2 : Int32).toUInt32 &&& Int32.toUInt32 31)).toInt32) &&& 858993459)).toUInt32 >>> ((4 : Int32).toUInt32 &&& Int32.toUInt32 31)).toInt32)) &&& 252645135) + (((((((a0 - (((a0.toUInt32 >>> ((1 : Int32).toUInt32 &&& Int32.toUInt32 31)).toInt32) &&& 1431655765)) &&& 858993459) + ((((a0 - (((a0.toUInt32 >>> ((1 : Int32).toUInt32 &&& Int32.toUInt32 31)).toInt32) &&& 1431655765)).toUInt32 >>> ((2 : Int32).toUInt32 &&& Int32.toUInt32 31)).toInt32) &&& 858993459)) + (((((a0 - (((a0.toUInt32 >>> ((1 : Int32).toUInt32 &&& Int32.toUInt32 31)).toInt32) &&& 1431655765)) &&& 858993459) + ((((a0 - (((a0.toUInt32 >>> ((1 : Int32).toUInt32 &&& Int32.toUInt32 31)).toInt32) &&& 1431655765)).toUInt32 >>> ((2 : Int32).toUInt32 &&& Int32.toUInt32 31)).toInt32) &&& 858993459)).toUInt32 >>> ((4 : Int32).toUInt32 &&& Int32.toUInt32 31)).toInt32)) &&& 252645135).toUInt32 >>> ((8 : Int32).toUInt32 &&& Int32.toUInt32 31)).toInt32)) + ((((((((a0 - (((a0.toUInt32 >>> ((1 : Int32).toUInt32 &&& Int32.toUInt32 31)).toInt32) &&& 1431655765)) &&& 858993459) + ((((a0 - (((a0.toUInt32 >>> ((1 : Int32).toUInt32 &&& Int32.toUInt32 31)).toInt32) &&& 1431655765)).toUInt32 >>> ((2 : Int32).toUInt32 &&& Int32.toUInt32 31)).toInt32) &&& 858993459)) + (((((a0 - (((a0.toUInt32 >>> ((1 : Int32).toUInt32 &&& Int32.toUInt32 31)).toInt32) &&& 1431655765)) &&& 858993459) + ((((a0 - (((a0.toUInt32 >>> ((1 : Int32).toUInt32 &&& Int32.toUInt32 31)).toInt32) &&& 1431655765)).toUInt32 >>> ((2 : Int32).toUInt32 &&& Int32.toUInt32 31)).toInt32) &&& 858993459)).toUInt32 >>> ((4 : Int32).toUInt32 &&& Int32.toUInt32 31)).toInt32)) &&& 252645135) + (((((((a0 - (((a0.toUInt32 >>> ((1 : Int32).toUInt32 &&& Int32.toUInt32 31)).toInt32) &&& 1431655765)) &&& 858993459) + ((((a0 - (((a0.toUInt32 >>> ((1 : Int32).toUInt32 &&& Int32.toUInt32 31)).toInt32) &&& 1431655765)).toUInt32 >>> ((2 : Int32).toUInt32 &&& Int32.toUInt32 31)).toInt32) &&& 858993459)) + (((((a0 - (((a0.toUInt32 >>> ((1 : Int32).toUInt32 &&& Int32.toUInt32 31)).toInt32) &&& 1431655765)) &&& 858993459) + ((((a0 - (((a0.toUInt32 >>> ((1 : Int32).toUInt32 &&& Int32.toUInt32 31)).toInt32) &&& 1431655765)).toUInt32 >>> ((2 : Int32).toUInt32 &&& Int32.toUInt32 31)).toInt32) &&& 858993459)).toUInt32 >>> ((4 : Int32).toUInt32 &&& Int32.toUInt32 31)).toInt32)) &&& 252645135).toUInt32 >>> ((8 : Int32).toUInt32 &&& Int32.toUInt32 31)).toInt32)).toUInt32 >>> ((16 : Int32).toUInt32 &&& Int32.toUInt32 31)).toInt32)) &&& 63) M) (yX 144 0 [some (.int a0)] [] M 0 0) := by
  refine yL.eq (y_iload_n (pc := 0) (x := a0) d144_0 rfl) ?_
  refine yL.eq (y_iload_n (pc := 1) (x := a0) d144_1 rfl) ?_
  refine yL.eq (y_iconst (pc := 2) (v := 1) d144_2 kc_1) ?_
  refine yL.eq (y_iushr (pc := 3) d144_3) ?_
  refine yL.eq (y_ldc_w (pc := 4) (v := 1431655765) d144_4 q144_265) ?_
  refine yL.eq (y_iand (pc := 7) d144_7) ?_
  refine yL.eq (y_isub (pc := 8) d144_8) ?_
  refine yL.eq (y_istore_n (pc := 9) (ls' := [some (.int (a0 - (((a0.toUInt32 >>> ((1 : Int32).toUInt32 &&& Int32.toUInt32 31)).toInt32) &&& 1431655765)))]) d144_9 rfl rfl) ?_
  refine yL.eq (y_iload_n (pc := 10) (x := (a0 - (((a0.toUInt32 >>> ((1 : Int32).toUInt32 &&& Int32.toUInt32 31)).toInt32) &&& 1431655765))) d144_10 rfl) ?_
  refine yL.eq (y_ldc_w (pc := 11) (v := 858993459) d144_11 q144_266) ?_
  refine yL.eq (y_iand (pc := 14) d144_14) ?_
  refine yL.eq (y_iload_n (pc := 15) (x := (a0 - (((a0.toUInt32 >>> ((1 : Int32).toUInt32 &&& Int32.toUInt32 31)).toInt32) &&& 1431655765))) d144_15 rfl) ?_
  refine yL.eq (y_iconst (pc := 16) (v := 2) d144_16 kc_2) ?_
  refine yL.eq (y_iushr (pc := 17) d144_17) ?_
  refine yL.eq (y_ldc_w (pc := 18) (v := 858993459) d144_18 q144_266) ?_
  refine yL.eq (y_iand (pc := 21) d144_21) ?_
  refine yL.eq (y_iadd (pc := 22) d144_22) ?_
  refine yL.eq (y_istore_n (pc := 23) (ls' := [some (.int (((a0 - (((a0.toUInt32 >>> ((1 : Int32).toUInt32 &&& Int32.toUInt32 31)).toInt32) &&& 1431655765)) &&& 858993459) + ((((a0 - (((a0.toUInt32 >>> ((1 : Int32).toUInt32 &&& Int32.toUInt32 31)).toInt32) &&& 1431655765)).toUInt32 >>> ((2 : Int32).toUInt32 &&& Int32.toUInt32 31)).toInt32) &&& 858993459)))]) d144_23 rfl rfl) ?_
  refine yL.eq (y_iload_n (pc := 24) (x := (((a0 - (((a0.toUInt32 >>> ((1 : Int32).toUInt32 &&& Int32.toUInt32 31)).toInt32) &&& 1431655765)) &&& 858993459) + ((((a0 - (((a0.toUInt32 >>> ((1 : Int32).toUInt32 &&& Int32.toUInt32 31)).toInt32) &&& 1431655765)).toUInt32 >>> ((2 : Int32).toUInt32 &&& Int32.toUInt32 31)).toInt32) &&& 858993459))) d144_24 rfl) ?_
  refine yL.eq (y_iload_n (pc := 25) (x := (((a0 - (((a0.toUInt32 >>> ((1 : Int32).toUInt32 &&& Int32.toUInt32 31)).toInt32) &&& 1431655765)) &&& 858993459) + ((((a0 - (((a0.toUInt32 >>> ((1 : Int32).toUInt32 &&& Int32.toUInt32 31)).toInt32) &&& 1431655765)).toUInt32 >>> ((2 : Int32).toUInt32 &&& Int32.toUInt32 31)).toInt32) &&& 858993459))) d144_25 rfl) ?_
  refine yL.eq (y_iconst (pc := 26) (v := 4) d144_26 kc_4) ?_
  refine yL.eq (y_iushr (pc := 27) d144_27) ?_
  refine yL.eq (y_iadd (pc := 28) d144_28) ?_
  refine yL.eq (y_ldc_w (pc := 29) (v := 252645135) d144_29 q144_267) ?_
  refine yL.eq (y_iand (pc := 32) d144_32) ?_
  refine yL.eq (y_istore_n (pc := 33) (ls' := [some (.int (((((a0 - (((a0.toUInt32 >>> ((1 : Int32).toUInt32 &&& Int32.toUInt32 31)).toInt32) &&& 1431655765)) &&& 858993459) + ((((a0 - (((a0.toUInt32 >>> ((1 : Int32).toUInt32 &&& Int32.toUInt32 31)).toInt32) &&& 1431655765)).toUInt32 >>> ((2 : Int32).toUInt32 &&& Int32.toUInt32 31)).toInt32) &&& 858993459)) + (((((a0 - (((a0.toUInt32 >>> ((1 : Int32).toUInt32 &&& Int32.toUInt32 31)).toInt32) &&& 1431655765)) &&& 858993459) + ((((a0 - (((a0.toUInt32 >>> ((1 : Int32).toUInt32 &&& Int32.toUInt32 31)).toInt32) &&& 1431655765)).toUInt32 >>> ((2 : Int32).toUInt32 &&& Int32.toUInt32 31)).toInt32) &&& 858993459)).toUInt32 >>> ((4 : Int32).toUInt32 &&& Int32.toUInt32 31)).toInt32)) &&& 252645135))]) d144_33 rfl rfl) ?_
  refine yL.eq (y_iload_n (pc := 34) (x := (((((a0 - (((a0.toUInt32 >>> ((1 : Int32).toUInt32 &&& Int32.toUInt32 31)).toInt32) &&& 1431655765)) &&& 858993459) + ((((a0 - (((a0.toUInt32 >>> ((1 : Int32).toUInt32 &&& Int32.toUInt32 31)).toInt32) &&& 1431655765)).toUInt32 >>> ((2 : Int32).toUInt32 &&& Int32.toUInt32 31)).toInt32) &&& 858993459)) + (((((a0 - (((a0.toUInt32 >>> ((1 : Int32).toUInt32 &&& Int32.toUInt32 31)).toInt32) &&& 1431655765)) &&& 858993459) + ((((a0 - (((a0.toUInt32 >>> ((1 : Int32).toUInt32 &&& Int32.toUInt32 31)).toInt32) &&& 1431655765)).toUInt32 >>> ((2 : Int32).toUInt32 &&& Int32.toUInt32 31)).toInt32) &&& 858993459)).toUInt32 >>> ((4 : Int32).toUInt32 &&& Int32.toUInt32 31)).toInt32)) &&& 252645135)) d144_34 rfl) ?_
  refine yL.eq (y_iload_n (pc := 35) (x := (((((a0 - (((a0.toUInt32 >>> ((1 : Int32).toUInt32 &&& Int32.toUInt32 31)).toInt32) &&& 1431655765)) &&& 858993459) + ((((a0 - (((a0.toUInt32 >>> ((1 : Int32).toUInt32 &&& Int32.toUInt32 31)).toInt32) &&& 1431655765)).toUInt32 >>> ((2 : Int32).toUInt32 &&& Int32.toUInt32 31)).toInt32) &&& 858993459)) + (((((a0 - (((a0.toUInt32 >>> ((1 : Int32).toUInt32 &&& Int32.toUInt32 31)).toInt32) &&& 1431655765)) &&& 858993459) + ((((a0 - (((a0.toUInt32 >>> ((1 : Int32).toUInt32 &&& Int32.toUInt32 31)).toInt32) &&& 1431655765)).toUInt32 >>> ((2 : Int32).toUInt32 &&& Int32.toUInt32 31)).toInt32) &&& 858993459)).toUInt32 >>> ((4 : Int32).toUInt32 &&& Int32.toUInt32 31)).toInt32)) &&& 252645135)) d144_35 rfl) ?_
  refine yL.eq (y_bipush (pc := 36) (v := 8) d144_36 kb_8) ?_
  refine yL.eq (y_iushr (pc := 38) d144_38) ?_
  refine yL.eq (y_iadd (pc := 39) d144_39) ?_
  refine yL.eq (y_istore_n (pc := 40) (ls' := [some (.int ((((((a0 - (((a0.toUInt32 >>> ((1 : Int32).toUInt32 &&& Int32.toUInt32 31)).toInt32) &&& 1431655765)) &&& 858993459) + ((((a0 - (((a0.toUInt32 >>> ((1 : Int32).toUInt32 &&& Int32.toUInt32 31)).toInt32) &&& 1431655765)).toUInt32 >>> ((2 : Int32).toUInt32 &&& Int32.toUInt32 31)).toInt32) &&& 858993459)) + (((((a0 - (((a0.toUInt32 >>> ((1 : Int32).toUInt32 &&& Int32.toUInt32 31)).toInt32) &&& 1431655765)) &&& 858993459) + ((((a0 - (((a0.toUInt32 >>> ((1 : Int32).toUInt32 &&& Int32.toUInt32 31)).toInt32) &&& 1431655765)).toUInt32 >>> ((2 : Int32).toUInt32 &&& Int32.toUInt32 31)).toInt32) &&& 858993459)).toUInt32 >>> ((4 : Int32).toUInt32 &&& Int32.toUInt32 31)).toInt32)) &&& 252645135) + (((((((a0 - (((a0.toUInt32 >>> ((1 : Int32).toUInt32 &&& Int32.toUInt32 31)).toInt32) &&& 1431655765)) &&& 858993459) + ((((a0 - (((a0.toUInt32 >>> ((1 : Int32).toUInt32 &&& Int32.toUInt32 31)).toInt32) &&& 1431655765)).toUInt32 >>> ((2 : Int32).toUInt32 &&& Int32.toUInt32 31)).toInt32) &&& 858993459)) + (((((a0 - (((a0.toUInt32 >>> ((1 : Int32).toUInt32 &&& Int32.toUInt32 31)).toInt32) &&& 1431655765)) &&& 858993459) + ((((a0 - (((a0.toUInt32 >>> ((1 : Int32).toUInt32 &&& Int32.toUInt32 31)).toInt32) &&& 1431655765)).toUInt32 >>> ((2 : Int32).toUInt32 &&& Int32.toUInt32 31)).toInt32) &&& 858993459)).toUInt32 >>> ((4 : Int32).toUInt32 &&& Int32.toUInt32 31)).toInt32)) &&& 252645135).toUInt32 >>> ((8 : Int32).toUInt32 &&& Int32.toUInt32 31)).toInt32)))]) d144_40 rfl rfl) ?_
  refine yL.eq (y_iload_n (pc := 41) (x := ((((((a0 - (((a0.toUInt32 >>> ((1 : Int32).toUInt32 &&& Int32.toUInt32 31)).toInt32) &&& 1431655765)) &&& 858993459) + ((((a0 - (((a0.toUInt32 >>> ((1 : Int32).toUInt32 &&& Int32.toUInt32 31)).toInt32) &&& 1431655765)).toUInt32 >>> ((2 : Int32).toUInt32 &&& Int32.toUInt32 31)).toInt32) &&& 858993459)) + (((((a0 - (((a0.toUInt32 >>> ((1 : Int32).toUInt32 &&& Int32.toUInt32 31)).toInt32) &&& 1431655765)) &&& 858993459) + ((((a0 - (((a0.toUInt32 >>> ((1 : Int32).toUInt32 &&& Int32.toUInt32 31)).toInt32) &&& 1431655765)).toUInt32 >>> ((2 : Int32).toUInt32 &&& Int32.toUInt32 31)).toInt32) &&& 858993459)).toUInt32 >>> ((4 : Int32).toUInt32 &&& Int32.toUInt32 31)).toInt32)) &&& 252645135) + (((((((a0 - (((a0.toUInt32 >>> ((1 : Int32).toUInt32 &&& Int32.toUInt32 31)).toInt32) &&& 1431655765)) &&& 858993459) + ((((a0 - (((a0.toUInt32 >>> ((1 : Int32).toUInt32 &&& Int32.toUInt32 31)).toInt32) &&& 1431655765)).toUInt32 >>> ((2 : Int32).toUInt32 &&& Int32.toUInt32 31)).toInt32) &&& 858993459)) + (((((a0 - (((a0.toUInt32 >>> ((1 : Int32).toUInt32 &&& Int32.toUInt32 31)).toInt32) &&& 1431655765)) &&& 858993459) + ((((a0 - (((a0.toUInt32 >>> ((1 : Int32).toUInt32 &&& Int32.toUInt32 31)).toInt32) &&& 1431655765)).toUInt32 >>> ((2 : Int32).toUInt32 &&& Int32.toUInt32 31)).toInt32) &&& 858993459)).toUInt32 >>> ((4 : Int32).toUInt32 &&& Int32.toUInt32 31)).toInt32)) &&& 252645135).toUInt32 >>> ((8 : Int32).toUInt32 &&& Int32.toUInt32 31)).toInt32))) d144_41 rfl) ?_
  refine yL.eq (y_iload_n (pc := 42) (x := ((((((a0 - (((a0.toUInt32 >>> ((1 : Int32).toUInt32 &&& Int32.toUInt32 31)).toInt32) &&& 1431655765)) &&& 858993459) + ((((a0 - (((a0.toUInt32 >>> ((1 : Int32).toUInt32 &&& Int32.toUInt32 31)).toInt32) &&& 1431655765)).toUInt32 >>> ((2 : Int32).toUInt32 &&& Int32.toUInt32 31)).toInt32) &&& 858993459)) + (((((a0 - (((a0.toUInt32 >>> ((1 : Int32).toUInt32 &&& Int32.toUInt32 31)).toInt32) &&& 1431655765)) &&& 858993459) + ((((a0 - (((a0.toUInt32 >>> ((1 : Int32).toUInt32 &&& Int32.toUInt32 31)).toInt32) &&& 1431655765)).toUInt32 >>> ((2 : Int32).toUInt32 &&& Int32.toUInt32 31)).toInt32) &&& 858993459)).toUInt32 >>> ((4 : Int32).toUInt32 &&& Int32.toUInt32 31)).toInt32)) &&& 252645135) + (((((((a0 - (((a0.toUInt32 >>> ((1 : Int32).toUInt32 &&& Int32.toUInt32 31)).toInt32) &&& 1431655765)) &&& 858993459) + ((((a0 - (((a0.toUInt32 >>> ((1 : Int32).toUInt32 &&& Int32.toUInt32 31)).toInt32) &&& 1431655765)).toUInt32 >>> ((2 : Int32).toUInt32 &&& Int32.toUInt32 31)).toInt32) &&& 858993459)) + (((((a0 - (((a0.toUInt32 >>> ((1 : Int32).toUInt32 &&& Int32.toUInt32 31)).toInt32) &&& 1431655765)) &&& 858993459) + ((((a0 - (((a0.toUInt32 >>> ((1 : Int32).toUInt32 &&& Int32.toUInt32 31)).toInt32) &&& 1431655765)).toUInt32 >>> ((2 : Int32).toUInt32 &&& Int32.toUInt32 31)).toInt32) &&& 858993459)).toUInt32 >>> ((4 : Int32).toUInt32 &&& Int32.toUInt32 31)).toInt32)) &&& 252645135).toUInt32 >>> ((8 : Int32).toUInt32 &&& Int32.toUInt32 31)).toInt32))) d144_42 rfl) ?_
  refine yL.eq (y_bipush (pc := 43) (v := 16) d144_43 kb_16) ?_
  refine yL.eq (y_iushr (pc := 45) d144_45) ?_
  refine yL.eq (y_iadd (pc := 46) d144_46) ?_
  refine yL.eq (y_istore_n (pc := 47) (ls' := [some (.int (((((((a0 - (((a0.toUInt32 >>> ((1 : Int32).toUInt32 &&& Int32.toUInt32 31)).toInt32) &&& 1431655765)) &&& 858993459) + ((((a0 - (((a0.toUInt32 >>> ((1 : Int32).toUInt32 &&& Int32.toUInt32 31)).toInt32) &&& 1431655765)).toUInt32 >>> ((2 : Int32).toUInt32 &&& Int32.toUInt32 31)).toInt32) &&& 858993459)) + (((((a0 - (((a0.toUInt32 >>> ((1 : Int32).toUInt32 &&& Int32.toUInt32 31)).toInt32) &&& 1431655765)) &&& 858993459) + ((((a0 - (((a0.toUInt32 >>> ((1 : Int32).toUInt32 &&& Int32.toUInt32 31)).toInt32) &&& 1431655765)).toUInt32 >>> ((2 : Int32).toUInt32 &&& Int32.toUInt32 31)).toInt32) &&& 858993459)).toUInt32 >>> ((4 : Int32).toUInt32 &&& Int32.toUInt32 31)).toInt32)) &&& 252645135) + (((((((a0 - (((a0.toUInt32 >>> ((1 : Int32).toUInt32 &&& Int32.toUInt32 31)).toInt32) &&& 1431655765)) &&& 858993459) + ((((a0 - (((a0.toUInt32 >>> ((1 : Int32).toUInt32 &&& Int32.toUInt32 31)).toInt32) &&& 1431655765)).toUInt32 >>> ((2 : Int32).toUInt32 &&& Int32.toUInt32 31)).toInt32) &&& 858993459)) + (((((a0 - (((a0.toUInt32 >>> ((1 : Int32).toUInt32 &&& Int32.toUInt32 31)).toInt32) &&& 1431655765)) &&& 858993459) + ((((a0 - (((a0.toUInt32 >>> ((1 : Int32).toUInt32 &&& Int32.toUInt32 31)).toInt32) &&& 1431655765)).toUInt32 >>> ((2 : Int32).toUInt32 &&& Int32.toUInt32 31)).toInt32) &&& 858993459)).toUInt32 >>> ((4 : Int32).toUInt32 &&& Int32.toUInt32 31)).toInt32)) &&& 252645135).toUInt32 >>> ((8 : Int32).toUInt32 &&& Int32.toUInt32 31)).toInt32)) + ((((((((a0 - (((a0.toUInt32 >>> ((1 : Int32).toUInt32 &&& Int32.toUInt32 31)).toInt32) &&& 1431655765)) &&& 858993459) + ((((a0 - (((a0.toUInt32 >>> ((1 : Int32).toUInt32 &&& Int32.toUInt32 31)).toInt32) &&& 1431655765)).toUInt32 >>> ((2 : Int32).toUInt32 &&& Int32.toUInt32 31)).toInt32) &&& 858993459)) + (((((a0 - (((a0.toUInt32 >>> ((1 : Int32).toUInt32 &&& Int32.toUInt32 31)).toInt32) &&& 1431655765)) &&& 858993459) + ((((a0 - (((a0.toUInt32 >>> ((1 : Int32).toUInt32 &&& Int32.toUInt32 31)).toInt32) &&& 1431655765)).toUInt32 >>> ((2 : Int32).toUInt32 &&& Int32.toUInt32 31)).toInt32) &&& 858993459)).toUInt32 >>> ((4 : Int32).toUInt32 &&& Int32.toUInt32 31)).toInt32)) &&& 252645135) + (((((((a0 - (((a0.toUInt32 >>> ((1 : Int32).toUInt32 &&& Int32.toUInt32 31)).toInt32) &&& 1431655765)) &&& 858993459) + ((((a0 - (((a0.toUInt32 >>> ((1 : Int32).toUInt32 &&& Int32.toUInt32 31)).toInt32) &&& 1431655765)).toUInt32 >>> ((2 : Int32).toUInt32 &&& Int32.toUInt32 31)).toInt32) &&& 858993459)) + (((((a0 - (((a0.toUInt32 >>> ((1 : Int32).toUInt32 &&& Int32.toUInt32 31)).toInt32) &&& 1431655765)) &&& 858993459) + ((((a0 - (((a0.toUInt32 >>> ((1 : Int32).toUInt32 &&& Int32.toUInt32 31)).toInt32) &&& 1431655765)).toUInt32 >>> ((2 : Int32).toUInt32 &&& Int32.toUInt32 31)).toInt32) &&& 858993459)).toUInt32 >>> ((4 : Int32).toUInt32 &&& Int32.toUInt32 31)).toInt32)) &&& 252645135).toUInt32 >>> ((8 : Int32).toUInt32 &&& Int32.toUInt32 31)).toInt32)).toUInt32 >>> ((16 : Int32).toUInt32 &&& Int32.toUInt32 31)).toInt32)))]) d144_47 rfl rfl) ?_
  refine yL.eq (y_iload_n (pc := 48) (x := (((((((a0 - (((a0.toUInt32 >>> ((1 : Int32).toUInt32 &&& Int32.toUInt32 31)).toInt32) &&& 1431655765)) &&& 858993459) + ((((a0 - (((a0.toUInt32 >>> ((1 : Int32).toUInt32 &&& Int32.toUInt32 31)).toInt32) &&& 1431655765)).toUInt32 >>> ((2 : Int32).toUInt32 &&& Int32.toUInt32 31)).toInt32) &&& 858993459)) + (((((a0 - (((a0.toUInt32 >>> ((1 : Int32).toUInt32 &&& Int32.toUInt32 31)).toInt32) &&& 1431655765)) &&& 858993459) + ((((a0 - (((a0.toUInt32 >>> ((1 : Int32).toUInt32 &&& Int32.toUInt32 31)).toInt32) &&& 1431655765)).toUInt32 >>> ((2 : Int32).toUInt32 &&& Int32.toUInt32 31)).toInt32) &&& 858993459)).toUInt32 >>> ((4 : Int32).toUInt32 &&& Int32.toUInt32 31)).toInt32)) &&& 252645135) + (((((((a0 - (((a0.toUInt32 >>> ((1 : Int32).toUInt32 &&& Int32.toUInt32 31)).toInt32) &&& 1431655765)) &&& 858993459) + ((((a0 - (((a0.toUInt32 >>> ((1 : Int32).toUInt32 &&& Int32.toUInt32 31)).toInt32) &&& 1431655765)).toUInt32 >>> ((2 : Int32).toUInt32 &&& Int32.toUInt32 31)).toInt32) &&& 858993459)) + (((((a0 - (((a0.toUInt32 >>> ((1 : Int32).toUInt32 &&& Int32.toUInt32 31)).toInt32) &&& 1431655765)) &&& 858993459) + ((((a0 - (((a0.toUInt32 >>> ((1 : Int32).toUInt32 &&& Int32.toUInt32 31)).toInt32) &&& 1431655765)).toUInt32 >>> ((2 : Int32).toUInt32 &&& Int32.toUInt32 31)).toInt32) &&& 858993459)).toUInt32 >>> ((4 : Int32).toUInt32 &&& Int32.toUInt32 31)).toInt32)) &&& 252645135).toUInt32 >>> ((8 : Int32).toUInt32 &&& Int32.toUInt32 31)).toInt32)) + ((((((((a0 - (((a0.toUInt32 >>> ((1 : Int32).toUInt32 &&& Int32.toUInt32 31)).toInt32) &&& 1431655765)) &&& 858993459) + ((((a0 - (((a0.toUInt32 >>> ((1 : Int32).toUInt32 &&& Int32.toUInt32 31)).toInt32) &&& 1431655765)).toUInt32 >>> ((2 : Int32).toUInt32 &&& Int32.toUInt32 31)).toInt32) &&& 858993459)) + (((((a0 - (((a0.toUInt32 >>> ((1 : Int32).toUInt32 &&& Int32.toUInt32 31)).toInt32) &&& 1431655765)) &&& 858993459) + ((((a0 - (((a0.toUInt32 >>> ((1 : Int32).toUInt32 &&& Int32.toUInt32 31)).toInt32) &&& 1431655765)).toUInt32 >>> ((2 : Int32).toUInt32 &&& Int32.toUInt32 31)).toInt32) &&& 858993459)).toUInt32 >>> ((4 : Int32).toUInt32 &&& Int32.toUInt32 31)).toInt32)) &&& 252645135) + (((((((a0 - (((a0.toUInt32 >>> ((1 : Int32).toUInt32 &&& Int32.toUInt32 31)).toInt32) &&& 1431655765)) &&& 858993459) + ((((a0 - (((a0.toUInt32 >>> ((1 : Int32).toUInt32 &&& Int32.toUInt32 31)).toInt32) &&& 1431655765)).toUInt32 >>> ((2 : Int32).toUInt32 &&& Int32.toUInt32 31)).toInt32) &&& 858993459)) + (((((a0 - (((a0.toUInt32 >>> ((1 : Int32).toUInt32 &&& Int32.toUInt32 31)).toInt32) &&& 1431655765)) &&& 858993459) + ((((a0 - (((a0.toUInt32 >>> ((1 : Int32).toUInt32 &&& Int32.toUInt32 31)).toInt32) &&& 1431655765)).toUInt32 >>> ((2 : Int32).toUInt32 &&& Int32.toUInt32 31)).toInt32) &&& 858993459)).toUInt32 >>> ((4 : Int32).toUInt32 &&& Int32.toUInt32 31)).toInt32)) &&& 252645135).toUInt32 >>> ((8 : Int32).toUInt32 &&& Int32.toUInt32 31)).toInt32)).toUInt32 >>> ((16 : Int32).toUInt32 &&& Int32.toUInt32 31)).toInt32))) d144_48 rfl) ?_
  refine yL.eq (y_bipush (pc := 49) (v := 63) d144_49 kb_63) ?_
  refine yL.eq (y_iand (pc := 51) d144_51) ?_
  exact yL.eq (y_ireti (pc := 52) d144_52 mr_144) yL.rf
