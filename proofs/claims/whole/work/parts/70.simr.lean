/-! simulate in the reference -/
section SIMR
variable {M : yM} {r : yRow}
theorem c208 (h : M 192 = r) (ok : rok r) (ha : acy r) {n : Nat} (hn : n < 2147483648) : yX 208 0 [some (.ref 190), some (.int (Int32.ofNat n)), none, none, none] [] M 0 0 = yV (yUa M 192 (Ssm r n)) := by
  have hm : n / 8 < 2147483648 := by omega
  have self : ∀ {f : yRow}, f = r → yV M = yV (yUa M 192 f) := fun e => by rw [e, ← h, yUa_self]
  have uv : ∀ {Z : Option yRes} {k : Int32} {f : yRow}, Z = yI k (yUa M 192 f) → (yCi false Z fun v4 M3 => yV M3) = yV (yUa M 192 f) := fun e => by rw [e, yCi_I]
  have uv2 : ∀ {Z : Option yRes} {k : Int32} {f : yRow}, Z = yI k (yUa M 192 f) → (yCi false Z fun v4 M3 => if v4 < 0 then yV M3 else yV M3) = yV (yUa M 192 f) := fun e => by rw [e, yCi_I]; split <;> rfl
  refine yL.V e208 ?_
  simp only [md (a := n) (b := 8) (V := 8) rfl hn (by omega), dv (a := n) (b := 8) (V := 8) rfl hn (by omega) (by omega)]
  simp only [md (a := n / 8) (b := 5000) (V := 5000) rfl hm (by omega), md (a := n / 8) (b := 40) (V := 40) rfl hm (by omega), md (a := n / 8) (b := 14) (V := 14) rfl hm (by omega), md (a := n / 8) (b := 4) (V := 4) rfl hm (by omega), md (a := n / 8) (b := 24) (V := 24) rfl hm (by omega), md (a := n / 8) (b := 5) (V := 5) rfl hm (by omega), dm (a := n / 8) (b := 64) (c := 5) (B := 64) (C := 5) rfl rfl hm (by omega) (by omega) (by omega), dm (a := n / 8) (b := 512) (c := 2) (B := 512) (C := 2) rfl rfl hm (by omega) (by omega) (by omega), dm (a := n / 8) (b := 256) (c := 4) (B := 256) (C := 4) rfl rfl hm (by omega) (by omega) (by omega), dm (a := n / 8) (b := 16) (c := 12) (B := 16) (C := 12) rfl rfl hm (by omega) (by omega) (by omega), dm (a := n / 8) (b := 16) (c := 14) (B := 16) (C := 14) rfl rfl hm (by omega) (by omega) (by omega), dm (a := n / 8) (b := 64) (c := 2) (B := 64) (C := 2) rfl rfl hm (by omega) (by omega) (by omega), dm (a := n / 8) (b := 4) (c := 4) (B := 4) (C := 4) rfl rfl hm (by omega) (by omega) (by omega), dm (a := n / 8) (b := 128) (c := 24) (B := 128) (C := 24) rfl rfl hm (by omega) (by omega) (by omega), dm (a := n / 8) (b := 8) (c := 16) (B := 8) (C := 16) rfl rfl hm (by omega) (by omega) (by omega), x1]
  have k0 : (Int32.ofNat (n % 8) = 0) = (n % 8 = 0) := oe rfl (by omega) (by omega)
  have k1 : (Int32.ofNat (n % 8) = 1) = (n % 8 = 1) := oe rfl (by omega) (by omega)
  have k2 : (Int32.ofNat (n % 8) = 2) = (n % 8 = 2) := oe rfl (by omega) (by omega)
  have k3 : (Int32.ofNat (n % 8) = 3) = (n % 8 = 3) := oe rfl (by omega) (by omega)
  have k4 : (Int32.ofNat (n % 8) = 4) = (n % 8 = 4) := oe rfl (by omega) (by omega)
  have k5 : (Int32.ofNat (n % 8) = 5) = (n % 8 = 5) := oe rfl (by omega) (by omega)
  have k6 : (Int32.ofNat (n % 8) = 6) = (n % 8 = 6) := oe rfl (by omega) (by omega)
  have z1 : (Int32.ofNat (n / 8 / 256 % 4) = 0) = (n / 8 / 256 % 4 = 0) := oe rfl (by omega) (by omega)
  have z2 : (Int32.ofNat (n / 8 / 64 % 2) = 0) = (n / 8 / 64 % 2 = 0) := oe rfl (by omega) (by omega)
  have z3 : (Int32.ofNat (n / 8 / 512 % 2) = 1) = (n / 8 / 512 % 2 = 1) := oe rfl (by omega) (by omega)
  simp only [k0, k1, k2, k3, k4, k5, k6, z1, z2, z3]
  -- a step
  have stp : (if M 192 15 < 14 then if n / 8 / 512 % 2 = 1 then yCi false (yX 150 0 [some (.ref 192), some (.int (Int32.ofNat (1 + n / 8 % 40))), some (.int (Int32.ofNat (n / 8 / 64 % 5) - 1)), some (.int 1), none] [] M 0 0) fun v9 M8 => yV M8 else yCi false (yX 150 0 [some (.ref 192), some (.int (Int32.ofNat (1 + n / 8 % 40))), some (.int (Int32.ofNat (n / 8 / 64 % 5) - 1)), some (.int 0), none] [] M 0 0) fun v11 M10 => yV M10 else yV M) = yV (yUa M 192 (prfI r 1 (Int32.ofNat (1 + n / 8 % 40)) (Int32.ofNat (n / 8 / 64 % 5) - 1) (Int32.ofNat (n / 8 / 512 % 2)))) := by
    have b1 : bet (Int32.ofNat (1 + n / 8 % 40)) 1 90 := ⟨by rw [show (1 : Int32) = Int32.ofNat 1 from rfl, ofN_leI (by omega) (by omega)]; omega, (ofN_bd (N := 90) rfl (by omega) (by omega)).2⟩
    have b2 : bet (Int32.ofNat (n / 8 / 64 % 5) - 1) (-1) 3 := by
      obtain ⟨x1, x2⟩ := ofN_bd (n := n / 8 / 64 % 5) (N := 4) (v := 4) rfl (by omega) (by omega)
      exact ⟨by grind, by grind⟩
    have f1 : ∀ d, flt r 1 (Int32.ofNat (1 + n / 8 % 40)) (Int32.ofNat (n / 8 / 64 % 5) - 1) d = if r 15 < 14 then 0 else 3 := by
      intro d
      unfold flt
      rw [if_neg (by decide), if_pos rfl, if_pos ⟨b1, b2⟩]
    have e : ∀ d, prfR r 1 (Int32.ofNat (1 + n / 8 % 40)) (Int32.ofNat (n / 8 / 64 % 5) - 1) d = rStp r (Int32.ofNat (1 + n / 8 % 40)) (Int32.ofNat (n / 8 / 64 % 5) - 1) d := fun d => by unfold prfR; rfl
    rw [h]
    by_cases q : r 15 < 14
    · rw [if_pos q, prfI_y (by rw [f1, if_pos q]), e]
      by_cases y : n / 8 / 512 % 2 = 1
      · rw [if_pos y, c150 yR192 (by rw [h]; exact ok) (by rw [h]; exact q) ⟨by decide, by decide⟩, yCi_I, h, y]
        rfl
      · rw [if_neg y, c150 yR192 (by rw [h]; exact ok) (by rw [h]; exact q) b00, yCi_I, h, show n / 8 / 512 % 2 = 0 by omega]
        rfl
    · rw [if_neg q]
      exact self (prfI_n (by rw [f1, if_neg q]; decide))
  -- a use
  have use : ∀ d, bet d 0 1 → (yCi false (yX 115 0 [some (.ref 192), some (.int (Int32.ofNat (n / 8 % 14)))] [] M 0 0) fun v21 M20 => if v21 = 0 then yV M20 else yCi false (yX 114 0 [some (.ref 192), some (.int (Int32.ofNat (n / 8 / 16 % 12)))] [] M20 0 0) fun v24 M23 => if v24 = 0 then yV M23 else yCi false (yX 151 0 [some (.ref 192), some (.int (Int32.ofNat (n / 8 % 14))), some (.int (Int32.ofNat (n / 8 / 16 % 12))), some (.int d), none] [] M23 0 0) fun v28 M27 => if v28 < 0 then yV M27 else yV M27) = yV (yUa M 192 (prfI r 2 (Int32.ofNat (n / 8 % 14)) (Int32.ofNat (n / 8 / 16 % 12)) d)) := by
    intro d hd
    have f2 : flt r 2 (Int32.ofNat (n / 8 % 14)) (Int32.ofNat (n / 8 / 16 % 12)) d = if bet (Int32.ofNat (n / 8 % 14)) 0 (r 15 - 1) ∧ bet (Int32.ofNat (n / 8 / 16 % 12)) 0 (r 0 - 1) then 0 else 1 := by
      unfold flt
      rw [if_neg (by decide), if_neg (by decide), if_pos rfl]
    rw [c115 yR192, yCi_I, c114 yR192, yCi_I, h]
    simp only [yb_0]
    by_cases q1 : 0 ≤ Int32.ofNat (n / 8 % 14) ∧ Int32.ofNat (n / 8 % 14) ≤ r 15 - 1
    · rw [if_neg (not_not_intro q1)]
      by_cases q2 : 0 ≤ Int32.ofNat (n / 8 / 16 % 12) ∧ Int32.ofNat (n / 8 / 16 % 12) ≤ r 0 - 1
      · have e : prfR r 2 (Int32.ofNat (n / 8 % 14)) (Int32.ofNat (n / 8 / 16 % 12)) d = upd r (58 + yx (Int32.ofNat (n / 8 % 14))) (wth (r (58 + yx (Int32.ofNat (n / 8 % 14)))) (Int32.ofNat (n / 8 / 16 % 12)) (d = 1)) := by unfold prfR; rfl
        rw [if_neg (not_not_intro q2), prfI_y (by rw [f2, if_pos ⟨q1, q2⟩]), e]
        have t := c151 (M := M) (a := Int32.ofNat (n / 8 % 14)) (b := Int32.ofNat (n / 8 / 16 % 12)) yR192 (by rw [h]; exact ok) hd (by rw [h]; exact q1)
        rw [h] at t
        exact uv2 t
      · rw [if_pos q2]
        exact self (prfI_n (by rw [f2, if_neg (fun z => q2 z.2)]; decide))
    · rw [if_pos q1]
      exact self (prfI_n (by rw [f2, if_neg (fun z => q1 z.1)]; decide))
  unfold Ssm fl4
  by_cases q0 : n % 8 = 0
  · simp only [if_pos q0]
    have b1 : bet (Int32.ofNat (1 + n / 8 % 5000)) 1 50000 := ⟨by rw [show (1 : Int32) = Int32.ofNat 1 from rfl, ofN_leI (by omega) (by omega)]; omega, (ofN_bd (N := 50000) rfl (by omega) (by omega)).2⟩
    have f0 : flt r 0 (Int32.ofNat (1 + n / 8 % 5000)) 0 0 = if r 0 < 12 then 0 else 3 := by
      unfold flt
      rw [if_pos rfl, if_pos b1]
    have e : prfR r 0 (Int32.ofNat (1 + n / 8 % 5000)) 0 0 = rIng r (Int32.ofNat (1 + n / 8 % 5000)) := by unfold prfR; rfl
    rw [h]
    by_cases q : r 0 < 12
    · rw [if_pos q, prfI_y (by rw [f0, if_pos q]), e]
      refine uv (k := M 192 0) ?_
      rw [c147 yR192 (by rw [h]; exact ok) (by rw [h]; exact q), h]
    · rw [if_neg q]
      exact self (prfI_n (by rw [f0, if_neg q]; decide))
  · simp only [if_neg q0]
    by_cases q1 : n % 8 = 1
    · simp only [if_pos q1, if_pos (Or.inl q1 : n % 8 = 1 ∨ n % 8 = 2)]; exact stp
    · simp only [if_neg q1]
      by_cases q2 : n % 8 = 2
      · simp only [if_pos q2, if_pos (Or.inr q2 : n % 8 = 1 ∨ n % 8 = 2)]; exact stp
      · simp only [if_neg q2, if_neg (show ¬ (n % 8 = 1 ∨ n % 8 = 2) by omega)]
        by_cases q3 : n % 8 = 3
        · simp only [if_pos q3]
          by_cases y : n / 8 / 256 % 4 = 0
          · simp only [if_pos y]; exact use 0 b00
          · simp only [if_neg y]; exact use 1 ⟨by decide, by decide⟩
        · simp only [if_neg q3]
          by_cases q4 : n % 8 = 4
          · simp only [if_pos q4, if_pos (Or.inl q4 : n % 8 = 4 ∨ n % 8 = 5)]
            by_cases y : n / 8 / 256 % 4 = 0
            · simp only [if_pos y]; exact uv (c202 h ok b00)
            · simp only [if_neg y]; exact uv (c202 h ok ⟨by decide, by decide⟩)
          · simp only [if_neg q4]
            by_cases q5 : n % 8 = 5
            · simp only [if_pos q5, if_pos (Or.inr q5 : n % 8 = 4 ∨ n % 8 = 5)]
              by_cases y : n / 8 / 256 % 4 = 0
              · simp only [if_pos y]; exact uv (c202 h ok b00)
              · simp only [if_neg y]; exact uv (c202 h ok ⟨by decide, by decide⟩)
            · simp only [if_neg q5, if_neg (show ¬ (n % 8 = 4 ∨ n % 8 = 5) by omega)]
              by_cases q6 : n % 8 = 6
              · simp only [if_pos q6]
                by_cases y : n / 8 / 64 % 2 = 0
                · simp only [if_pos y]; exact uv (c203 h ok)
                · simp only [if_neg y]; exact uv (c200 h ok ha)
              · simp only [if_neg q6]; exact uv (c204 h ok)
variable {A : yAb}
theorem c209 (h : RelR M A) (hA : Aok A) {x : Int64} {k : Int32} : RR (yX 209 0 [some (.ref 190), some (.long x), none, some (.int k), none, none, none] [] M 0 0) M cdA (oSim A.1 (M 192) x k) A := by
  have ok := hA.1
  refine RR.of ?_ e209
  unfold oSim
  have e191 : (yU M 190 0 0) 191 = A.1 := (yU_ne (by omega)).trans h.1
  have e192 : (yU M 190 0 0) 192 = M 192 := yU_ne (by omega)
  rw [r108 (m := 60) w_1 (by decide +kernel), yCi_I, c107_1, yCi_I, c107_0, yCi_I]
  simp only [yb_0]
  by_cases q1 : bet k 1 60
  · obtain ⟨c1, c2⟩ := sim_ix q1
    have key : ∀ f n (x : Int64) (r : yRow) (M2 : yM) (o1 o2 : Option Value), n + f = yx k → M2 192 = r → rok r → acy r → TR (yU M 190 0 0) M2 → ∃ M3, yX 209 43 [some (.ref 190), o1, o2, some (.int k), some (.long x), none, some (.int (Int32.ofNat n))] [] M2 0 0 = yI (Sans (Ssi f x r)) M3 ∧ TR (yU M 190 0 0) M3 := by
      intro f
      induction f with
      | zero =>
        intro n x r M2 o1 o2 hn h192 ok ha hR
        obtain ⟨M3, s1, s2⟩ := c144 (M := M2) yR192 (by rw [h192]; exact ok) (by rw [h192]; exact ha)
        rw [h192] at s1 s2
        have g192 : M3 192 = r := (s2.1 192 (by omega) (by omega)).trans h192
        have t := c128 (M := M3) yR192 (by rw [g192]; exact ok)
        rw [g192] at t
        have estk : r 15 - M3 190 11 = Sstk r (Spl r) := by rw [s2.2.2.1]; rfl
        refine ⟨M3, yL.I e209_43 ?_, TR_rs hR s2⟩
        rw [if_neg (by rw [c2, ofN_lt (by omega) (by omega)]; omega), s1, yCi_I, t, yCi_I, g192, estk, Ssi_0, Sans]
      | succ f ih =>
        intro n x r M2 o1 o2 hn h192 ok ha hR
        have hlt := rdn_lt x
        obtain ⟨p1, p2⟩ := Ssm_ok ok ha (rdn x)
        obtain ⟨M5, t1, t2⟩ := ih (n + 1) (nxr x) (Ssm r (rdn x)) (yUa M2 192 (Ssm r (rdn x))) o1 o2 (by omega) (yUa_at _ _ _) p1 p2 (TR_ua hR _)
        refine ⟨M5, yL.I e209_43 ?_, t2⟩
        rw [if_pos (by rw [c2, ofN_lt (by omega) (by omega)]; omega), rdn_eq, c208 h192 ok ha hlt, yCv_V, ofN_succ, nxr_eq, Ssi_s]
        exact t1
    obtain ⟨M3, t1, t2⟩ := key (yx k) 0 x (rj A.1 (M 192)) (yUa (yU M 190 0 0) 192 (rj A.1 (M 192))) (some (.long x)) none (by omega) (yUa_at _ _ _) (rj_ok ok) (rj_acy ok hA.2.1) (TR_ua (TR_rfl _) _)
    have t1 : yX 209 43 [some (.ref 190), some (.long x), none, some (.int k), some (.long x), none, some (.int 0)] [] (yUa (yU M 190 0 0) 192 (rj A.1 (M 192))) 0 0 = yI (Sans (Ssi (yx k) x (rj A.1 (M 192)))) M3 := t1
    rw [if_neg (not_not_intro q1), if_pos q1, if_pos trivial, r113, yCv_V, e191, e192, t1]
    exact RR.rdR h t2 rfl
  · rw [if_pos q1, if_neg q1, if_neg (by decide)]
    exact RR.th h rfl rfl
end SIMR
