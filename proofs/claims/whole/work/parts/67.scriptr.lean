/-! one word of a script in the reference; whole scripts on both sides -/
section SCR
variable {M : yM} {r : yRow}
theorem ua_p {p : Prop} [Decidable p] {f : yRow} (h : M 192 = r) : (if p then yI 1 (yUa M 192 f) else yI 0 M) = yI (yb p) (yUa M 192 (if p then f else r)) := by
  by_cases z : p
  · rw [if_pos z, if_pos z, yb_pos z]
  · rw [if_neg z, if_neg z, yb_neg z, ← h, yUa_self]
theorem prfI_y {act a b d : Int32} (h : flt r act a b d = 0) : prfI r act a b d = prfR r act a b d := if_pos h
theorem prfI_n {act a b d : Int32} (h : ¬ flt r act a b d = 0) : prfI r act a b d = r := if_neg h
/-- done or refused -/
theorem ua_no (h : M 192 = r) {act a b d : Int32} (hf : ¬ flt r act a b d = 0) : yI 0 M = yI (yb (flt r act a b d = 0)) (yUa M 192 (prfI r act a b d)) := by
  rw [yb_neg hf, prfI_n hf, ← h, yUa_self]
theorem c200 (h : M 192 = r) (ok : rok r) (ha : acy r) {a b : Int32} : yX 200 0 [some (.ref 190), some (.int a), some (.int b)] [] M 0 0 = yI (yb (flt r 5 a b 0 = 0)) (yUa M 192 (prfI r 5 a b 0)) := by
  have f5 : flt r 5 a b 0 = if bet a 1 24 ∧ bet b 1 24 then 0 else 2 := by
    unfold flt
    rw [if_neg (by decide), if_neg (by decide), if_neg (by decide), if_neg (by decide), if_neg (by decide), if_pos rfl]
  have hn : ¬ (bet a 1 24 ∧ bet b 1 24) → ¬ flt r 5 a b 0 = 0 := fun z => by rw [f5, if_neg z]; decide
  refine yL.I e200 ?_
  rw [c119, yCi_I, c119, yCi_I]
  simp only [yb_0]
  by_cases q1 : 1 ≤ a ∧ a ≤ 24
  · rw [if_neg (not_not_intro q1)]
    by_cases q2 : 1 ≤ b ∧ b ≤ 24
    · have hf : flt r 5 a b 0 = 0 := by rw [f5, if_pos ⟨q1, q2⟩]
      obtain ⟨o1, o2⟩ := prf_ok ok ha b00 hf
      have hnn := Sall_nn o1 q2
      have e : prfR r 5 a b 0 = upd (upd r 13 a) 14 b := by unfold prfR; rfl
      rw [e] at hnn
      rw [if_neg (not_not_intro q2), c148 yR192 (by rw [h]; exact ok) (by rw [h]; exact ha) ⟨q1, q2⟩, yCi_I, h, if_neg hnn, yb_pos hf, prfI_y hf, e]
    · rw [if_pos q2]
      exact ua_no h (hn (fun z => q2 z.2))
  · rw [if_pos q1]
    exact ua_no h (hn (fun z => q1 z.1))
theorem c201 (h : M 192 = r) (ok : rok r) {a b : Int32} : yX 201 0 [some (.ref 190), some (.int a), some (.int b)] [] M 0 0 = yI (yb (flt r 8 a b 0 = 0)) (yUa M 192 (prfI r 8 a b 0)) := by
  have f8 : flt r 8 a b 0 = if bet a 0 (r 15 - 1) then if bet b 1 90 then 0 else 2 else 1 := by
    unfold flt
    rw [if_neg (by decide), if_neg (by decide), if_neg (by decide), if_neg (by decide), if_neg (by decide), if_neg (by decide), if_neg (by decide), if_neg (by decide)]
  have hm := (roks ok).1
  refine yL.I e201 ?_
  rw [c115 yR192, yCi_I, c118, yCi_I, h]
  simp only [yb_0]
  by_cases q1 : 0 ≤ a ∧ a ≤ r 15 - 1
  · rw [if_neg (not_not_intro q1)]
    by_cases q2 : 1 ≤ b ∧ b ≤ 90
    · have hf : flt r 8 a b 0 = 0 := by rw [f8, if_pos q1, if_pos q2]
      obtain ⟨i1, i2⟩ := stp_ix ok q1
      obtain ⟨g1, g2⟩ := rofs (c := 16) (n := yx a) (v := 16) (by omega) rfl
      rw [← i2] at g1 g2
      have hmin := (rokst ok i1).1.1
      have e : prfR r 8 a b 0 = upd r (16 + yx a) b := by unfold prfR; rfl
      rw [if_neg (not_not_intro q2), c146 yR192 g1, yCi_I, h, g2, if_neg (by grind), yb_pos hf, prfI_y hf, e]
    · rw [if_pos q2]
      exact ua_no h (by rw [f8, if_pos q1, if_neg q2]; decide)
  · rw [if_pos q1]
    exact ua_no h (by rw [f8, if_neg q1]; decide)
theorem c202 (h : M 192 = r) (ok : rok r) {a b d : Int32} (hd : bet d 0 1) : yX 202 0 [some (.ref 190), some (.int a), some (.int b), some (.int d), none] [] M 0 0 = yI (yb (flt r 3 a b d = 0)) (yUa M 192 (prfI r 3 a b d)) := by
  have f3 : flt r 3 a b d = if bet a 0 (r 15 - 1) ∧ bet b 0 (r 15 - 1) then if d = 1 ∧ (a = b ∨ hs (San r (yx b)) a) then 3 else 0 else 1 := by
    unfold flt
    rw [if_neg (by decide), if_neg (by decide), if_neg (by decide), if_pos rfl]
  have h26 : ∀ o4, yX 202 26 [some (.ref 190), some (.int a), some (.int b), some (.int d), o4] [] M 0 0 = yI 0 M := fun o4 => yL.I e202_26 rfl
  refine yL.I e202 ?_
  rw [c115 yR192, yCi_I, c115 yR192, yCi_I, h, h26]
  simp only [yb_0]
  by_cases q1 : 0 ≤ a ∧ a ≤ r 15 - 1
  · rw [if_neg (not_not_intro q1)]
    by_cases q2 : 0 ≤ b ∧ b ≤ r 15 - 1
    · rw [if_neg (not_not_intro q2), c152 yR192 (by rw [h]; exact ok) hd (by rw [h]; exact q2), yCi_I, h]
      simp only [yb_0]
      by_cases q3 : d = 1 ∧ (a = b ∨ hs (San r (yx b)) a)
      · rw [if_pos (not_not_intro q3)]
        exact ua_no h (by rw [f3, if_pos ⟨q1, q2⟩, if_pos q3]; decide)
      · have hf : flt r 3 a b d = 0 := by rw [f3, if_pos ⟨q1, q2⟩, if_neg q3]
        have e : prfR r 3 a b d = upd r (72 + yx a) (wth (r (72 + yx a)) b (d = 1)) := by unfold prfR; rfl
        rw [if_neg (fun z => z q3), c153 yR192 (by rw [h]; exact ok) hd (by rw [h]; exact q1), yCi_I, h, if_neg (bts_nn _ (by omega)), yb_pos hf, prfI_y hf, e]
    · rw [if_pos q2]
      exact ua_no h (by rw [f3, if_neg (fun z => q2 z.2)]; decide)
  · rw [if_pos q1]
    exact ua_no h (by rw [f3, if_neg (fun z => q1 z.1)]; decide)
theorem c203 (h : M 192 = r) (ok : rok r) {a b : Int32} : yX 203 0 [some (.ref 190), some (.int a), some (.int b)] [] M 0 0 = yI (yb (flt r 4 a b 0 = 0)) (yUa M 192 (prfI r 4 a b 0)) := by
  have f4 : flt r 4 a b 0 = if bet a 0 3 then if bet b 0 3 then 0 else 2 else 1 := by
    unfold flt
    rw [if_neg (by decide), if_neg (by decide), if_neg (by decide), if_neg (by decide), if_pos rfl]
  refine yL.I e203 ?_
  rw [c116, yCi_I, c120, yCi_I]
  simp only [yb_0]
  by_cases q1 : 0 ≤ a ∧ a ≤ 3
  · rw [if_neg (not_not_intro q1)]
    by_cases q2 : 0 ≤ b ∧ b ≤ 3
    · have hf : flt r 4 a b 0 = 0 := by rw [f4, if_pos q1, if_pos q2]
      obtain ⟨i1, i2⟩ := knd_ix q1
      obtain ⟨g1, g2⟩ := rofs (c := 86) (n := yx a) (v := 86) (by omega) rfl
      rw [← i2] at g1 g2
      have hmin := (rokp ok i1).1
      have e : prfR r 4 a b 0 = upd r (86 + yx a) b := by unfold prfR; rfl
      rw [if_neg (not_not_intro q2), c146 yR192 g1, yCi_I, h, g2, if_neg (by grind), yb_pos hf, prfI_y hf, e]
    · rw [if_pos q2]
      exact ua_no h (by rw [f4, if_pos q1, if_neg q2]; decide)
  · rw [if_pos q1]
    exact ua_no h (by rw [f4, if_neg q1]; decide)
theorem set_nn (ok : rok r) {w : Nat} (hw : w < 5) : ¬ r (90 + w) < 0 := by
  obtain ⟨s1, s2, s3, s4, s5⟩ := rokse ok
  have h : w = 0 ∨ w = 1 ∨ w = 2 ∨ w = 3 ∨ w = 4 := by omega
  rcases h with h | h | h | h | h <;> subst h
  · have := s1.1; grind
  · have := s2.1; grind
  · have := s3.1; grind
  · have := s4.1; grind
  · have := s5.1; grind
theorem c204 (h : M 192 = r) (ok : rok r) {a b : Int32} : yX 204 0 [some (.ref 190), some (.int a), some (.int b)] [] M 0 0 = yI (yb (flt r 6 a b 0 = 0)) (yUa M 192 (prfI r 6 a b 0)) := by
  have f6 : flt r 6 a b 0 = if bet a 0 4 ∧ bet b (xsR0 2 (yx a)) (xsR0 3 (yx a)) then 0 else 2 := by
    unfold flt
    rw [if_neg (by decide), if_neg (by decide), if_neg (by decide), if_neg (by decide), if_neg (by decide), if_neg (by decide), if_pos rfl]
  refine yL.I e204 ?_
  rw [c121, yCi_I]
  simp only [yb_0]
  by_cases q1 : bet a 0 4 ∧ bet b (xsR0 2 (yx a)) (xsR0 3 (yx a))
  · have hf : flt r 6 a b 0 = 0 := by rw [f6, if_pos q1]
    obtain ⟨i1, i2⟩ := set_ix q1.1
    obtain ⟨g1, g2⟩ := rofs (c := 90) (n := yx a) (v := 90) (by omega) rfl
    rw [← i2] at g1 g2
    have e : prfR r 6 a b 0 = upd r (90 + yx a) b := by unfold prfR; rfl
    rw [if_neg (not_not_intro q1), c146 yR192 g1, yCi_I, h, g2, if_neg (set_nn ok i1), yb_pos hf, prfI_y hf, e]
  · rw [if_pos q1]
    exact ua_no h (by rw [f6, if_neg q1]; decide)
theorem c205 (h : M 192 = r) (ok : rok r) (ha : acy r) {n : Nat} (hn : n < 1000) {y : Int32} : ∃ M', yX 205 0 [some (.ref 190), some (.int (Int32.ofNat n)), some (.int y)] [] M 0 0 = yI (yb (bet (Int32.ofNat n) 0 (r 15 - 1) ∧ ¬ (Spl r).1 n = -1 ∧ (Spl r).1 n ≤ y)) M' ∧ RS M M' r (Spl r) := by
  obtain ⟨M1, p1, p2⟩ := c143 (M := M) yR192 (by rw [h]; exact ok) (by rw [h]; exact ha)
  rw [h] at p2
  have e192 : M1 192 = r := (p2.1 192 (by omega) (by omega)).trans h
  refine ⟨M1, yL.I e205 ?_, p2⟩
  rw [p1, yCv_V, c115 yR192, yCi_I, e192]
  simp only [yb_0]
  by_cases q1 : bet (Int32.ofNat n) 0 (r 15 - 1)
  · obtain ⟨i1, i2⟩ := stp_ix ok q1
    rw [yx_ofN (show n < 2147483648 by omega)] at i1
    have h14 := (roks ok).1
    have hy := yin_ofN (show n < 14 by omega) (by omega)
    rw [if_neg (not_not_intro q1), if_pos hy, if_pos hy, yx_ofN (show n < 2147483648 by omega), (p2.2.2.2.1 n i1).1]
    by_cases q2 : (Spl r).1 n = -1
    · rw [if_pos q2, yb_neg (fun z => z.2.1 q2)]
    · rw [if_neg q2]
      by_cases q3 : (Spl r).1 n ≤ y
      · rw [if_pos q3, yb_pos ⟨q1, q2, q3⟩]
      · rw [if_neg q3, yb_neg (fun z => q3 z.2.2)]
  · rw [if_pos q1, yb_neg (fun z => q1 z.1)]
theorem c206 (h : M 192 = r) (ok : rok r) (ha : acy r) {v : Nat} (hv : v < 1000000) : ∃ M', yX 206 0 [some (.ref 190), some (.int (Int32.ofNat v)), none, none, none, none, none, none, none] [] M 0 0 = yI (Sk r v) M' ∧ M' 192 = Srow r v ∧ TR M M' := by
  have hd : ∀ {Z : Option yRes} {R : yRow} {k : Int32}, (∃ M', Z = yI k M' ∧ M' 192 = R ∧ TR M M') → yL Z (yX 206 0 [some (.ref 190), some (.int (Int32.ofNat v)), none, none, none, none, none, none, none] [] M 0 0) → ∃ M', yX 206 0 [some (.ref 190), some (.int (Int32.ofNat v)), none, none, none, none, none, none, none] [] M 0 0 = yI k M' ∧ M' 192 = R ∧ TR M M' := by
    intro Z R k hz hl
    obtain ⟨M4, z1, z2⟩ := hz
    exact ⟨M4, yL.I hl z1, z2⟩
  have no : ∀ {p : Prop} [Decidable p] {Z : Option yRes}, Z = yI (yb p) M → ∃ M', Z = yI (yb p) M' ∧ M' 192 = r ∧ TR M M' := fun z => ⟨M, z, h, TR_rfl M⟩
  have no0 : ∃ M', yI 0 M = yI 0 M' ∧ M' 192 = r ∧ TR M M' := ⟨M, rfl, h, TR_rfl M⟩
  have rs : ∀ {p : Prop} [Decidable p] {Z : Option yRes} {M' : yM} {st : yPl}, RS M M' r st → Z = yI (yb p) M' → ∃ M', Z = yI (yb p) M' ∧ M' 192 = r ∧ TR M M' := fun {p} _ {Z} {M'} {st} hS z => ⟨M', z, (hS.1 192 (by omega) (by omega)).trans h, TR_rs (TR_rfl M) hS⟩
  have ua : ∀ {p : Prop} [Decidable p] {Z : Option yRes} {f : yRow}, Z = yI (yb p) (yUa M 192 f) → ∃ M', (yCi false Z fun v4 M3 => if v4 = 0 then yI 0 M3 else yI 1 M3) = yI (yb p) M' ∧ M' 192 = f ∧ TR M M' := fun {p} _ {Z} {f} z => ⟨_, by rw [z, yCi_I, ybz], yUa_at _ _ _, TR_ua (TR_rfl M) f⟩
  refine hd ?_ e206
  simp only [dg1 hv, dg2 hv, dg3 hv, dg4 hv, dg5 hv, dg7 hv, dg9 hv, dg10 hv, dg11 hv, dg12 hv]
  obtain ⟨k1, k2, k3, k4, k5, k6, k7, k8, k9⟩ := kk hv
  have z1 : (nC v = 0) = (v % 10 = 0) := oe rfl (by omega) (by omega)
  have z2 : (nC v < 2) = (v % 10 ≤ 1) := by
    rw [olt (b := 2) (V := 2) rfl (by omega) (by omega)]
    exact propext ⟨fun _ => by omega, fun _ => by omega⟩
  have z21 : (nC v = 1) = (v % 10 = 1) := oe rfl (by omega) (by omega)
  have z3 : (Int32.ofNat (v % 1000) = 0) = (v % 1000 = 0) := oe rfl (by omega) (by omega)
  have z4 : (Int32.ofNat (v % 10000) < 100) = (v % 10000 < 100) := olt rfl (by omega) (by omega)
  have z5 : (Int32.ofNat (v % 100000) < 1000) = (v % 100000 < 1000) := olt rfl (by omega) (by omega)
  have z6 : (Int32.ofNat (v % 1000) < 100) = (v % 1000 < 100) := olt rfl (by omega) (by omega)
  have z7 : (Int32.ofNat (v % 100000) < 10) = (v % 100000 < 10) := olt rfl (by omega) (by omega)
  simp only [k1, k2, k3, k4, k5, k6, k7, k8, k9, z1, z2, z21, z3, z4, z5, z6, z7]
  unfold Sk Srow
  by_cases q1 : v / 100000 = 1
  · simp only [if_pos q1]
    by_cases y : v % 10 = 0
    · simp only [if_pos y]; exact ua (c200 h ok ha)
    · simp only [if_neg y]; exact no0
  · simp only [if_neg q1]
    by_cases q2 : v / 100000 = 2
    · simp only [if_pos q2]
      by_cases y : v % 10 = 0
      · simp only [if_pos y]; exact ua (c201 h ok)
      · simp only [if_neg y]; exact no0
    · simp only [if_neg q2]
      by_cases q3 : v / 100000 = 3
      · simp only [if_pos q3]
        by_cases y : v % 10 ≤ 1
        · simp only [if_pos y]
          by_cases y1 : v % 10 = 1
          · have e1 : nC v = 1 := by show Int32.ofNat (v % 10) = 1; rw [y1]; rfl
            simp only [if_pos y1, e1]; exact ua (c202 h ok ⟨by decide, by decide⟩)
          · have e1 : nC v = 0 := by show Int32.ofNat (v % 10) = 0; rw [show v % 10 = 0 by omega]; rfl
            simp only [if_neg y1, e1]; exact ua (c202 h ok b00)
        · simp only [if_neg y]; exact no0
      · simp only [if_neg q3]
        by_cases q4 : v / 100000 = 4
        · simp only [if_pos q4]
          by_cases y : v % 1000 = 0
          · simp only [if_pos y]; exact ua (c203 h ok)
          · simp only [if_neg y]; exact no0
        · simp only [if_neg q4]
          by_cases q5 : v / 100000 = 5
          · simp only [if_pos q5]
            by_cases y : v % 10000 < 100
            · simp only [if_pos y]; exact ua (c204 h ok)
            · simp only [if_neg y]; exact no0
          · simp only [if_neg q5]
            by_cases q6 : v / 100000 = 6
            · simp only [if_pos q6]
              by_cases y : v % 10 = 0
              · simp only [if_pos y]
                obtain ⟨M', s1, s2⟩ := c205 h ok ha (show v / 1000 % 100 < 1000 by omega) (y := nB v)
                rw [s1, yCi_I, ybz]
                exact rs s2 rfl
              · simp only [if_neg y]; exact no0
            · simp only [if_neg q6]
              by_cases q7 : v / 100000 = 7
              · simp only [if_pos q7]
                by_cases y : v % 100000 < 1000
                · simp only [if_pos y]
                  obtain ⟨M', s1, s2⟩ := c144 (M := M) yR192 (by rw [h]; exact ok) (by rw [h]; exact ha)
                  rw [h] at s1 s2
                  rw [s1, yCi_I, yb_ite]
                  exact rs s2 rfl
                · simp only [if_neg y]; exact no0
              · simp only [if_neg q7]
                by_cases q8 : v / 100000 = 8
                · simp only [if_pos q8]
                  by_cases y : v % 1000 < 100
                  · simp only [if_pos y]
                    rw [c114 yR192, yCi_I, h]
                    simp only [yb_0]
                    by_cases y1 : bet (nA v) 0 (r 0 - 1)
                    · obtain ⟨i1, i2⟩ := ing_ix ok y1
                      rw [yx_ofN (show v / 1000 % 100 < 2147483648 by omega)] at i1
                      have t := c127 (M := M) yR192 (by rw [h]; exact ok) (n := v / 1000 % 100) (by rw [h]; exact i1)
                      rw [h] at t
                      rw [if_neg (not_not_intro y1), t, yCi_I]
                      refine no ?_
                      by_cases y2 : Ssa r (v / 1000 % 100) (r 14) ≤ nF v
                      · rw [if_pos y2, yb_pos ⟨y1, y2⟩]
                      · rw [if_neg y2, yb_neg (fun z => y2 z.2)]
                    · rw [if_pos y1]
                      refine no ?_
                      rw [yb_neg (fun z => y1 z.1)]
                  · simp only [if_neg y]; exact no0
                · simp only [if_neg q8]
                  by_cases q9 : v / 100000 = 9
                  · simp only [if_pos q9]
                    by_cases y : v % 100000 < 10
                    · simp only [if_pos y]
                      obtain ⟨M', s1, s2⟩ := c145 (M := M) yR192 (by rw [h]; exact ok) (by rw [h]; exact ha)
                      rw [h] at s1 s2
                      rw [s1, yCi_I, yb_ite]
                      exact rs s2 rfl
                    · simp only [if_neg y]; exact no0
                  · simp only [if_neg q9]; exact no0
end SCR
