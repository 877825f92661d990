/-! one word of a script, on a trial's row -/
abbrev nA (v : Nat) : Int32 := Int32.ofNat (v / 1000 % 100)
abbrev nB (v : Nat) : Int32 := Int32.ofNat (v / 10 % 100)
abbrev nC (v : Nat) : Int32 := Int32.ofNat (v % 10)
abbrev nD (v : Nat) : Int32 := Int32.ofNat (v / 10000 % 10)
abbrev nE (v : Nat) : Int32 := Int32.ofNat (v / 1000 % 10)
abbrev nF (v : Nat) : Int32 := Int32.ofNat (v % 100)
def Sk (r : yRow) (v : Nat) : Int32 := if v / 100000 = 1 then (if v % 10 = 0 then yb (flt r 5 (nA v) (nB v) 0 = 0) else 0) else if v / 100000 = 2 then (if v % 10 = 0 then yb (flt r 8 (nA v) (nB v) 0 = 0) else 0) else if v / 100000 = 3 then (if v % 10 ≤ 1 then yb (flt r 3 (nA v) (nB v) (nC v) = 0) else 0) else if v / 100000 = 4 then (if v % 1000 = 0 then yb (flt r 4 (nD v) (nE v) 0 = 0) else 0) else if v / 100000 = 5 then (if v % 10000 < 100 then yb (flt r 6 (nD v) (nF v) 0 = 0) else 0) else if v / 100000 = 6 then (if v % 10 = 0 then yb (bet (nA v) 0 (r 15 - 1) ∧ ¬ (Spl r).1 (v / 1000 % 100) = -1 ∧ (Spl r).1 (v / 1000 % 100) ≤ nB v) else 0) else if v / 100000 = 7 then (if v % 100000 < 1000 then yb (Swh r (Spl r) ≤ Int32.ofNat (v % 100000)) else 0) else if v / 100000 = 8 then (if v % 1000 < 100 then yb (bet (nA v) 0 (r 0 - 1) ∧ Ssa r (v / 1000 % 100) (r 14) ≤ nF v) else 0) else if v / 100000 = 9 then (if v % 100000 < 10 then yb (Sstk r (Spl r) ≤ nC v) else 0) else 0
def prfI (r : yRow) (act a b d : Int32) : yRow := if flt r act a b d = 0 then prfR r act a b d else r
def Srow (r : yRow) (v : Nat) : yRow := if v / 100000 = 1 then (if v % 10 = 0 then prfI r 5 (nA v) (nB v) 0 else r) else if v / 100000 = 2 then (if v % 10 = 0 then prfI r 8 (nA v) (nB v) 0 else r) else if v / 100000 = 3 then (if v % 10 ≤ 1 then prfI r 3 (nA v) (nB v) (nC v) else r) else if v / 100000 = 4 then (if v % 1000 = 0 then prfI r 4 (nD v) (nE v) 0 else r) else if v / 100000 = 5 then (if v % 10000 < 100 then prfI r 6 (nD v) (nF v) 0 else r) else r
theorem prfI_ok {r : yRow} (ok : rok r) (ha : acy r) {act a b d : Int32} (hd : bet d 0 1) : rok (prfI r act a b d) ∧ acy (prfI r act a b d) := by
  unfold prfI
  split
  · next h => exact prf_ok ok ha hd h
  · exact ⟨ok, ha⟩
theorem b00 : bet (0 : Int32) 0 1 := ⟨by decide, by decide⟩
theorem nC_bit {v : Nat} (h : v % 10 ≤ 1) : bet (nC v) 0 1 := ofN_bd (N := 1) rfl (by omega) h
theorem Srow_ok {r : yRow} (ok : rok r) (ha : acy r) (v : Nat) : rok (Srow r v) ∧ acy (Srow r v) := by
  unfold Srow
  split
  · split
    · exact prfI_ok ok ha b00
    · exact ⟨ok, ha⟩
  · split
    · split
      · exact prfI_ok ok ha b00
      · exact ⟨ok, ha⟩
    · split
      · split
        · next h => exact prfI_ok ok ha (nC_bit h)
        · exact ⟨ok, ha⟩
      · split
        · split
          · exact prfI_ok ok ha b00
          · exact ⟨ok, ha⟩
        · split
          · split
            · exact prfI_ok ok ha b00
            · exact ⟨ok, ha⟩
          · exact ⟨ok, ha⟩
section DIG
variable {v : Nat}
theorem dg1 (h : v < 1000000) : Int32.ofNat v / 100000 = Int32.ofNat (v / 100000) := dv rfl (by omega) (by omega) (by omega)
theorem dg2 (h : v < 1000000) : Int32.ofNat v / 1000 % 100 = nA v := by rw [dv (b := 1000) (V := 1000) rfl (by omega) (by omega) (by omega), md (b := 100) (V := 100) rfl (by omega) (by omega)]
theorem dg3 (h : v < 1000000) : Int32.ofNat v / 10 % 100 = nB v := by rw [dv (b := 10) (V := 10) rfl (by omega) (by omega) (by omega), md (b := 100) (V := 100) rfl (by omega) (by omega)]
theorem dg4 (h : v < 1000000) : Int32.ofNat v % 10 = nC v := md rfl (by omega) (by omega)
theorem dg5 (h : v < 1000000) : Int32.ofNat v % 1000 = Int32.ofNat (v % 1000) := md rfl (by omega) (by omega)
theorem dg6 (h : v < 1000000) : Int32.ofNat v / 100 % 100 = Int32.ofNat (v / 100 % 100) := by rw [dv (b := 100) (V := 100) rfl (by omega) (by omega) (by omega), md (b := 100) (V := 100) rfl (by omega) (by omega)]
theorem dg7 (h : v < 1000000) : Int32.ofNat v % 100 = nF v := md rfl (by omega) (by omega)
theorem dg8 (h : v < 1000000) : Int32.ofNat v / 100 % 10 = Int32.ofNat (v / 100 % 10) := by rw [dv (b := 100) (V := 100) rfl (by omega) (by omega) (by omega), md (b := 10) (V := 10) rfl (by omega) (by omega)]
theorem dg9 (h : v < 1000000) : Int32.ofNat v / 10000 % 10 = nD v := by rw [dv (b := 10000) (V := 10000) rfl (by omega) (by omega) (by omega), md (b := 10) (V := 10) rfl (by omega) (by omega)]
theorem dg10 (h : v < 1000000) : Int32.ofNat v / 1000 % 10 = nE v := by rw [dv (b := 1000) (V := 1000) rfl (by omega) (by omega) (by omega), md (b := 10) (V := 10) rfl (by omega) (by omega)]
theorem dg11 (h : v < 1000000) : Int32.ofNat v % 100000 = Int32.ofNat (v % 100000) := md rfl (by omega) (by omega)
theorem dg12 (h : v < 1000000) : Int32.ofNat v % 10000 = Int32.ofNat (v % 10000) := md rfl (by omega) (by omega)
theorem dg13 (h : v < 1000000) : nA v / 10 = nD v := by
  rw [dv (b := 10) (V := 10) rfl (by omega) (by omega) (by omega)]
  congr 1
  omega
theorem dg14 (h : v < 1000000) : nA v % 10 = nE v := by
  rw [md (b := 10) (V := 10) rfl (by omega) (by omega)]
  congr 1
  omega
theorem kk (h : v < 1000000) : ((Int32.ofNat (v / 100000) = 1) = (v / 100000 = 1)) ∧ ((Int32.ofNat (v / 100000) = 2) = (v / 100000 = 2)) ∧ ((Int32.ofNat (v / 100000) = 3) = (v / 100000 = 3)) ∧ ((Int32.ofNat (v / 100000) = 4) = (v / 100000 = 4)) ∧ ((Int32.ofNat (v / 100000) = 5) = (v / 100000 = 5)) ∧ ((Int32.ofNat (v / 100000) = 6) = (v / 100000 = 6)) ∧ ((Int32.ofNat (v / 100000) = 7) = (v / 100000 = 7)) ∧ ((Int32.ofNat (v / 100000) = 8) = (v / 100000 = 8)) ∧ ((Int32.ofNat (v / 100000) = 9) = (v / 100000 = 9)) := ⟨oe rfl (by omega) (by omega), oe rfl (by omega) (by omega), oe rfl (by omega) (by omega), oe rfl (by omega) (by omega), oe rfl (by omega) (by omega), oe rfl (by omega) (by omega), oe rfl (by omega) (by omega), oe rfl (by omega) (by omega), oe rfl (by omega) (by omega)⟩
theorem ofN_cg {a b : Nat} (h : a = b) : Int32.ofNat a = Int32.ofNat b := by rw [h]
end DIG
theorem ybz {p : Prop} [Decidable p] {M : yM} : (if yb p = 0 then yI 0 M else yI 1 M) = yI (yb p) M := by
  by_cases h : p
  · rw [yb_pos h]; exact if_neg (by decide)
  · rw [yb_neg h]; exact if_pos rfl
/-- the trial's plan is known -/
def PC (M : yM) (r : yRow) : Prop := M 26 7 = Sstk r (Spl r) ∧ M 26 8 = Swh r (Spl r) ∧ ∀ s, s < stps r → M 36 s = (Spl r).1 s
section SCC
variable {M : yM} {r : yRow}
theorem c5t (h : rc M 27 r) (ok : rok r) {act a b d : Int32} : ∃ M', yX 5 0 [some (.ref 27), some (.int act), some (.int a), some (.int b), some (.int d)] [] M 0 0 = yI (yb (flt r act a b d = 0)) M' ∧ rc M' 27 (prfI r act a b d) ∧ ∀ q, (q < 27 ∨ 35 < q) → M' q = M q := by
  obtain ⟨M', a1, a2, a3⟩ := c5 (M := M) yC27 h ok (act := act) (a := a) (b := b) (d := d)
  exact ⟨M', a1, a2, fun q hq => a3 q (by omega)⟩
theorem c102 (h : rc M 27 r) (ok : rok r) (hp : PC M r) {n : Nat} (hn : n < 1000) {y : Int32} : yX 102 0 [some (.ref 7), some (.int (Int32.ofNat n)), some (.int y)] [] M 0 0 = yI (yb (bet (Int32.ofNat n) 0 (r 15 - 1) ∧ ¬ (Spl r).1 n = -1 ∧ (Spl r).1 n ≤ y)) M := by
  refine yL.I e102 ?_
  rw [c4 yC27 h, yCi_I]
  simp only [yb_0]
  by_cases q1 : bet (Int32.ofNat n) 0 (r 15 - 1)
  · obtain ⟨i1, i2⟩ := stp_ix ok q1
    rw [yx_ofN (show n < 2147483648 by omega)] at i1
    have h14 := (roks ok).1
    have hy := yin_ofN (show n < 14 by omega) (by omega)
    rw [if_neg (not_not_intro q1), if_pos hy, if_pos hy, yx_ofN (show n < 2147483648 by omega), hp.2.2 n i1]
    by_cases q2 : (Spl r).1 n = -1
    · rw [if_pos q2, yb_neg (fun z => z.2.1 q2)]
    · rw [if_neg q2]
      by_cases q3 : (Spl r).1 n ≤ y
      · rw [if_pos q3, yb_pos ⟨q1, q2, q3⟩]
      · rw [if_neg q3, yb_neg (fun z => q3 z.2.2)]
  · rw [if_pos q1, yb_neg (fun z => q1 z.1)]
theorem c103 (h : rc M 27 r) (ok : rok r) {n : Nat} (hn : n < 1000) {y : Int32} : yX 103 0 [some (.ref 7), some (.int (Int32.ofNat n)), some (.int y)] [] M 0 0 = yI (yb (bet (Int32.ofNat n) 0 (r 0 - 1) ∧ Ssa r n (r 14) ≤ y)) M := by
  refine yL.I e103 ?_
  rw [c3 yC27 h, yCi_I]
  simp only [yb_0]
  by_cases q1 : bet (Int32.ofNat n) 0 (r 0 - 1)
  · obtain ⟨i1, i2⟩ := ing_ix ok q1
    rw [yx_ofN (show n < 2147483648 by omega)] at i1
    have e3 : M 27 3 = r 14 := h.2.2.2.1
    rw [if_neg (not_not_intro q1), e3, c14_all yC27 h ok i1 (rok14 ok), yCi_I]
    by_cases q3 : Ssa r n (r 14) ≤ y
    · rw [if_pos q3, yb_pos ⟨q1, q3⟩]
    · rw [if_neg q3, yb_neg (fun z => q3 z.2)]
  · rw [if_pos q1, yb_neg (fun z => q1 z.1)]
theorem c101 (h : rc M 27 r) (ok : rok r) (hp : PC M r) {v : Nat} (hv : v < 1000000) : ∃ M', yX 101 0 [some (.ref 7), some (.int (Int32.ofNat v)), none, none, none] [] M 0 0 = yI (Sk r v) M' ∧ rc M' 27 (Srow r v) ∧ ∀ q, (q < 27 ∨ 35 < q) → M' q = M q := by
  have hd : ∀ {Z : Option yRes} {R : yRow} {k : Int32}, (∃ M', Z = yI k M' ∧ rc M' 27 R ∧ ∀ q, (q < 27 ∨ 35 < q) → M' q = M q) → yL Z (yX 101 0 [some (.ref 7), some (.int (Int32.ofNat v)), none, none, none] [] M 0 0) → ∃ M', yX 101 0 [some (.ref 7), some (.int (Int32.ofNat v)), none, none, none] [] M 0 0 = yI k M' ∧ rc M' 27 R ∧ ∀ q, (q < 27 ∨ 35 < q) → M' q = M q := by
    intro Z R k hz hl
    obtain ⟨M4, z1, z2⟩ := hz
    exact ⟨M4, yL.I hl z1, z2⟩
  have no : ∀ {p : Prop} [Decidable p] {Z : Option yRes}, Z = yI (yb p) M → ∃ M', Z = yI (yb p) M' ∧ rc M' 27 r ∧ ∀ q, (q < 27 ∨ 35 < q) → M' q = M q := fun z => ⟨M, z, h, fun _ _ => rfl⟩
  have no0 : ∃ M', yI 0 M = yI 0 M' ∧ rc M' 27 r ∧ ∀ q, (q < 27 ∨ 35 < q) → M' q = M q := ⟨M, rfl, h, fun _ _ => rfl⟩
  refine hd ?_ e101
  simp only [dg1 hv, dg2 hv, dg3 hv, dg4 hv, dg5 hv, dg6 hv, dg7 hv, dg8 hv]
  simp only [dg13 hv, dg14 hv]
  obtain ⟨k1, k2, k3, k4, k5, k6, k7, k8, k9⟩ := kk hv
  have z1 : (nC v = 0) = (v % 10 = 0) := oe rfl (by omega) (by omega)
  have z2 : (nC v ≤ 1) = (v % 10 ≤ 1) := ole rfl (by omega) (by omega)
  have z3 : (Int32.ofNat (v % 1000) = 0) = (v % 1000 = 0) := oe rfl (by omega) (by omega)
  have z4 : (Int32.ofNat (v / 100 % 100) = 0) = (v % 10000 < 100) := by
    rw [oe (b := 0) (V := 0) rfl (by omega) (by omega)]
    exact propext ⟨fun _ => by omega, fun _ => by omega⟩
  have z5 : (nA v = 0) = (v % 100000 < 1000) := by
    rw [oe (b := 0) (V := 0) rfl (by omega) (by omega)]
    exact propext ⟨fun _ => by omega, fun _ => by omega⟩
  have z6 : (Int32.ofNat (v / 100 % 10) = 0) = (v % 1000 < 100) := by
    rw [oe (b := 0) (V := 0) rfl (by omega) (by omega)]
    exact propext ⟨fun _ => by omega, fun _ => by omega⟩
  have z7 : (nB v = 0) = (v / 10 % 100 = 0) := oe rfl (by omega) (by omega)
  simp only [k1, k2, k3, k4, k5, k6, k7, k8, k9, z1, z2, z3, z4, z5, z6, z7]
  unfold Sk Srow
  have act : ∀ {a1 a2 a3 a4 : Int32}, ∃ M', (yCi false (yX 5 0 [some (.ref 27), some (.int a1), some (.int a2), some (.int a3), some (.int a4)] [] M 0 0) fun v4 M3 => if v4 = 0 then yI 0 M3 else yI 1 M3) = yI (yb (flt r a1 a2 a3 a4 = 0)) M' ∧ rc M' 27 (prfI r a1 a2 a3 a4) ∧ ∀ q, (q < 27 ∨ 35 < q) → M' q = M q := by
    intro a1 a2 a3 a4
    obtain ⟨M', b1, b2, b3⟩ := c5t h ok (act := a1) (a := a2) (b := a3) (d := a4)
    exact ⟨M', by rw [b1, yCi_I, ybz], b2, b3⟩
  by_cases q1 : v / 100000 = 1
  · simp only [if_pos q1]
    by_cases y : v % 10 = 0
    · simp only [if_pos y]; exact act
    · simp only [if_neg y]; exact no0
  · simp only [if_neg q1]
    by_cases q2 : v / 100000 = 2
    · simp only [if_pos q2]
      by_cases y : v % 10 = 0
      · simp only [if_pos y]; exact act
      · simp only [if_neg y]; exact no0
    · simp only [if_neg q2]
      by_cases q3 : v / 100000 = 3
      · simp only [if_pos q3]
        by_cases y : v % 10 ≤ 1
        · simp only [if_pos y]; exact act
        · simp only [if_neg y]; exact no0
      · simp only [if_neg q3]
        by_cases q4 : v / 100000 = 4
        · simp only [if_pos q4]
          by_cases y : v % 1000 = 0
          · simp only [if_pos y]; exact act
          · simp only [if_neg y]; exact no0
        · simp only [if_neg q4]
          by_cases q5 : v / 100000 = 5
          · simp only [if_pos q5]
            by_cases y : v % 10000 < 100
            · simp only [if_pos y]; exact act
            · simp only [if_neg y]; exact no0
          · simp only [if_neg q5]
            by_cases q6 : v / 100000 = 6
            · simp only [if_pos q6]
              by_cases y : v % 10 = 0
              · simp only [if_pos y]
                rw [c102 h ok hp (show v / 1000 % 100 < 1000 by omega), yCi_I, ybz]
                exact no rfl
              · simp only [if_neg y]; exact no0
            · simp only [if_neg q6]
              by_cases q7 : v / 100000 = 7
              · simp only [if_pos q7]
                by_cases y : v % 100000 < 1000
                · simp only [if_pos y]
                  rw [hp.2.1, yb_ite, show v % 1000 = v % 100000 by omega]
                  exact no rfl
                · simp only [if_neg y]; exact no0
              · simp only [if_neg q7]
                by_cases q8 : v / 100000 = 8
                · simp only [if_pos q8]
                  by_cases y : v % 1000 < 100
                  · simp only [if_pos y]
                    rw [c103 h ok (show v / 1000 % 100 < 1000 by omega), yCi_I, ybz]
                    exact no rfl
                  · simp only [if_neg y]; exact no0
                · simp only [if_neg q8]
                  by_cases q9 : v / 100000 = 9
                  · simp only [if_pos q9]
                    by_cases y : v % 100000 < 10
                    · rw [if_pos (show v % 100000 < 1000 by omega), if_pos (show v / 10 % 100 = 0 by omega), if_pos y, hp.1, yb_ite]
                      exact no rfl
                    · rw [if_neg y]
                      by_cases y1 : v % 100000 < 1000
                      · rw [if_pos y1, if_neg (show ¬ v / 10 % 100 = 0 by omega)]; exact no0
                      · rw [if_neg y1]; exact no0
                  · simp only [if_neg q9]; exact no0
end SCC
