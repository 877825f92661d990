/-! the reference's actions -/
theorem c107_0 {M : yM} : yX 107 0 [some (.ref 190), some (.int 0)] [] M 0 0 = yI 0 (yU M 190 0 0) := by
  rw [c107]
  congr 1
theorem c107_1 {M : yM} : yX 107 0 [some (.ref 190), some (.int 1)] [] M 0 0 = yI 1 (yU M 190 0 1) := by
  rw [c107]
  congr 1
theorem c107_2 {M : yM} : yX 107 0 [some (.ref 190), some (.int 2)] [] M 0 0 = yI 1 (yU M 190 0 2) := by
  rw [c107]
  congr 1
def cdA (E : Nat) : Int32 := if E = 1 then 1 else 2
def cdB (E : Nat) : Int32 := if E = 0 then 1 else 2
section RRR
variable {M : yM} {A : yAb}
theorem RelR_0 (h : RelR M A) (x : Int32) : RelR (yU M 190 0 x) A := RelR_fr h (fun a b1 _ _ _ => yU_ne b1) (by rw [yU_at, upd_eq, if_neg (by omega)]) (by rw [yU_at, upd_eq, if_neg (by omega)])
theorem RR.no (h : RelR M A) {cd : Nat → Int32} {E : Nat} {x b : Int32} (hx : cd E = x) : RR (yI b (yU M 190 0 x)) M cd (.inl E) A := ⟨b, _, rfl, by rw [yU_at, upd_eq, if_pos rfl]; exact hx.symm, (fun v z => by cases z), RelR_0 h x, fun a ha => yU_ne (by omega)⟩
theorem r_rem (h : RelR M A) (hA : Aok A) : ∃ M2, yX 154 0 [some (.ref 190), none] [] (yU M 190 0 0) 0 0 = yV M2 ∧ M2 191 = A.1 ∧ M2 190 0 = 0 ∧ (∀ r', RelR (yUa M2 191 r') (r', (min (A.2.1.1 + 1) 14, mpu A.2.1.1 A.2.1.2 A.1), A.2.2)) ∧ ∀ a, (a < 190 ∨ 201 < a) → M2 a = M a := by
  obtain ⟨r1, r2, r3, r4⟩ := RelR_0 h 0
  obtain ⟨M2, a1, a2, a3, a4⟩ := c154 r2 hA.2.2.1
  have e191 : (yU M 190 0 0) 191 = A.1 := r1
  rw [e191] at a2
  refine ⟨M2, a1, by rw [a3 191 (by omega) (by omega)]; exact e191, by rw [a4 0 (by omega), yU_at, upd_eq, if_pos rfl], fun r' => ⟨yUa_at _ _ _, MemR_fr a2 (by rw [yUa_ne (by omega)]) (by rw [yUa_ne (by omega)]), SlR_fr r3 (by rw [yUa_ne (by omega), a3 195 (by omega) (by omega)]) (by rw [yUa_ne (by omega), a3 196 (by omega) (by omega)]), TxR_fr r4 (by rw [yUa_ne (by omega), a4 14 (by omega)]) (by rw [yUa_ne (by omega), a3 201 (by omega) (by omega)])⟩, fun a ha => by rw [a3 a (by omega) (by omega), yU_ne (by omega)]⟩
/-- the action done -/
theorem RR.yes {cd : Nat → Int32} {M2 : yM} {act a b d v : Int32} (hf : flt A.1 act a b d = 0) (hv : v = prfV A.1 act a b d) (h0 : M2 190 0 = 0) (hr : ∀ r', RelR (yUa M2 191 r') (r', (min (A.2.1.1 + 1) 14, mpu A.2.1.1 A.2.1.2 A.1), A.2.2)) (hfr : ∀ a, (a < 190 ∨ 201 < a) → M2 a = M a) : RR (yI v (yUa M2 191 (prfR A.1 act a b d))) M cd (oAct A act a b d) (nAct A act a b d) := by
  rw [(oAct_0 hf).1, (oAct_0 hf).2]
  refine ⟨v, _, rfl, ?_, fun w z => by rw [hv]; exact Sum.inr.inj z, hr _, fun q hq => by rw [yUa_ne (by omega)]; exact hfr q hq⟩
  rw [yUa_ne (by omega)]
  exact h0
theorem oAct_n {act a b d : Int32} : (flt A.1 act a b d = 1 → oAct A act a b d = .inl 0 ∧ nAct A act a b d = A) ∧ (flt A.1 act a b d = 2 → oAct A act a b d = .inl 1 ∧ nAct A act a b d = A) ∧ (flt A.1 act a b d = 3 → oAct A act a b d = .inl 2 ∧ nAct A act a b d = A) := by
  unfold oAct nAct
  refine ⟨fun h => ?_, fun h => ?_, fun h => ?_⟩ <;> rw [h] <;> exact ⟨rfl, rfl⟩
theorem RR.nA (h : RelR M A) {cd : Nat → Int32} {act a b d x y : Int32} {E : Nat} (hf : (flt A.1 act a b d = 1 ∧ E = 0) ∨ (flt A.1 act a b d = 2 ∧ E = 1) ∨ (flt A.1 act a b d = 3 ∧ E = 2)) (hx : cd E = x) : RR (yI y (yU M 190 0 x)) M cd (oAct A act a b d) (nAct A act a b d) := by
  rcases hf with ⟨hf, hE⟩ | ⟨hf, hE⟩ | ⟨hf, hE⟩ <;> subst hE
  · rw [(oAct_n.1 hf).1, (oAct_n.1 hf).2]; exact RR.no h hx
  · rw [(oAct_n.2.1 hf).1, (oAct_n.2.1 hf).2]; exact RR.no h hx
  · rw [(oAct_n.2.2 hf).1, (oAct_n.2.2 hf).2]; exact RR.no h hx
theorem m12 {r : yRow} (ok : rok r) : (r 0 = 12) ↔ ¬ r 0 < 12 := by
  have := ok.1
  constructor
  · intro z; rw [z]; decide
  · intro z; grind
theorem s14 {r : yRow} (ok : rok r) : (r 15 = 14) ↔ ¬ r 15 < 14 := by
  have := ok.2.1
  constructor
  · intro z; rw [z]; decide
  · intro z; grind
theorem c184 (h : RelR M A) (hA : Aok A) {a : Int32} : RR (yX 184 0 [some (.ref 190), some (.int a)] [] M 0 0) M cdA (oAct A 0 a 0 0) (nAct A 0 a 0 0) := by
  refine RR.of ?_ e184
  have hr1 := h.1
  have ok := hA.1
  rw [c117, yCi_I, c107_1, yCi_I, c107_2, yCi_I, c107_0, yCi_I, hr1]
  simp only [yb_0]
  by_cases q1 : 1 ≤ a ∧ a ≤ 50000
  · rw [if_neg (not_not_intro q1)]
    by_cases q2 : A.1 0 < 12
    · have hf : flt A.1 0 a 0 0 = 0 := by
        unfold flt; rw [if_pos rfl, if_pos q1, if_pos q2]
      obtain ⟨M2, b1, b2, b3, b4, b5⟩ := r_rem h hA
      rw [if_neg (fun z => (m12 ok).mp z q2), if_pos trivial, b1, yCv_V, c147 yR191 (by rw [b2]; exact ok) (by rw [b2]; exact q2), yCi_I, b2]
      exact RR.yes hf rfl b3 b4 b5
    · rw [if_pos ((m12 ok).mpr q2), if_neg (by decide)]
      refine RR.nA h (E := 2) (Or.inr (Or.inr ⟨?_, rfl⟩)) rfl
      unfold flt; rw [if_pos rfl, if_pos q1, if_neg q2]
  · rw [if_pos q1, if_neg (by decide)]
    refine RR.nA h (E := 1) (Or.inr (Or.inl ⟨?_, rfl⟩)) rfl
    unfold flt; rw [if_pos rfl, if_neg q1]
theorem c185 (h : RelR M A) (hA : Aok A) {a b : Int32} : RR (yX 185 0 [some (.ref 190), some (.int a), some (.int b)] [] M 0 0) M cdB (oAct A 7 a b 0) (nAct A 7 a b 0) := by
  refine RR.of ?_ e185
  have hr1 := h.1
  have ok := hA.1
  have hm := (rokm ok).1
  have f7 : flt A.1 7 a b 0 = if bet a 0 (A.1 0 - 1) then if bet b 1 50000 then 0 else 2 else 1 := by
    unfold flt
    rw [if_neg (by decide), if_neg (by decide), if_neg (by decide), if_neg (by decide), if_neg (by decide), if_neg (by decide), if_neg (by decide), if_pos rfl]
  have p7 : prfR A.1 7 a b 0 = upd A.1 (1 + yx a) b ∧ prfV A.1 7 a b 0 = A.1 (1 + yx a) := by
    unfold prfR prfV
    exact ⟨rfl, rfl⟩
  rw [c114 yR191, yCi_I, c117, yCi_I, c107_1, yCi_I, c107_2, yCi_I, c107_0, yCi_I, hr1]
  simp only [yb_0]
  by_cases q1 : 0 ≤ a ∧ a ≤ A.1 0 - 1
  · rw [if_neg (not_not_intro q1)]
    by_cases q2 : 1 ≤ b ∧ b ≤ 50000
    · have hf : flt A.1 7 a b 0 = 0 := by rw [f7, if_pos q1, if_pos q2]
      obtain ⟨i1, i2⟩ := ing_ix ok q1
      obtain ⟨g1, g2⟩ := rofs (c := 1) (n := yx a) (v := 1) (by omega) rfl
      rw [← i2] at g1 g2
      obtain ⟨M2, b1, b2, b3, b4, b5⟩ := r_rem h hA
      rw [if_neg (not_not_intro q2), if_pos trivial, b1, yCv_V, c146 yR191 g1, yCi_I, b2, g2]
      have := RR.yes (cd := cdB) hf rfl b3 b4 b5
      rw [p7.1, p7.2] at this
      exact this
    · rw [if_pos q2, if_neg (by decide)]
      exact RR.nA h (E := 1) (Or.inr (Or.inl ⟨by rw [f7, if_pos q1, if_neg q2], rfl⟩)) rfl
  · rw [if_pos q1, if_neg (by decide)]
    exact RR.nA h (E := 0) (Or.inl ⟨by rw [f7, if_neg q1], rfl⟩) rfl
theorem c188 (h : RelR M A) (hA : Aok A) {a b : Int32} : RR (yX 188 0 [some (.ref 190), some (.int a), some (.int b)] [] M 0 0) M cdB (oAct A 8 a b 0) (nAct A 8 a b 0) := by
  refine RR.of ?_ e188
  have hr1 := h.1
  have ok := hA.1
  have hm := (roks ok).1
  have f7 : flt A.1 8 a b 0 = if bet a 0 (A.1 15 - 1) then if bet b 1 90 then 0 else 2 else 1 := by
    unfold flt
    rw [if_neg (by decide), if_neg (by decide), if_neg (by decide), if_neg (by decide), if_neg (by decide), if_neg (by decide), if_neg (by decide), if_neg (by decide)]
  have p7 : prfR A.1 8 a b 0 = upd A.1 (16 + yx a) b ∧ prfV A.1 8 a b 0 = A.1 (16 + yx a) := by
    unfold prfR prfV
    exact ⟨rfl, rfl⟩
  rw [c115 yR191, yCi_I, c118, yCi_I, c107_1, yCi_I, c107_2, yCi_I, c107_0, yCi_I, hr1]
  simp only [yb_0]
  by_cases q1 : 0 ≤ a ∧ a ≤ A.1 15 - 1
  · rw [if_neg (not_not_intro q1)]
    by_cases q2 : 1 ≤ b ∧ b ≤ 90
    · have hf : flt A.1 8 a b 0 = 0 := by rw [f7, if_pos q1, if_pos q2]
      obtain ⟨i1, i2⟩ := stp_ix ok q1
      obtain ⟨g1, g2⟩ := rofs (c := 16) (n := yx a) (v := 16) (by omega) rfl
      rw [← i2] at g1 g2
      obtain ⟨M2, b1, b2, b3, b4, b5⟩ := r_rem h hA
      rw [if_neg (not_not_intro q2), if_pos trivial, b1, yCv_V, c146 yR191 g1, yCi_I, b2, g2]
      have := RR.yes (cd := cdB) hf rfl b3 b4 b5
      rw [p7.1, p7.2] at this
      exact this
    · rw [if_pos q2, if_neg (by decide)]
      exact RR.nA h (E := 1) (Or.inr (Or.inl ⟨by rw [f7, if_pos q1, if_neg q2], rfl⟩)) rfl
  · rw [if_pos q1, if_neg (by decide)]
    exact RR.nA h (E := 0) (Or.inl ⟨by rw [f7, if_neg q1], rfl⟩) rfl
theorem c191 (h : RelR M A) (hA : Aok A) {a b : Int32} : RR (yX 191 0 [some (.ref 190), some (.int a), some (.int b)] [] M 0 0) M cdB (oAct A 4 a b 0) (nAct A 4 a b 0) := by
  refine RR.of ?_ e191
  have f7 : flt A.1 4 a b 0 = if bet a 0 3 then if bet b 0 3 then 0 else 2 else 1 := by
    unfold flt
    rw [if_neg (by decide), if_neg (by decide), if_neg (by decide), if_neg (by decide), if_pos rfl]
  have p7 : prfR A.1 4 a b 0 = upd A.1 (86 + yx a) b ∧ prfV A.1 4 a b 0 = A.1 (86 + yx a) := by
    unfold prfR prfV
    exact ⟨rfl, rfl⟩
  rw [c116, yCi_I, c120, yCi_I, c107_1, yCi_I, c107_2, yCi_I, c107_0, yCi_I]
  simp only [yb_0]
  by_cases q1 : 0 ≤ a ∧ a ≤ 3
  · rw [if_neg (not_not_intro q1)]
    by_cases q2 : 0 ≤ b ∧ b ≤ 3
    · have hf : flt A.1 4 a b 0 = 0 := by rw [f7, if_pos q1, if_pos q2]
      obtain ⟨i1, i2⟩ := knd_ix q1
      obtain ⟨g1, g2⟩ := rofs (c := 86) (n := yx a) (v := 86) (by omega) rfl
      rw [← i2] at g1 g2
      obtain ⟨M2, b1, b2, b3, b4, b5⟩ := r_rem h hA
      rw [if_neg (not_not_intro q2), if_pos trivial, b1, yCv_V, c146 yR191 g1, yCi_I, b2, g2]
      have := RR.yes (cd := cdB) hf rfl b3 b4 b5
      rw [p7.1, p7.2] at this
      exact this
    · rw [if_pos q2, if_neg (by decide)]
      exact RR.nA h (E := 1) (Or.inr (Or.inl ⟨by rw [f7, if_pos q1, if_neg q2], rfl⟩)) rfl
  · rw [if_pos q1, if_neg (by decide)]
    exact RR.nA h (E := 0) (Or.inl ⟨by rw [f7, if_neg q1], rfl⟩) rfl
theorem c192 (h : RelR M A) (hA : Aok A) {a b : Int32} : RR (yX 192 0 [some (.ref 190), some (.int a), some (.int b)] [] M 0 0) M cdA (oAct A 6 a b 0) (nAct A 6 a b 0) := by
  refine RR.of ?_ e192
  have f7 : flt A.1 6 a b 0 = if bet a 0 4 ∧ bet b (xsR0 2 (yx a)) (xsR0 3 (yx a)) then 0 else 2 := by
    unfold flt
    rw [if_neg (by decide), if_neg (by decide), if_neg (by decide), if_neg (by decide), if_neg (by decide), if_neg (by decide), if_pos rfl]
  have p7 : prfR A.1 6 a b 0 = upd A.1 (90 + yx a) b ∧ prfV A.1 6 a b 0 = A.1 (90 + yx a) := by
    unfold prfR prfV
    exact ⟨rfl, rfl⟩
  rw [c121, yCi_I, c107_1, yCi_I, c107_0, yCi_I]
  simp only [yb_0]
  by_cases q1 : bet a 0 4 ∧ bet b (xsR0 2 (yx a)) (xsR0 3 (yx a))
  · rw [if_neg (not_not_intro q1)]
    have hf : flt A.1 6 a b 0 = 0 := by rw [f7, if_pos q1]
    obtain ⟨i1, i2⟩ := set_ix q1.1
    obtain ⟨g1, g2⟩ := rofs (c := 90) (n := yx a) (v := 90) (by omega) rfl
    rw [← i2] at g1 g2
    obtain ⟨M2, b1, b2, b3, b4, b5⟩ := r_rem h hA
    rw [if_pos trivial, b1, yCv_V, c146 yR191 g1, yCi_I, b2, g2]
    have := RR.yes (cd := cdA) hf rfl b3 b4 b5
    rw [p7.1, p7.2] at this
    exact this
  · rw [if_pos q1, if_neg (by decide)]
    exact RR.nA h (E := 1) (Or.inr (Or.inl ⟨by rw [f7, if_neg q1], rfl⟩)) rfl
theorem yb_bet (p : Prop) [Decidable p] : bet (yb p) 0 1 := by
  by_cases h : p
  · rw [yb_pos h]; exact ⟨by decide, by decide⟩
  · rw [yb_neg h]; exact ⟨by decide, by decide⟩
theorem c187 (h : RelR M A) (hA : Aok A) {a b : Int32} {p : Prop} [Decidable p] : RR (yX 187 0 [some (.ref 190), some (.int a), some (.int b), some (.int (yb p))] [] M 0 0) M cdA (oAct A 1 a b (yb p)) (nAct A 1 a b (yb p)) := by
  refine RR.of ?_ e187
  have hr1 := h.1
  have ok := hA.1
  have f7 : flt A.1 1 a b (yb p) = if bet a 1 90 ∧ bet b (-1) 3 then if A.1 15 < 14 then 0 else 3 else 2 := by
    unfold flt
    rw [if_neg (by decide), if_pos rfl]
  have p7 : prfR A.1 1 a b (yb p) = rStp A.1 a b (yb p) ∧ prfV A.1 1 a b (yb p) = A.1 15 := by
    unfold prfR prfV
    exact ⟨rfl, rfl⟩
  rw [c149, yCi_I, c107_1, yCi_I, c107_2, yCi_I, c107_0, yCi_I, hr1]
  simp only [yb_0]
  by_cases q1 : bet a 1 90 ∧ bet b (-1) 3
  · rw [if_neg (not_not_intro q1)]
    by_cases q2 : A.1 15 < 14
    · have hf : flt A.1 1 a b (yb p) = 0 := by rw [f7, if_pos q1, if_pos q2]
      obtain ⟨M2, b1, b2, b3, b4, b5⟩ := r_rem h hA
      rw [if_neg (fun z => (s14 ok).mp z q2), if_pos trivial, b1, yCv_V, c150 yR191 (by rw [b2]; exact ok) (by rw [b2]; exact q2) (yb_bet p), yCi_I, b2]
      have := RR.yes (cd := cdA) hf rfl b3 b4 b5
      rw [p7.1, p7.2] at this
      exact this
    · rw [if_pos ((s14 ok).mpr q2), if_neg (by decide)]
      exact RR.nA h (E := 2) (Or.inr (Or.inr ⟨by rw [f7, if_pos q1, if_neg q2], rfl⟩)) rfl
  · rw [if_pos q1, if_neg (by decide)]
    exact RR.nA h (E := 1) (Or.inr (Or.inl ⟨by rw [f7, if_neg q1], rfl⟩)) rfl
theorem c189 (h : RelR M A) (hA : Aok A) {a b : Int32} {p : Prop} [Decidable p] : RR (yX 189 0 [some (.ref 190), some (.int a), some (.int b), some (.int (yb p))] [] M 0 0) M cdB (oAct A 2 a b (yb p)) (nAct A 2 a b (yb p)) := by
  refine RR.of ?_ e189
  have hr1 := h.1
  have ok := hA.1
  have f7 : flt A.1 2 a b (yb p) = if bet a 0 (A.1 15 - 1) ∧ bet b 0 (A.1 0 - 1) then 0 else 1 := by
    unfold flt
    rw [if_neg (by decide), if_neg (by decide), if_pos rfl]
  have p7 : prfR A.1 2 a b (yb p) = upd A.1 (58 + yx a) (wth (A.1 (58 + yx a)) b (yb p = 1)) ∧ prfV A.1 2 a b (yb p) = bct (wth (A.1 (58 + yx a)) b (yb p = 1)) := by
    unfold prfR prfV
    exact ⟨rfl, rfl⟩
  rw [c115 yR191, yCi_I, c114 yR191, yCi_I, c107_1, yCi_I, c107_0, yCi_I, hr1]
  simp only [yb_0]
  by_cases q1 : 0 ≤ a ∧ a ≤ A.1 15 - 1
  · rw [if_neg (not_not_intro q1)]
    by_cases q2 : 0 ≤ b ∧ b ≤ A.1 0 - 1
    · have hf : flt A.1 2 a b (yb p) = 0 := by rw [f7, if_pos ⟨q1, q2⟩]
      obtain ⟨i1, i2⟩ := stp_ix ok q1
      obtain ⟨j1, j2⟩ := ing_ix ok q2
      have hm := (rokm ok).1
      have hbl : blw (wth (A.1 (58 + yx a)) b (yb p = 1)) 12 := by
        rw [j2]
        exact blw_wth (rokst ok i1).2.2.2.1 (by omega) (by omega)
      obtain ⟨M2, b1, b2, b3, b4, b5⟩ := r_rem h hA
      rw [if_neg (not_not_intro q2), if_pos trivial, b1, yCv_V, c151 yR191 (by rw [b2]; exact ok) (yb_bet p) (by rw [b2]; exact q1), yCi_I, b2, ← bts_blw hbl (by omega)]
      have := RR.yes (cd := cdB) hf rfl b3 b4 b5
      rw [p7.1, p7.2] at this
      exact this
    · rw [if_pos q2, if_neg (by decide)]
      exact RR.nA h (E := 0) (Or.inl ⟨by rw [f7, if_neg (fun z => q2 z.2)], rfl⟩) rfl
  · rw [if_pos q1, if_neg (by decide)]
    exact RR.nA h (E := 0) (Or.inl ⟨by rw [f7, if_neg (fun z => q1 z.1)], rfl⟩) rfl
theorem c190 (h : RelR M A) (hA : Aok A) {a b : Int32} {p : Prop} [Decidable p] : RR (yX 190 0 [some (.ref 190), some (.int a), some (.int b), some (.int (yb p)), none] [] M 0 0) M cdB (oAct A 3 a b (yb p)) (nAct A 3 a b (yb p)) := by
  refine RR.of ?_ e190
  have hr1 := h.1
  have ok := hA.1
  have f7 : flt A.1 3 a b (yb p) = if bet a 0 (A.1 15 - 1) ∧ bet b 0 (A.1 15 - 1) then if yb p = 1 ∧ (a = b ∨ hs (San A.1 (yx b)) a) then 3 else 0 else 1 := by
    unfold flt
    rw [if_neg (by decide), if_neg (by decide), if_neg (by decide), if_pos rfl]
  have p7 : prfR A.1 3 a b (yb p) = upd A.1 (72 + yx a) (wth (A.1 (72 + yx a)) b (yb p = 1)) ∧ prfV A.1 3 a b (yb p) = bct (wth (A.1 (72 + yx a)) b (yb p = 1)) := by
    unfold prfR prfV
    exact ⟨rfl, rfl⟩
  have h26 : ∀ o4, ¬ (bet a 0 (A.1 15 - 1) ∧ bet b 0 (A.1 15 - 1)) → RR (yX 190 26 [some (.ref 190), some (.int a), some (.int b), some (.int (yb p)), o4] [] M 0 0) M cdB (oAct A 3 a b (yb p)) (nAct A 3 a b (yb p)) := by
    intro o4 hn
    refine RR.of ?_ e190_26
    rw [c107_1, yCi_I, if_neg (by decide)]
    exact RR.nA h (E := 0) (Or.inl ⟨by rw [f7, if_neg hn], rfl⟩) rfl
  rw [c115 yR191, yCi_I, c115 yR191, yCi_I, hr1]
  simp only [yb_0]
  by_cases q1 : 0 ≤ a ∧ a ≤ A.1 15 - 1
  · rw [if_neg (not_not_intro q1)]
    by_cases q2 : 0 ≤ b ∧ b ≤ A.1 15 - 1
    · obtain ⟨i1, i2⟩ := stp_ix ok q1
      obtain ⟨j1, j2⟩ := stp_ix ok q2
      have hm := (roks ok).1
      rw [if_neg (not_not_intro q2), c152 yR191 (by rw [hr1]; exact ok) (yb_bet p) (by rw [hr1]; exact q2), yCi_I, c107_2, yCi_I, c107_0, yCi_I, hr1]
      simp only [yb_0]
      by_cases q3 : yb p = 1 ∧ (a = b ∨ hs (San A.1 (yx b)) a)
      · rw [if_pos (not_not_intro q3), if_neg (by decide)]
        exact RR.nA h (E := 2) (Or.inr (Or.inr ⟨by rw [f7, if_pos ⟨q1, q2⟩, if_pos q3], rfl⟩)) rfl
      · have hf : flt A.1 3 a b (yb p) = 0 := by rw [f7, if_pos ⟨q1, q2⟩, if_neg q3]
        have hbl : blw (wth (A.1 (72 + yx a)) b (yb p = 1)) 14 := by
          rw [j2]
          exact blw_wth (blw_mono (rokst ok i1).2.2.2.2 hm) (by omega) (by omega)
        obtain ⟨M2, b1, b2, b3, b4, b5⟩ := r_rem h hA
        rw [if_neg (fun z => z q3), if_pos trivial, b1, yCv_V, c153 yR191 (by rw [b2]; exact ok) (yb_bet p) (by rw [b2]; exact q1), yCi_I, b2, ← bct_bts hbl]
        have := RR.yes (cd := cdB) hf rfl b3 b4 b5
        rw [p7.1, p7.2] at this
        exact this
    · rw [if_pos q2]
      exact h26 _ (fun z => q2 z.2)
  · rw [if_pos q1]
    exact h26 _ (fun z => q1 z.1)
theorem c186 (h : RelR M A) (hA : Aok A) {a b : Int32} : RR (yX 186 0 [some (.ref 190), some (.int a), some (.int b)] [] M 0 0) M cdA (oSrv A a b) (nAct A 5 a b 0) := by
  refine RR.of ?_ e186
  have hr1 := h.1
  have ok := hA.1
  have f7 : flt A.1 5 a b 0 = if bet a 1 24 ∧ bet b 1 24 then 0 else 2 := by
    unfold flt
    rw [if_neg (by decide), if_neg (by decide), if_neg (by decide), if_neg (by decide), if_neg (by decide), if_pos rfl]
  have no : ¬ (bet a 1 24 ∧ bet b 1 24) → RR (yI 0 (yU M 190 0 1)) M cdA (oSrv A a b) (nAct A 5 a b 0) := by
    intro hn
    have hf : flt A.1 5 a b 0 = 2 := by rw [f7, if_neg hn]
    have := RR.nA h (cd := cdA) (act := 5) (a := a) (b := b) (d := 0) (x := 1) (y := 0) (E := 1) (Or.inr (Or.inl ⟨hf, rfl⟩)) rfl
    unfold oSrv
    rw [(oAct_n.2.1 hf).1] at this ⊢
    exact this
  rw [c119, yCi_I, c119, yCi_I, c107_1, yCi_I, c107_0, yCi_I]
  simp only [yb_0]
  by_cases q1 : 1 ≤ a ∧ a ≤ 24
  · rw [if_neg (not_not_intro q1)]
    by_cases q2 : 1 ≤ b ∧ b ≤ 24
    · have hf : flt A.1 5 a b 0 = 0 := by rw [f7, if_pos ⟨q1, q2⟩]
      obtain ⟨M2, b1, b2, b3, b4, b5⟩ := r_rem h hA
      rw [if_neg (not_not_intro q2), if_pos trivial, b1, yCv_V, c148 yR191 (by rw [b2]; exact ok) (by rw [b2]; exact hA.2.1) ⟨q1, q2⟩, yCi_I, b2]
      have := RR.yes (M := M) (cd := cdA) (act := 5) (a := a) (b := b) (d := 0) hf rfl b3 b4 b5
      obtain ⟨b', M', x1, x2, x3, x4, x5⟩ := this
      unfold oSrv
      rw [(oAct_0 hf).1] at x2 ⊢
      refine ⟨_, _, rfl, ?_, fun v z => (Sum.inr.inj z), ?_, ?_⟩
      · have hM : M' = yUa M2 191 (prfR A.1 5 a b 0) := by
          have := Option.some.inj x1
          exact (Prod.mk.inj this).2.symm
        rw [hM] at x2
        exact x2
      · have hM : M' = yUa M2 191 (prfR A.1 5 a b 0) := by
          have := Option.some.inj x1
          exact (Prod.mk.inj this).2.symm
        rw [hM] at x4
        exact x4
      · have hM : M' = yUa M2 191 (prfR A.1 5 a b 0) := by
          have := Option.some.inj x1
          exact (Prod.mk.inj this).2.symm
        rw [hM] at x5
        exact x5
    · rw [if_pos q2, if_neg (by decide)]
      exact no (fun z => q2 z.2)
  · rw [if_pos q1, if_neg (by decide)]
    exact no (fun z => q1 z.1)
end RRR
