/-! actions: what each does, the class's code for them -/
def vld (m s k : Nat) : Prop := k = 0 ∨ k = 13 ∨ k = 14 ∨ k = 15 ∨ (1 ≤ k ∧ k < 1 + m) ∨ (16 ≤ k ∧ k < 16 + s) ∨ (30 ≤ k ∧ k < 30 + s) ∨ (44 ≤ k ∧ k < 44 + s) ∨ (58 ≤ k ∧ k < 58 + s) ∨ (72 ≤ k ∧ k < 72 + s) ∨ (86 ≤ k ∧ k < 90) ∨ (90 ≤ k ∧ k < 95)
theorem rc_v {M : yM} {c : Nat} {r : yRow} (hm : many r ≤ 12) (hst : stps r ≤ 14) : rc M c r ↔ ∀ k, vld (many r) (stps r) k → M (cat c k) (cix k) = r k := rc_iff hm hst
theorem ycat {M : yM} {c k j : Nat} {x : Int32} (hk : k < 95) (hj : j < 95) : yU M (cat c k) (cix k) x (cat c j) (cix j) = if j = k then x else M (cat c j) (cix j) := by
  rw [yU_eq]
  by_cases e : j = k
  · subst e
    rw [if_pos ⟨rfl, rfl⟩, if_pos rfl]
  · rw [if_neg (fun z => e (cat_inj hj hk z.1 z.2)), if_neg e]
theorem vld_lt {m s k : Nat} (hm : m ≤ 12) (hs0 : s ≤ 14) (h : vld m s k) : k < 95 := by
  unfold vld at h
  omega
def rIng (r : yRow) (g : Int32) : yRow := upd (upd r (1 + many r) g) 0 (r 0 + 1)
def rStp (r : yRow) (a b c : Int32) : yRow := upd (upd (upd (upd (upd (upd r (16 + stps r) a) (30 + stps r) b) (44 + stps r) c) (58 + stps r) 0) (72 + stps r) 0) 15 (r 15 + 1)
def prfR (r : yRow) (act a b c : Int32) : yRow := if act = 0 then rIng r a else if act = 1 then rStp r a b c else if act = 2 then upd r (58 + yx a) (wth (r (58 + yx a)) b (c = 1)) else if act = 3 then upd r (72 + yx a) (wth (r (72 + yx a)) b (c = 1)) else if act = 4 then upd r (86 + yx a) b else if act = 5 then upd (upd r 13 a) 14 b else if act = 6 then upd r (90 + yx a) b else if act = 7 then upd r (1 + yx a) b else upd r (16 + yx a) b
def prfV (r : yRow) (act a b c : Int32) : Int32 := if act = 0 then r 0 else if act = 1 then r 15 else if act = 2 then bct (wth (r (58 + yx a)) b (c = 1)) else if act = 3 then bct (wth (r (72 + yx a)) b (c = 1)) else if act = 4 then r (86 + yx a) else if act = 5 then b else if act = 6 then r (90 + yx a) else if act = 7 then r (1 + yx a) else r (16 + yx a)
def flt (r : yRow) (act a b c : Int32) : Int32 := if act = 0 then (if bet a 1 50000 then if r 0 < 12 then 0 else 3 else 2) else if act = 1 then (if bet a 1 90 ∧ bet b (-1) 3 then if r 15 < 14 then 0 else 3 else 2) else if act = 2 then (if bet a 0 (r 15 - 1) ∧ bet b 0 (r 0 - 1) then 0 else 1) else if act = 3 then (if bet a 0 (r 15 - 1) ∧ bet b 0 (r 15 - 1) then if c = 1 ∧ (a = b ∨ hs (San r (yx b)) a) then 3 else 0 else 1) else if act = 4 then (if bet a 0 3 then if bet b 0 3 then 0 else 2 else 1) else if act = 5 then (if bet a 1 24 ∧ bet b 1 24 then 0 else 2) else if act = 6 then (if bet a 0 4 ∧ bet b (xsR0 2 (yx a)) (xsR0 3 (yx a)) then 0 else 2) else if act = 7 then (if bet a 0 (r 0 - 1) then if bet b 1 50000 then 0 else 2 else 1) else (if bet a 0 (r 15 - 1) then if bet b 1 90 then 0 else 2 else 1)
theorem d10 : ((1 : Int32) = 0) = False := by
  apply propext
  exact ⟨fun z => absurd z (by decide), False.elim⟩
theorem d00 : ((0 : Int32) = 0) = True := propext ⟨fun _ => trivial, fun _ => rfl⟩
theorem c7 {x y z : Int32} {M : yM} : yX 7 0 [some (.int x), some (.int y), some (.int z)] [] M 0 0 = yI (if x = 0 then 1 else if y = 0 then 2 else if z = 0 then 3 else 0) M := by
  refine yL.I e7 ?_
  split
  · rfl
  · split
    · rfl
    · split <;> rfl
theorem c100_0 {s e : Int32} {M : yM} : yX 100 0 [some (.int s), some (.int e), some (.int 0)] [] M 0 0 = yI (wth s e False) M := yL.I e100 (if_pos rfl)
theorem wth_t {s e : Int32} {p : Prop} [Decidable p] (h : p) : wth s e p = wth s e True := by
  unfold wth
  rw [if_pos h, if_pos trivial]
theorem wth_f {s e : Int32} {p : Prop} [Decidable p] (h : ¬ p) : wth s e p = wth s e False := by
  unfold wth
  rw [if_neg h, if_neg (fun z => z)]
theorem set_ix {a : Int32} (h : bet a 0 4) : yx a < 5 ∧ a = Int32.ofNat (yx a) := by
  obtain ⟨h1, h2⟩ := bet_nat (x := a) (m := 4) h (N := 4) rfl (by omega)
  exact ⟨by omega, h2⟩
theorem knd_ix {a : Int32} (h : bet a 0 3) : yx a < 4 ∧ a = Int32.ofNat (yx a) := by
  obtain ⟨h1, h2⟩ := bet_nat (x := a) (m := 3) h (N := 3) rfl (by omega)
  exact ⟨by omega, h2⟩
theorem ing_ix {r : yRow} (ok : rok r) {a : Int32} (h : bet a 0 (r 0 - 1)) : yx a < many r ∧ a = Int32.ofNat (yx a) := by
  obtain ⟨n, h1, h2⟩ := (ing_nat ok).mp h
  have := (rokm ok).1
  rw [h2, yx_ofN (by omega)]
  exact ⟨h1, rfl⟩
theorem stp_ix {r : yRow} (ok : rok r) {a : Int32} (h : bet a 0 (r 15 - 1)) : yx a < stps r ∧ a = Int32.ofNat (yx a) := by
  obtain ⟨n, h1, h2⟩ := (stp_nat ok).mp h
  have := (roks ok).1
  rw [h2, yx_ofN (by omega)]
  exact ⟨h1, rfl⟩
theorem yin_of {a : Int32} {n : Nat} (h : yx a < n ∧ a = Int32.ofNat (yx a)) (hn : n < 2147483648) : yinB a n = true := by
  rw [h.2]
  exact yin_ofN h.1 hn
section ACTC
variable {M : yM} {c : Nat} {r : yRow}
theorem c6 (hc : yC c) (h : rc M c r) (ok : rok r) {act a b d : Int32} : yX 6 0 [some (.ref c), some (.int act), some (.int a), some (.int b), some (.int d)] [] M 0 0 = yI (flt r act a b d) M := by
  have h14 := (roks ok).1
  refine yL.I (e6 hc) ?_
  unfold flt bet
  simp only [c94, c95, c96, c3 hc h, c4 hc h, c7, yCi_I, yb_0, d10, d00, if_true, if_false, h.1, h.2.1]
  by_cases a0 : act = 0
  · simp only [a0, if_true]
    by_cases q1 : (1 ≤ a ∧ a ≤ 50000)
    · by_cases q2 : r 0 < 12
      · simp only [q1, q2, not_true_eq_false, if_true, if_false, and_self]
      · simp only [q1, q2, not_true_eq_false, if_true, if_false, and_self]
    · by_cases q2 : r 0 < 12
      · simp only [q1, q2, not_false_eq_true, if_true, if_false]
      · simp only [q1, q2, not_false_eq_true, if_true, if_false]
  · simp only [a0, if_false]
    by_cases a1 : act = 1
    · simp only [a1, if_true]
      by_cases q1 : (1 ≤ a ∧ a ≤ 90)
      · by_cases q2 : (-1 ≤ b ∧ b ≤ 3)
        · by_cases q3 : r 15 < 14
          · simp only [q1, q2, q3, not_true_eq_false, if_true, if_false, and_self]
          · simp only [q1, q2, q3, not_true_eq_false, if_true, if_false, and_self]
        · by_cases q3 : r 15 < 14
          · simp only [q1, q2, q3, not_true_eq_false, not_false_eq_true, if_true, if_false, and_self, and_false]
          · simp only [q1, q2, q3, not_true_eq_false, not_false_eq_true, if_true, if_false, and_self, and_false]
      · by_cases q3 : r 15 < 14
        · simp only [q1, q3, not_false_eq_true, if_true, if_false, false_and]
        · simp only [q1, q3, not_false_eq_true, if_true, if_false, false_and]
    · simp only [a1, if_false]
      by_cases a2 : act = 2
      · simp only [a2, if_true]
        by_cases q1 : (0 ≤ a ∧ a ≤ r 15 - 1)
        · by_cases q2 : (0 ≤ b ∧ b ≤ r 0 - 1)
          · simp only [q1, q2, not_true_eq_false, if_true, if_false, and_self]
          · simp only [q1, q2, not_true_eq_false, not_false_eq_true, if_true, if_false, and_self, and_false]
        · simp only [q1, not_false_eq_true, if_true, if_false, false_and]
      · simp only [a2, if_false]
        by_cases a3 : act = 3
        · simp only [a3, if_true]
          by_cases q1 : (0 ≤ a ∧ a ≤ r 15 - 1)
          · by_cases q2 : (0 ≤ b ∧ b ≤ r 15 - 1)
            · obtain ⟨b1, b2⟩ := stp_ix ok q2
              have e21 : yX 21 0 [some (.ref c), some (.int b), none, none, none] [] M 0 0 = yI (San r (yx b)) M := by
                have := c21 hc h ok b1
                rw [← b2] at this
                exact this
              simp only [q1, q2, not_true_eq_false, if_true, if_false, and_self, e21, yCi_I, c99, yb_0]
              by_cases q3 : d = 1
              · by_cases q4 : a = b
                · rw [if_pos q3, if_pos q4, if_pos ⟨q3, Or.inl q4⟩]
                · by_cases q5 : hs (San r (yx b)) a
                  · rw [if_pos q3, if_neg q4, if_neg (not_not_intro q5), if_pos ⟨q3, Or.inr q5⟩]
                  · rw [if_pos q3, if_neg q4, if_pos q5, if_neg (fun z => z.2.elim q4 q5)]
              · rw [if_neg q3, if_neg (fun z => q3 z.1)]
            · simp only [q1, q2, not_true_eq_false, not_false_eq_true, if_true, if_false, and_self, and_false]
          · simp only [q1, not_false_eq_true, if_true, if_false, false_and]
        · simp only [a3, if_false]
          by_cases a4 : act = 4
          · simp only [a4, if_true]
            by_cases q1 : (0 ≤ a ∧ a ≤ 3)
            · by_cases q2 : (0 ≤ b ∧ b ≤ 3)
              · simp only [q1, q2, not_true_eq_false, if_true, if_false, and_self]
              · simp only [q1, q2, not_true_eq_false, not_false_eq_true, if_true, if_false, and_self]
            · simp only [q1, not_false_eq_true, if_true, if_false]
          · simp only [a4, if_false]
            by_cases a5 : act = 5
            · simp only [a5, if_true]
              by_cases q1 : (1 ≤ a ∧ a ≤ 24)
              · by_cases q2 : (1 ≤ b ∧ b ≤ 24)
                · simp only [q1, q2, not_true_eq_false, if_true, if_false, and_self]
                · simp only [q1, q2, not_true_eq_false, not_false_eq_true, if_true, if_false, and_self, and_false]
              · simp only [q1, not_false_eq_true, if_true, if_false, false_and]
            · simp only [a5, if_false]
              by_cases a6 : act = 6
              · simp only [a6, if_true]
                by_cases q1 : (0 ≤ a ∧ a ≤ 4)
                · have hy := yin_of (set_ix q1) (n := 5) (by omega)
                  by_cases q2 : (xsR0 2 (yx a) ≤ b ∧ b ≤ xsR0 3 (yx a))
                  · simp only [q1, q2, hy, not_true_eq_false, if_true, if_false, and_self]
                  · simp only [q1, q2, hy, not_true_eq_false, not_false_eq_true, if_true, if_false, and_self, and_false]
                · simp only [q1, not_false_eq_true, if_true, if_false, false_and]
              · simp only [a6, if_false]
                by_cases a7 : act = 7
                · simp only [a7, if_true]
                  by_cases q1 : (0 ≤ a ∧ a ≤ r 0 - 1)
                  · by_cases q2 : (1 ≤ b ∧ b ≤ 50000)
                    · simp only [q1, q2, not_true_eq_false, if_true, if_false, and_self]
                    · simp only [q1, q2, not_true_eq_false, not_false_eq_true, if_true, if_false, and_self]
                  · simp only [q1, not_false_eq_true, if_true, if_false]
                · simp only [a7, if_false]
                  by_cases q1 : (0 ≤ a ∧ a ≤ r 15 - 1)
                  · by_cases q2 : (1 ≤ b ∧ b ≤ 90)
                    · simp only [q1, q2, not_true_eq_false, if_true, if_false, and_self]
                    · simp only [q1, q2, not_true_eq_false, not_false_eq_true, if_true, if_false, and_self]
                  · simp only [q1, not_false_eq_true, if_true, if_false]
theorem c10 {q n : Nat} (hq : ySa q 0 n) {i x : Int32} (hi : yinB i n = true) : yX 10 0 [some (.ref q), some (.int i), some (.int x), none] [] M 0 0 = yI (M q (yx i)) (yU M q (yx i) x) := by
  refine yL.I (e10 hq) ?_
  rw [if_pos hi, if_pos hi]
  rfl
theorem rIng_many (ok : rok r) (h : r 0 < 12) (g : Int32) : many (rIng r g) = many r + 1 ∧ stps (rIng r g) = stps r ∧ many r < 12 := by
  obtain ⟨m1, m2⟩ := rokm ok
  have hlt : many r < 12 := by
    rw [m2] at h
    exact (ofN_lt (m := 12) (by omega) (by omega)).mp h
  refine ⟨?_, ?_, hlt⟩
  · show yx (upd (upd r (1 + many r) g) 0 (r 0 + 1) 0) = _
    rw [upd_eq, if_pos rfl, m2, ofN_succ, yx_ofN (by omega)]
  · show yx (upd (upd r (1 + many r) g) 0 (r 0 + 1) 15) = _
    rw [upd_eq, if_neg (by omega), upd_eq, if_neg (by omega)]
    rfl
theorem rStp_stps (ok : rok r) (h : r 15 < 14) (a b d : Int32) : stps (rStp r a b d) = stps r + 1 ∧ many (rStp r a b d) = many r ∧ stps r < 14 := by
  obtain ⟨m1, m2⟩ := roks ok
  have hlt : stps r < 14 := by
    rw [m2] at h
    exact (ofN_lt (m := 14) (by omega) (by omega)).mp h
  refine ⟨?_, ?_, hlt⟩
  · show yx (upd _ 15 (r 15 + 1) 15) = _
    rw [upd_eq, if_pos rfl, m2, ofN_succ, yx_ofN (by omega)]
  · show yx (rStp r a b d 0) = _
    unfold rStp
    rw [upd_eq, if_neg (by omega), upd_eq, if_neg (by omega), upd_eq, if_neg (by omega), upd_eq, if_neg (by omega), upd_eq, if_neg (by omega), upd_eq, if_neg (by omega)]
    rfl
theorem rc_put (h : rc M c r) (ok : rok r) {k off ix : Nat} {x : Int32} (h0 : k ≠ 0) (h15 : k ≠ 15) (hk : k < 95) (ho : catO k = off) (hx : cix k = ix) : rc (yU M (c + off) ix x) c (upd r k x) := by
  have := rc_upd (x := x) h (rokm ok).1 (roks ok).1 h0 h15 hk
  unfold cat at this
  rw [ho, hx] at this
  exact this
theorem put_fr {M : yM} {off ix : Nat} {x : Int32} (ho : off ≤ 8) {a : Nat} (ha : a < c ∨ c + 8 < a) : yU M (c + off) ix x a = M a := yU_ne (by omega)
/-- an action done on a card -/
theorem c8 (hc : yC c) (h : rc M c r) (ok : rok r) {act a b d : Int32} (hf : flt r act a b d = 0) : ∃ M', yX 8 0 [some (.ref c), some (.int act), some (.int a), some (.int b), some (.int d)] [] M 0 0 = yI (prfV r act a b d) M' ∧ rc M' c (prfR r act a b d) ∧ ∀ q, (q < c ∨ c + 8 < q) → M' q = M q := by
  obtain ⟨m1, m2⟩ := rokm ok
  obtain ⟨s1, s2⟩ := roks ok
  obtain ⟨h0, h1, h2, h3, h4, h5, h6, h7⟩ := id h
  have n10 : ¬ ((3 : Int32) = 0) ∧ ¬ ((2 : Int32) = 0) ∧ ¬ ((1 : Int32) = 0) := by decide
  unfold flt at hf
  unfold prfR prfV
  by_cases a0 : act = 0
  · simp only [a0, if_true] at hf ⊢
    have hlt : r 0 < 12 := by
      apply Classical.byContradiction
      intro z
      rw [if_neg z] at hf
      split at hf
      · exact n10.1 hf
      · exact n10.2.1 hf
    obtain ⟨g1, g2, g3⟩ := rIng_many ok hlt a
    have hy : yinB (r 0) 12 = true := by rw [m2]; exact yin_ofN g3 (by omega)
    have hyx : yx (r 0) = many r := rfl
    refine ⟨yU (yU M (c + 1) (many r) a) c 0 (r 0 + 1), yL.I (e8 hc) ?_, ?_, fun q hq => ?_⟩
    · rw [if_pos rfl, h0, if_pos hy, yLet_eq, hyx]
      have e : (yU M (c + 1) (many r) a) c 0 = r 0 := by rw [yU_ne (by omega)]; exact h0
      rw [e, yLet_eq]
    · rw [rc_v (by omega) (by omega), g1, g2]
      rw [rc_v m1 s1] at h
      intro k hk
      have hk95 := vld_lt (show many r + 1 ≤ 12 by omega) s1 hk
      have e1 : yU (yU M (c + 1) (many r) a) c 0 (r 0 + 1) = yU (yU M (cat c (1 + many r)) (cix (1 + many r)) a) (cat c 0) (cix 0) (r 0 + 1) := by
        unfold cat
        rw [(cat_1 (many r) g3).1, (cat_1 (many r) g3).2]
        rfl
      rw [e1, ycat (by omega) hk95, ycat (by omega) hk95]
      show _ = upd (upd r (1 + many r) a) 0 (r 0 + 1) k
      rw [upd_eq, upd_eq]
      by_cases k0 : k = 0
      · rw [if_pos k0, if_pos k0]
      · by_cases k1 : k = 1 + many r
        · rw [if_neg k0, if_pos k1, if_neg k0, if_pos k1]
        · rw [if_neg k0, if_neg k1, if_neg k0, if_neg k1]
          exact h k (by unfold vld at hk ⊢; omega)
    · rw [yU_ne (by omega), yU_ne (by omega)]
  · simp only [a0, if_false] at hf ⊢
    by_cases a1 : act = 1
    · simp only [a1, if_true] at hf ⊢
      have hlt : r 15 < 14 := by
        apply Classical.byContradiction
        intro z
        rw [if_neg z] at hf
        split at hf
        · exact n10.1 hf
        · exact n10.2.1 hf
      obtain ⟨g1, g2, g3⟩ := rStp_stps ok hlt a b d
      have hy : yinB (r 15) 14 = true := by rw [s2]; exact yin_ofN g3 (by omega)
      have hyx : yx (r 15) = stps r := rfl
      obtain ⟨A1, hA1⟩ : ∃ A, A = yU M (c + 2) (stps r) a := ⟨_, rfl⟩
      obtain ⟨A2, hA2⟩ : ∃ A, A = yU A1 (c + 3) (stps r) b := ⟨_, rfl⟩
      obtain ⟨A3, hA3⟩ : ∃ A, A = yU A2 (c + 4) (stps r) d := ⟨_, rfl⟩
      obtain ⟨A4, hA4⟩ : ∃ A, A = yU A3 (c + 5) (stps r) 0 := ⟨_, rfl⟩
      obtain ⟨A5, hA5⟩ : ∃ A, A = yU A4 (c + 6) (stps r) 0 := ⟨_, rfl⟩
      have k1 : A1 c 1 = r 15 := by rw [hA1, yU_ne (by omega)]; exact h1
      have k2 : A2 c 1 = r 15 := by rw [hA2, yU_ne (by omega)]; exact k1
      have k3 : A3 c 1 = r 15 := by rw [hA3, yU_ne (by omega)]; exact k2
      have k4 : A4 c 1 = r 15 := by rw [hA4, yU_ne (by omega)]; exact k3
      have k5 : A5 c 1 = r 15 := by rw [hA5, yU_ne (by omega)]; exact k4
      refine ⟨yU A5 c 1 (r 15 + 1), yL.I (e8 hc) ?_, ?_, fun q hq => ?_⟩
      · rw [if_neg (by decide), if_pos rfl]
        have e9' : yX 9 0 [some (.ref c), some (.int a), some (.int b), some (.int d)] [] M 0 0 = yI (r 15) (yU A5 c 1 (r 15 + 1)) := by
          refine yL.I (e9 hc) ?_
          rw [h1, if_pos hy, yLet_eq, hyx, ← hA1, k1, if_pos hy, yLet_eq, hyx, ← hA2, k2, if_pos hy, yLet_eq, hyx, ← hA3, k3, if_pos hy, yLet_eq, hyx, ← hA4, k4, if_pos hy, yLet_eq, hyx, ← hA5, k5, yLet_eq]
        rw [e9', yCi_I]
      · rw [rc_v (by omega) (by omega), g1, g2]
        rw [rc_v m1 s1] at h
        intro k hk
        have hk95 := vld_lt m1 (show stps r + 1 ≤ 14 by omega) hk
        have e1 : yU A5 c 1 (r 15 + 1) = yU (yU (yU (yU (yU (yU M (cat c (16 + stps r)) (cix (16 + stps r)) a) (cat c (30 + stps r)) (cix (30 + stps r)) b) (cat c (44 + stps r)) (cix (44 + stps r)) d) (cat c (58 + stps r)) (cix (58 + stps r)) 0) (cat c (72 + stps r)) (cix (72 + stps r)) 0) (cat c 15) (cix 15) (r 15 + 1) := by
          rw [hA5, hA4, hA3, hA2, hA1]
          unfold cat
          rw [(cat_16 (stps r) g3).1, (cat_16 (stps r) g3).2, (cat_30 (stps r) g3).1, (cat_30 (stps r) g3).2, (cat_44 (stps r) g3).1, (cat_44 (stps r) g3).2, (cat_58 (stps r) g3).1, (cat_58 (stps r) g3).2, (cat_72 (stps r) g3).1, (cat_72 (stps r) g3).2]
          rfl
        rw [e1, ycat (by omega) hk95, ycat (by omega) hk95, ycat (by omega) hk95, ycat (by omega) hk95, ycat (by omega) hk95, ycat (by omega) hk95]
        unfold rStp
        rw [upd_eq, upd_eq, upd_eq, upd_eq, upd_eq, upd_eq]
        by_cases e15 : k = 15
        · rw [if_pos e15, if_pos e15]
        · rw [if_neg e15, if_neg e15]
          by_cases e72 : k = 72 + stps r
          · rw [if_pos e72, if_pos e72]
          · rw [if_neg e72, if_neg e72]
            by_cases e58 : k = 58 + stps r
            · rw [if_pos e58, if_pos e58]
            · rw [if_neg e58, if_neg e58]
              by_cases e44 : k = 44 + stps r
              · rw [if_pos e44, if_pos e44]
              · rw [if_neg e44, if_neg e44]
                by_cases e30 : k = 30 + stps r
                · rw [if_pos e30, if_pos e30]
                · rw [if_neg e30, if_neg e30]
                  by_cases e16 : k = 16 + stps r
                  · rw [if_pos e16, if_pos e16]
                  · rw [if_neg e16, if_neg e16]
                    exact h k (by unfold vld at hk ⊢; omega)
      · rw [yU_ne (by omega), hA5, yU_ne (by omega), hA4, yU_ne (by omega), hA3, yU_ne (by omega), hA2, yU_ne (by omega), hA1, yU_ne (by omega)]
    · simp only [a1, if_false] at hf ⊢
      by_cases a2 : act = 2
      · simp only [a2, if_true] at hf ⊢
        have hq : bet a 0 (r 15 - 1) ∧ bet b 0 (r 0 - 1) := by
          apply Classical.byContradiction
          intro z
          rw [if_neg z] at hf
          exact n10.2.2 hf
        obtain ⟨i1, i2⟩ := stp_ix ok hq.1
        have hy := yin_of (n := 14) ⟨show yx a < 14 by omega, i2⟩ (by omega)
        have eu := (h5 _ i1).2.2.2.1
        refine ⟨yU M (c + 5) (yx a) (wth (r (58 + yx a)) b (d = 1)), yL.I (e8 hc) ?_, rc_put h ok (by omega) (by omega) (by omega) (cat_58 _ (by omega)).1 (cat_58 _ (by omega)).2, fun q hq => put_fr (by omega) hq⟩
        rw [if_neg (by decide), if_neg (by decide), if_pos rfl, if_pos hy, eu]
        by_cases hd : d = 1
        · rw [if_pos hd, c100_1, yCi_I, if_pos hy, yLet_eq, if_pos hy, yU_at, upd_eq, if_pos rfl, c144, yCi_I, wth_t hd]
        · rw [if_neg hd, c100_0, yCi_I, if_pos hy, yLet_eq, if_pos hy, yU_at, upd_eq, if_pos rfl, c144, yCi_I, wth_f hd]
      · simp only [a2, if_false] at hf ⊢
        by_cases a3 : act = 3
        · simp only [a3, if_true] at hf ⊢
          have hq : bet a 0 (r 15 - 1) ∧ bet b 0 (r 15 - 1) := by
            apply Classical.byContradiction
            intro z
            rw [if_neg z] at hf
            exact n10.2.2 hf
          obtain ⟨i1, i2⟩ := stp_ix ok hq.1
          have hy := yin_of (n := 14) ⟨show yx a < 14 by omega, i2⟩ (by omega)
          have eu := (h5 _ i1).2.2.2.2
          refine ⟨yU M (c + 6) (yx a) (wth (r (72 + yx a)) b (d = 1)), yL.I (e8 hc) ?_, rc_put h ok (by omega) (by omega) (by omega) (cat_72 _ (by omega)).1 (cat_72 _ (by omega)).2, fun q hq => put_fr (by omega) hq⟩
          rw [if_neg (by decide), if_neg (by decide), if_neg (by decide), if_pos rfl, if_pos hy, eu]
          by_cases hd : d = 1
          · rw [if_pos hd, c100_1, yCi_I, if_pos hy, yLet_eq, if_pos hy, yU_at, upd_eq, if_pos rfl, c144, yCi_I, wth_t hd]
          · rw [if_neg hd, c100_0, yCi_I, if_pos hy, yLet_eq, if_pos hy, yU_at, upd_eq, if_pos rfl, c144, yCi_I, wth_f hd]
        · simp only [a3, if_false] at hf ⊢
          by_cases a4 : act = 4
          · simp only [a4, if_true] at hf ⊢
            have hq : bet a 0 3 := by
              apply Classical.byContradiction
              intro z
              rw [if_neg z] at hf
              exact n10.2.2 hf
            obtain ⟨i1, i2⟩ := knd_ix hq
            have hy := yin_of (n := 4) ⟨i1, i2⟩ (by omega)
            refine ⟨yU M (c + 7) (yx a) b, yL.I (e8 hc) ?_, rc_put h ok (by omega) (by omega) (by omega) (cat_86 _ (by omega)).1 (cat_86 _ (by omega)).2, fun q hq => put_fr (by omega) hq⟩
            rw [if_neg (by decide), if_neg (by decide), if_neg (by decide), if_neg (by decide), if_pos rfl, c10 (yC_a hc).2.2.2.2.2.2.1 hy, yCi_I, h6 _ i1]
          · simp only [a4, if_false] at hf ⊢
            by_cases a5 : act = 5
            · simp only [a5, if_true] at hf ⊢
              refine ⟨yU (yU M c 2 a) c 3 b, yL.I (e8 hc) ?_, ?_, fun q hq => ?_⟩
              · rw [if_neg (by decide), if_neg (by decide), if_neg (by decide), if_neg (by decide), if_neg (by decide), if_pos rfl, yLet_eq, yLet_eq, yU_at, upd_eq, if_pos rfl]
              · have g1 := rc_upd (x := a) (k := 13) h m1 s1 (by omega) (by omega) (by omega)
                have g2 := rc_upd (x := b) (k := 14) g1 (by rw [upd_many (by omega)]; exact m1) (by rw [upd_stps (by omega)]; exact s1) (by omega) (by omega) (by omega)
                exact g2
              · rw [yU_ne (by omega), yU_ne (by omega)]
            · simp only [a5, if_false] at hf ⊢
              by_cases a6 : act = 6
              · simp only [a6, if_true] at hf ⊢
                have hq : bet a 0 4 := by
                  apply Classical.byContradiction
                  intro z
                  rw [if_neg (fun y => z y.1)] at hf
                  exact n10.2.1 hf
                obtain ⟨i1, i2⟩ := set_ix hq
                have hy := yin_of (n := 5) ⟨i1, i2⟩ (by omega)
                refine ⟨yU M (c + 8) (yx a) b, yL.I (e8 hc) ?_, rc_put h ok (by omega) (by omega) (by omega) (cat_90 _ (by omega)).1 (cat_90 _ (by omega)).2, fun q hq => put_fr (by omega) hq⟩
                rw [if_neg (by decide), if_neg (by decide), if_neg (by decide), if_neg (by decide), if_neg (by decide), if_neg (by decide), if_pos rfl, c10 (yC_a hc).2.2.2.2.2.2.2 hy, yCi_I, h7 _ i1]
              · simp only [a6, if_false] at hf ⊢
                by_cases a7 : act = 7
                · simp only [a7, if_true] at hf ⊢
                  have hq : bet a 0 (r 0 - 1) := by
                    apply Classical.byContradiction
                    intro z
                    rw [if_neg z] at hf
                    exact n10.2.2 hf
                  obtain ⟨i1, i2⟩ := ing_ix ok hq
                  have hy := yin_of (n := 12) ⟨show yx a < 12 by omega, i2⟩ (by omega)
                  refine ⟨yU M (c + 1) (yx a) b, yL.I (e8 hc) ?_, rc_put h ok (by omega) (by omega) (by omega) (cat_1 _ (by omega)).1 (cat_1 _ (by omega)).2, fun q hq => put_fr (by omega) hq⟩
                  rw [if_neg (by decide), if_neg (by decide), if_neg (by decide), if_neg (by decide), if_neg (by decide), if_neg (by decide), if_neg (by decide), if_pos rfl, c10 (yC_a hc).1 hy, yCi_I, h4 _ i1]
                · simp only [a7, if_false] at hf ⊢
                  have hq : bet a 0 (r 15 - 1) := by
                    apply Classical.byContradiction
                    intro z
                    rw [if_neg z] at hf
                    exact n10.2.2 hf
                  obtain ⟨i1, i2⟩ := stp_ix ok hq
                  have hy := yin_of (n := 14) ⟨show yx a < 14 by omega, i2⟩ (by omega)
                  refine ⟨yU M (c + 2) (yx a) b, yL.I (e8 hc) ?_, rc_put h ok (by omega) (by omega) (by omega) (cat_16 _ (by omega)).1 (cat_16 _ (by omega)).2, fun q hq => put_fr (by omega) hq⟩
                  rw [if_neg a0, if_neg a1, if_neg a2, if_neg a3, if_neg a4, if_neg a5, if_neg a6, if_neg a7, c10 (yC_a hc).2.1 hy, yCi_I, (h5 _ i1).1]
/-- an action tried -/
theorem c5 (hc : yC c) (h : rc M c r) (ok : rok r) {act a b d : Int32} : ∃ M', yX 5 0 [some (.ref c), some (.int act), some (.int a), some (.int b), some (.int d)] [] M 0 0 = yI (yb (flt r act a b d = 0)) M' ∧ rc M' c (if flt r act a b d = 0 then prfR r act a b d else r) ∧ ∀ q, (q < c ∨ c + 8 < q) → M' q = M q := by
  by_cases hf : flt r act a b d = 0
  · obtain ⟨M', a1, a2, a3⟩ := c8 hc h ok hf
    refine ⟨M', yL.I (e5 hc) ?_, ?_, a3⟩
    · rw [c6 hc h ok, yCi_I, if_pos hf, a1, yCi_I, yb_pos hf]
    · rw [if_pos hf]; exact a2
  · refine ⟨M, yL.I (e5 hc) ?_, ?_, fun q _ => rfl⟩
    · rw [c6 hc h ok, yCi_I, if_neg hf, yb_neg hf]
    · rw [if_neg hf]; exact h
end ACTC
