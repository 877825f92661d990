/-! the class's plan: what begins, what comes next, all of it -/
theorem sub_le {x : Int32} {a n : Nat} (hx : x = Int32.ofNat a) (ha : a ≤ 100) (hn : n ≤ a) : x - Int32.ofNat n = Int32.ofNat (a - n) := by
  rw [hx, ofN_sub hn]
section PLD
variable {p : Nat} {M0 : yM} {r : yRow}
theorem c54 (hp : yP p) (h0 : rc M0 (p + 1) r) (ok : rok r) {m : Int32} {j : Nat} {st : yPl} (hP : Pin r m j st) {M : yM} (hC : CS p M0 M r st) (hI : CI p M r m st) {s : Nat} (hs0 : s < stps r) : yX 54 0 [some (.ref p), some (.int (Int32.ofNat s)), none] [] M 0 0 = yI (yb (Scan r st.1 st.2.1 s m)) M := by
  obtain ⟨s1, s2⟩ := roks ok
  have rcM := CS_rc hC h0
  obtain ⟨i1, i2, i3⟩ := hI
  have hy : yinB (Int32.ofNat s) 14 = true := yin_ofN (by omega) (by omega)
  obtain ⟨q1, q2, q3, q4, q5⟩ := rcM.2.2.2.2.2.1 s hs0
  have hb := (hC.2.2.1 s hs0).1
  have hnd := (rokst ok hs0).2.2.2.2
  have hneeds : (r (72 + s) &&& (M p 9 ^^^ (-1))) = 0 ↔ ∀ t, t < stps r → nd r s t → dn st.1 st.2.1 t m := by
    rw [andn_0 hnd (by omega)]
    constructor
    · intro z t ht hn
      exact (i1 t ht).mp (z t ht hn)
    · intro z t ht hn
      exact (i1 t ht).mpr (z t ht hn)
  have h93 := (rokse ok).2.2.2.1
  obtain ⟨g1, g2⟩ := bet_nat (x := r 93) (m := 3) ⟨by grind, h93.2⟩ (N := 3) rfl (by omega)
  have hbz := hP.2.2.2.1
  have hcooks : (M p 10 < r (44 + s)) ↔ ¬ (r (44 + s) = 0 ∨ Int32.ofNat (Sbz r st.1 st.2.1 m) < r 93) := by
    have hh := (rokst ok hs0).2.2.1
    rw [i2, sub_le g2 (by omega) hbz]
    conv => rhs; rw [g2]
    rw [ofN_lt (by omega) (by omega)]
    by_cases h1 : r (44 + s) = 0
    · rw [h1]
      have : ¬ Int32.ofNat (yx (r 93) - Sbz r st.1 st.2.1 m) < 0 := by
        have := ofN_bd (n := yx (r 93) - Sbz r st.1 st.2.1 m) (v := 3) (N := 3) rfl (by omega) (by omega)
        grind
      exact ⟨fun z => absurd z this, fun z => absurd (Or.inl rfl) z⟩
    · have h2 : r (44 + s) = Int32.ofNat 1 := by
        have : Int32.ofNat 1 = 1 := rfl
        grind
      rw [h2, ofN_lt (by omega) (by omega)]
      constructor
      · intro z y
        rcases y with y | y
        · exact absurd y (by decide)
        · omega
      · intro z
        apply Classical.byContradiction
        intro y
        exact z (Or.inr (by omega))
  refine yL.I (e54 hp) ?_
  rw [if_pos hy, if_pos hy, if_pos hy, if_pos hy, yx_ofN (show s < 2147483648 by omega), hb, q5, q3, q2]
  by_cases h1 : st.1 s = -1
  · rw [if_pos h1]
    by_cases h2 : (r (72 + s) &&& (M p 9 ^^^ (-1))) = 0
    · rw [if_pos h2]
      by_cases h3 : M p 10 < r (44 + s)
      · rw [if_pos h3, yb_neg (fun z => hcooks.mp h3 z.2.2.1)]
      · have h3' : r (44 + s) = 0 ∨ Int32.ofNat (Sbz r st.1 st.2.1 m) < r 93 := by
          apply Classical.byContradiction
          intro z
          exact h3 (hcooks.mpr z)
        rw [if_neg h3, c95, yCi_I]
        simp only [yb_0]
        by_cases h4 : r (30 + s) = -1
        · rw [if_pos (fun z => (kind_iff ok hs0).mp z h4), yb_pos ⟨h1, hneeds.mp h2, h3', Or.inl h4⟩]
        · obtain ⟨k1, k2⟩ := ix_kd ok hs0 h4
          have hyk : yinB (r (30 + s)) 4 = true := by rw [k2]; exact yin_ofN (by omega) (by omega)
          rw [if_neg (not_not_intro ((kind_iff ok hs0).mpr h4)), if_pos hyk, i3 _ k1, ← k2]
          have hpc := rokp ok k1
          obtain ⟨p1, p2⟩ := bet_nat (x := r (86 + yx (r (30 + s)))) (m := 4) hpc (N := 4) rfl (by omega)
          have hsum : Siu r st.1 st.2.1 (r (30 + s)) m + Swa r st.1 st.2.1 (r (30 + s)) m ≤ 28 := by
            have a1 : Siu r st.1 st.2.1 (r (30 + s)) m ≤ stps r := cnt_le _ _
            have a2 : Swa r st.1 st.2.1 (r (30 + s)) m ≤ stps r := cnt_le _ _
            omega
          have hiff : (r (86 + yx (r (30 + s))) - Int32.ofNat (Siu r st.1 st.2.1 (r (30 + s)) m + Swa r st.1 st.2.1 (r (30 + s)) m) ≤ 0) ↔ ¬ Int32.ofNat (Siu r st.1 st.2.1 (r (30 + s)) m + Swa r st.1 st.2.1 (r (30 + s)) m) < r (86 + yx (r (30 + s))) := by
            have b1 := ofN_bd (n := Siu r st.1 st.2.1 (r (30 + s)) m + Swa r st.1 st.2.1 (r (30 + s)) m) (v := 28) (N := 28) rfl (by omega) hsum
            constructor
            · intro z y; grind
            · intro z; grind
          by_cases h5 : Int32.ofNat (Siu r st.1 st.2.1 (r (30 + s)) m + Swa r st.1 st.2.1 (r (30 + s)) m) < r (86 + yx (r (30 + s)))
          · rw [if_neg (fun z => hiff.mp z h5), yb_pos ⟨h1, hneeds.mp h2, h3', Or.inr h5⟩]
          · rw [if_pos (hiff.mpr h5), yb_neg (fun z => z.2.2.2.elim h4 h5)]
    · rw [if_neg h2, yb_neg (fun z => h2 (hneeds.mpr z.2.1))]
  · rw [if_neg h1, yb_neg (fun z => h1 z.1)]
theorem c53 (hp : yP p) (h0 : rc M0 (p + 1) r) (ok : rok r) {m : Int32} {j : Nat} {st : yPl} (hP : Pin r m j st) {M : yM} (hC : CS p M0 M r st) (hI : CI p M r m st) : yX 53 0 [some (.ref p), none, none] [] M 0 0 = yI (Snx r st.1 st.2.1 m) M := by
  obtain ⟨s1, s2⟩ := roks ok
  have rcM := CS_rc hC h0
  refine yL.I (e53 hp) ?_
  refine yloopI (I := fun _ a => ixn a (stps r)) (H := fun s a => yX 53 4 [some (.ref p), some (.int a), some (.int (Int32.ofNat s))] [] M 0 0) (f := Snxf r st.1 st.2.1 m) (N := stps r) (res := fun a => (.inl (some (.int a)), M)) ?_ ?_ (stps r) 0 (-1) (by omega) (Or.inl rfl)
  · intro s a hs1 hi
    refine ⟨Snxf_ix hs1 hi, yL.fr (e53_4 hp) ?_⟩
    have hy : yinB (Int32.ofNat s) 14 = true := yin_ofN (by omega) (by omega)
    rw [rcM.2.1, s2, if_pos ((ofN_lt (by omega) (by omega)).mpr hs1), c54 hp h0 ok hP hC hI hs1, yCi_I, ofN_succ]
    simp only [yb_0]
    unfold Snxf
    by_cases h1 : Scan r st.1 st.2.1 s m
    · rw [if_neg (not_not_intro h1)]
      by_cases h2 : a = -1
      · rw [if_pos h2, if_pos ⟨h1, Or.inl h2⟩]
      · obtain ⟨q, hq, e⟩ := hi.resolve_left h2
        subst e
        have hyq : yinB (Int32.ofNat q) 14 = true := yin_ofN (by omega) (by omega)
        rw [if_neg h2, if_pos hy, if_pos hyq, yx_ofN (show s < 2147483648 by omega), yx_ofN (show q < 2147483648 by omega), hC.2.2.2.2.1 s hs1, hC.2.2.2.2.1 q hq]
        by_cases h3 : Srk r s ≤ Srk r q
        · rw [if_pos h3, if_neg (fun z => z.2.elim h2 (fun z => z h3))]
        · rw [if_neg h3, if_pos ⟨h1, Or.inr h3⟩]
    · rw [if_pos h1, if_neg (fun z => h1 z.1)]
  · intro a _
    refine yL.I (e53_4 hp) ?_
    rw [rcM.2.1, s2, if_neg (by rw [ofN_lt (by omega) (by omega)]; omega)]
/-- a step begun: what is free stays told -/
theorem CI_bg (ok : rok r) {m : Int32} {j : Nat} {st : yPl} (hP : Pin r m j st) (hj : j ≤ 29) {M M' : yM} (hI : CI p M r m st) {s : Nat} (hs0 : s < stps r) (hb : st.1 s = -1) (h9 : M' p 9 = M p 9) (h10 : M' p 10 = M p 10 - r (44 + s)) (h15 : ∀ kd, kd < 4 → M' (p + 15) kd = M (p + 15) kd - (if r (30 + s) = Int32.ofNat kd then 1 else 0)) : CI p M' r m (bg r m s st) := by
  have hJ := ofN_bd (n := 170 * j) (v := 4930) (N := 4930) rfl (by omega) (by omega)
  have h5 := hP.2.2.2.2.1
  have h6 := hP.2.2.2.2.2
  have hmin := (rokst ok hs0).1
  have hm : ¬ m = -1 := by grind
  obtain ⟨i1, i2, i3⟩ := hI
  obtain ⟨b, e, o, k⟩ := st
  have hb : b s = -1 := hb
  have hgt : m < m + r (16 + s) := by grind
  refine ⟨fun t ht => ?_, ?_, fun kd hkd => ?_⟩
  · show hs (M' p 9) (Int32.ofNat t) ↔ ¬ upd b s m t = -1 ∧ upd e s (m + r (16 + s)) t ≤ m
    rw [h9, i1 t ht, upd_eq, upd_eq]
    by_cases h1 : t = s
    · subst h1
      rw [if_pos rfl, if_pos rfl]
      exact ⟨fun z => absurd hb z.1, fun z => by have := z.2; grind⟩
    · rw [if_neg h1, if_neg h1]
  · show M' p 10 = r 93 - Int32.ofNat (Sbz r (upd b s m) (upd e s (m + r (16 + s))) m)
    have i2 : M p 10 = r 93 - Int32.ofNat (Sbz r b e m) := i2
    have hh := (rokst ok hs0).2.2.1
    by_cases h1 : r (44 + s) = 1
    · have e1 : Sbz r (upd b s m) (upd e s (m + r (16 + s))) m = Sbz r b e m + 1 := cnt_flip _ _ (t := s) (fun z => z.2.1 hb) ⟨h1, by rw [upd_eq, if_pos rfl]; exact hm, by rw [upd_eq, if_pos rfl]; grind, by rw [upd_eq, if_pos rfl]; grind⟩ (stps r) hs0 (fun t ht hne => by
        unfold on
        rw [upd_eq, upd_eq, if_neg hne, if_neg hne])
      rw [h10, i2, e1, h1, x_sub1]
    · have e1 : Sbz r (upd b s m) (upd e s (m + r (16 + s))) m = Sbz r b e m := cnt_congr _ _ _ (fun t ht => by
        unfold on
        rw [upd_eq, upd_eq]
        by_cases ht2 : t = s
        · subst ht2
          exact ⟨fun z => absurd z.1 h1, fun z => absurd z.1 h1⟩
        · rw [if_neg ht2, if_neg ht2])
      have h2 : r (44 + s) = 0 := by grind
      rw [h10, i2, e1, h2]
      grind
  · show M' (p + 15) kd = r (86 + kd) - Int32.ofNat (Siu r (upd b s m) (upd e s (m + r (16 + s))) (Int32.ofNat kd) m + Swa r (upd b s m) (upd e s (m + r (16 + s))) (Int32.ofNat kd) m)
    have i3 : M (p + 15) kd = r (86 + kd) - Int32.ofNat (Siu r b e (Int32.ofNat kd) m + Swa r b e (Int32.ofNat kd) m) := i3 kd hkd
    have e2 : Swa r (upd b s m) (upd e s (m + r (16 + s))) (Int32.ofNat kd) m = Swa r b e (Int32.ofNat kd) m := cnt_congr _ _ _ (fun t ht => by
      unfold wet
      rw [upd_eq, upd_eq]
      by_cases ht2 : t = s
      · subst ht2
        rw [if_pos rfl, if_pos rfl]
        exact ⟨fun z => by have := z.2.2.1; grind, fun z => absurd hb z.2.1⟩
      · rw [if_neg ht2, if_neg ht2])
    rw [h15 kd hkd, i3, e2]
    by_cases h1 : r (30 + s) = Int32.ofNat kd
    · have e1 : Siu r (upd b s m) (upd e s (m + r (16 + s))) (Int32.ofNat kd) m = Siu r b e (Int32.ofNat kd) m + 1 := cnt_flip _ _ (t := s) (fun z => z.2.1 hb) ⟨h1, by rw [upd_eq, if_pos rfl]; exact hm, by rw [upd_eq, if_pos rfl]; grind, by rw [upd_eq, if_pos rfl]; grind⟩ (stps r) hs0 (fun t ht hne => by
        unfold on
        rw [upd_eq, upd_eq, if_neg hne, if_neg hne])
      rw [if_pos h1, e1, x_sub1]
      congr 2
      omega
    · have e1 : Siu r (upd b s m) (upd e s (m + r (16 + s))) (Int32.ofNat kd) m = Siu r b e (Int32.ofNat kd) m := cnt_congr _ _ _ (fun t ht => by
        unfold on
        rw [upd_eq, upd_eq]
        by_cases ht2 : t = s
        · subst ht2
          exact ⟨fun z => absurd z.1 h1, fun z => absurd z.1 h1⟩
        · rw [if_neg ht2, if_neg ht2])
      rw [if_neg h1, e1]
      grind
theorem c52 (hp : yP p) (h0 : rc M0 (p + 1) r) (ok : rok r) {m : Int32} {j : Nat} (hj : j ≤ 29) : ∀ f c st M o3, f + c = stps r → Pin r m j st → CS p M0 M r st → CI p M r m st → ∃ M', yX 52 2 [some (.ref p), some (.int m), some (.int (Int32.ofNat c)), o3] [] M 0 0 = yV M' ∧ CS p M0 M' r (Sin r m f st) := by
  obtain ⟨s1, s2⟩ := roks ok
  intro f
  induction f with
  | zero =>
    intro c st M o3 hc hP hC hI
    refine ⟨M, yL.V (e52_2 hp) ?_, hC⟩
    rw [(CS_rc hC h0).2.1, s2, if_neg (by rw [ofN_lt (by omega) (by omega)]; omega)]
  | succ f ih =>
    intro c st M o3 hc hP hC hI
    have rcM := CS_rc hC h0
    have hJ := ofN_bd (n := 170 * j) (v := 4930) (N := 4930) rfl (by omega) (by omega)
    have hm0 := hP.2.2.2.2.1
    have hm1 := hP.2.2.2.2.2
    by_cases h1 : Snx r st.1 st.2.1 m = -1
    · have e : Sin r m (f + 1) st = st := if_pos h1
      rw [e]
      refine ⟨M, yL.V (e52_2 hp) ?_, hC⟩
      rw [rcM.2.1, s2, if_pos ((ofN_lt (by omega) (by omega)).mpr (by omega)), c53 hp h0 ok hP hC hI, yCi_I, if_pos h1]
    · obtain ⟨s, h2, h3, h4⟩ := (Snx_can (r := r) (b := st.1) (e := st.2.1) (m := m)).resolve_left h1
      have e : Sin r m (f + 1) st = Sin r m f (bg r m s st) := by
        show (if Snx r st.1 st.2.1 m = -1 then st else Sin r m f (bg r m (yx (Snx r st.1 st.2.1 m)) st)) = _
        rw [if_neg h1, h3, yx_ofN (by omega)]
      rw [e]
      have hP' := Pin_bg ok hP h2 h4 hj
      have hkl : st.2.2.2 < 14 := by
        have := Pin_kle hP'
        have : st.2.2.2 + 1 ≤ stps r := this
        omega
      have hmin := (rokst ok h2).1
      have hy : yinB (Int32.ofNat s) 14 = true := yin_ofN (by omega) (by omega)
      -- the stores, one by one
      obtain ⟨A1, hA1⟩ : ∃ A, A = yU M (p + 10) s m := ⟨_, rfl⟩
      obtain ⟨A2, hA2⟩ : ∃ A, A = yU A1 (p + 11) s (m + r (16 + s)) := ⟨_, rfl⟩
      obtain ⟨A3, hA3⟩ : ∃ A, A = yU A2 (p + 14) st.2.2.2 (Int32.ofNat s) := ⟨_, rfl⟩
      obtain ⟨A4, hA4⟩ : ∃ A, A = yU A3 p 6 (Int32.ofNat (st.2.2.2 + 1)) := ⟨_, rfl⟩
      obtain ⟨A5, hA5⟩ : ∃ A, A = yU A4 p 8 (imx (M p 8) (m + r (16 + s))) := ⟨_, rfl⟩
      obtain ⟨A6, hA6⟩ : ∃ A, A = yU A5 p 10 (M p 10 - r (44 + s)) := ⟨_, rfl⟩
      have f6 : ∀ a, a ≠ p → a ≠ p + 10 → a ≠ p + 11 → a ≠ p + 14 → A6 a = M a := fun a q1 q2 q3 q4 => by
        rw [hA6, yU_ne q1, hA5, yU_ne q1, hA4, yU_ne q1, hA3, yU_ne q4, hA2, yU_ne q3, hA1, yU_ne q2]
      have hrc6 : rc A6 (p + 1) r := rc_fr rcM (fun a q1 q2 => f6 a (by omega) (by omega) (by omega) (by omega))
      have v10 : A6 (p + 10) = upd (M (p + 10)) s m := by
        rw [hA6, yU_ne (by omega), hA5, yU_ne (by omega), hA4, yU_ne (by omega), hA3, yU_ne (by omega), hA2, yU_ne (by omega), hA1, yU_at]
      have v11 : A6 (p + 11) = upd (M (p + 11)) s (m + r (16 + s)) := by
        rw [hA6, yU_ne (by omega), hA5, yU_ne (by omega), hA4, yU_ne (by omega), hA3, yU_ne (by omega), hA2, yU_at, hA1, yU_ne (by omega)]
      have v14 : A6 (p + 14) = upd (M (p + 14)) st.2.2.2 (Int32.ofNat s) := by
        rw [hA6, yU_ne (by omega), hA5, yU_ne (by omega), hA4, yU_ne (by omega), hA3, yU_at, hA2, yU_ne (by omega), hA1, yU_ne (by omega)]
      have w3 : A3 p = M p := by rw [hA3, yU_ne (by omega), hA2, yU_ne (by omega), hA1, yU_ne (by omega)]
      have w6 : A6 p 6 = Int32.ofNat (st.2.2.2 + 1) := by
        rw [hA6, yU_at, upd_eq, if_neg (by omega), hA5, yU_at, upd_eq, if_neg (by omega), hA4, yU_at, upd_eq, if_pos rfl]
      have w8 : A6 p 8 = imx (M p 8) (m + r (16 + s)) := by
        rw [hA6, yU_at, upd_eq, if_neg (by omega), hA5, yU_at, upd_eq, if_pos rfl]
      have w9 : A6 p 9 = M p 9 := by
        rw [hA6, yU_at, upd_eq, if_neg (by omega), hA5, yU_at, upd_eq, if_neg (by omega), hA4, yU_at, upd_eq, if_neg (by omega), w3]
      have w10 : A6 p 10 = M p 10 - r (44 + s) := by rw [hA6, yU_at, upd_eq, if_pos rfl]
      obtain ⟨B, b1, b2, b3⟩ := c51 hp hrc6 ok h2
      have hCB : CS p M0 B r (bg r m s st) := by
        obtain ⟨c1, c2, c3, c4, c5, c6a, c6b, c6c⟩ := hC
        refine ⟨fun a q1 q2 => ?_, ?_, fun t ht => ⟨?_, ?_⟩, fun q hq => ?_, fun t ht => ?_, ?_, fun t ht => ?_, ?_⟩
        · rw [b2 a (by omega), f6 a q1 (by omega) (by omega) (by omega)]; exact c1 a q1 q2
        · rw [b2 p (by omega), w6]; rfl
        · rw [b2 (p + 10) (by omega), v10]
          show upd (M (p + 10)) s m t = upd st.1 s m t
          rw [upd_eq, upd_eq, (c3 t ht).1]
        · rw [b2 (p + 11) (by omega), v11]
          show upd (M (p + 11)) s _ t = upd st.2.1 s _ t
          rw [upd_eq, upd_eq, (c3 t ht).2]
        · have hq : q < st.2.2.2 + 1 := hq
          rw [b2 (p + 14) (by omega), v14]
          show upd (M (p + 14)) st.2.2.2 _ q = upd st.2.2.1 st.2.2.2 _ q
          rw [upd_eq, upd_eq]
          by_cases e : q = st.2.2.2
          · rw [if_pos e, if_pos e]
          · rw [if_neg e, if_neg e, c4 q (by omega)]
        · rw [b2 (p + 13) (by omega), f6 (p + 13) (by omega) (by omega) (by omega) (by omega)]; exact c5 t ht
        · rw [b2 p (by omega), w8]
          unfold imx
          split <;> grind
        · rw [b2 p (by omega), w8]
          show upd st.2.1 s (m + r (16 + s)) t ≤ _
          rw [upd_eq]
          unfold imx
          have := c6b t ht
          split <;> split <;> grind
        · rw [b2 p (by omega), w8]
          show _ ∨ ∃ t, t < stps r ∧ _ = upd st.2.1 s (m + r (16 + s)) t
          unfold imx
          by_cases hlt : M p 8 < m + r (16 + s)
          · rw [if_pos hlt]
            exact Or.inr ⟨s, h2, by rw [upd_eq, if_pos rfl]⟩
          · rw [if_neg hlt]
            rcases c6c with z | ⟨t, z1, z2⟩
            · exact Or.inl z
            · refine Or.inr ⟨t, z1, ?_⟩
              rw [upd_eq]
              by_cases ht2 : t = s
              · subst ht2
                rcases hP.1 t z1 with y | y
                · exfalso; grind
                · exact absurd h4.1 (by intro y2; grind)
              · rw [if_neg ht2]; exact z2
      have hIB : CI p B r m (bg r m s st) := by
        refine CI_bg ok hP hj hI h2 h4.1 ?_ ?_ (fun kd hkd => ?_)
        · rw [b2 p (by omega), w9]
        · rw [b2 p (by omega), w10]
        · rw [b3 kd hkd, f6 (p + 15) (by omega) (by omega) (by omega) (by omega)]
      obtain ⟨M', d1, d2⟩ := ih (c + 1) (bg r m s st) B (some (.int (Int32.ofNat s))) (by omega) hP' hCB hIB
      refine ⟨M', yL.V (e52_2 hp) ?_, d2⟩
      have eh : (rc M (p + 1) r) := rcM
      rw [rcM.2.1, s2, if_pos ((ofN_lt (by omega) (by omega)).mpr (by omega)), c53 hp h0 ok hP hC hI, yCi_I, if_neg h1, h3, if_pos hy, yx_ofN (by omega), yLet_eq, ← hA1]
      have m1 : A1 (p + 1 + 2) s = r (16 + s) := by
        rw [hA1, yU_ne (by omega)]; exact (rcM.2.2.2.2.2.1 s h2).1
      rw [if_pos hy, if_pos hy, m1, yLet_eq, ← hA2]
      have m2 : A2 p 6 = Int32.ofNat st.2.2.2 := by
        rw [hA2, yU_ne (by omega), hA1, yU_ne (by omega)]; exact hC.2.1
      rw [m2, if_pos (yin_ofN hkl (by omega)), yLet_eq, yx_ofN (by omega), ← hA3]
      have m3 : A3 p 6 = Int32.ofNat st.2.2.2 := by rw [w3]; exact hC.2.1
      rw [m3, yLet_eq, ofN_succ, ← hA4]
      have m4 : A4 p 8 = M p 8 := by rw [hA4, yU_at, upd_eq, if_neg (by omega), w3]
      have m4b : A4 (p + 11) s = m + r (16 + s) := by
        rw [hA4, yU_ne (by omega), hA3, yU_ne (by omega), hA2, yU_at, upd_eq, if_pos rfl]
      rw [if_pos hy, m4, m4b, yLet_eq]
      have e5 : yU A4 p 8 (if M p 8 < m + r (16 + s) then m + r (16 + s) else M p 8) = A5 := hA5.symm
      rw [e5, if_pos hy]
      have m5 : A5 p 10 = M p 10 := by
        rw [hA5, yU_at, upd_eq, if_neg (by omega), hA4, yU_at, upd_eq, if_neg (by omega), w3]
      have m5b : A5 (p + 1 + 4) s = r (44 + s) := by
        rw [hA5, yU_ne (by omega), hA4, yU_ne (by omega), hA3, yU_ne (by omega), hA2, yU_ne (by omega), hA1, yU_ne (by omega)]
        exact (rcM.2.2.2.2.2.1 s h2).2.2.1
      rw [m5, m5b, yLet_eq, ← hA6, b1, yCv_V, ofN_succ]
      exact d1
theorem c56 {a o m : Int32} {M : yM} : yX 56 0 [some (.int a), some (.int o), some (.int m)] [] M 0 0 = yI (if o ≤ m then a else if a = -1 then o else if o < a then o else a) M := by
  refine yL.I e56 ?_
  split
  · rfl
  · split
    · rfl
    · split <;> rfl
theorem c55 (hp : yP p) (h0 : rc M0 (p + 1) r) (ok : rok r) {m : Int32} {j : Nat} (hj : j ≤ 29) {st : yPl} (hP : Pin r m j st) {M : yM} (hC : CS p M0 M r st) : yX 55 0 [some (.ref p), some (.int m), none, none, none] [] M 0 0 = yI (Slt r st.1 st.2.1 m) M := by
  obtain ⟨s1, s2⟩ := roks ok
  have hk := Pin_kle hP
  have rcM := CS_rc hC h0
  have loop : ∀ d i (a : Int32) o4, i + d = st.2.2.2 → isN r st.1 st.2.1 m a (fun s => ∃ q, q < i ∧ st.2.2.1 q = Int32.ofNat s ∧ s < stps r) → ∃ v, yX 55 4 [some (.ref p), some (.int m), some (.int a), some (.int (Int32.ofNat i)), o4] [] M 0 0 = yI v M ∧ isN r st.1 st.2.1 m v (fun s => ∃ q, q < st.2.2.2 ∧ st.2.2.1 q = Int32.ofNat s ∧ s < stps r) := by
    intro d
    induction d with
    | zero =>
      intro i a o4 hi hN
      have hi : i = st.2.2.2 := hi
      subst hi
      refine ⟨a, yL.I (e55_4 hp) ?_, hN⟩
      rw [hC.2.1, if_neg (by rw [ofN_lt (by omega) (by omega)]; omega)]
    | succ d ih =>
      intro i a o4 hi hN
      obtain ⟨s, hs0, hos, hbs⟩ := hP.2.1 i (by omega)
      have hoi : M (p + 14) i = Int32.ofNat s := (hC.2.2.2.1 i (by omega)).trans hos
      have hes := (hC.2.2.1 s hs0).2
      have hyi : yinB (Int32.ofNat i) 14 = true := yin_ofN (by omega) (by omega)
      have hys : yinB (Int32.ofNat s) 14 = true := yin_ofN (by omega) (by omega)
      obtain ⟨p1, p2, p3, p4, p5, p6, p7, p8⟩ := Pin_e ok hP hj hs0 hbs
      have e44' := c44 hp rcM (show s < 14 by omega)
      rw [hes] at e44'
      obtain ⟨a2, ha2⟩ : ∃ a2, a2 = (if st.2.1 s + r 92 ≤ m then (if st.2.1 s ≤ m then a else if a = -1 then st.2.1 s else if st.2.1 s < a then st.2.1 s else a) else if (if st.2.1 s ≤ m then a else if a = -1 then st.2.1 s else if st.2.1 s < a then st.2.1 s else a) = -1 then st.2.1 s + r 92 else if st.2.1 s + r 92 < (if st.2.1 s ≤ m then a else if a = -1 then st.2.1 s else if st.2.1 s < a then st.2.1 s else a) then st.2.1 s + r 92 else (if st.2.1 s ≤ m then a else if a = -1 then st.2.1 s else if st.2.1 s < a then st.2.1 s else a)) := ⟨_, rfl⟩
      have hN2 : isN r st.1 st.2.1 m a2 (fun t => ∃ q, q < i + 1 ∧ st.2.2.1 q = Int32.ofNat t ∧ t < stps r) := by
        have hq : ∀ t, (∃ q, q < i + 1 ∧ st.2.2.1 q = Int32.ofNat t ∧ t < stps r) → t = s ∨ ∃ q, q < i ∧ st.2.2.1 q = Int32.ofNat t ∧ t < stps r := by
          rintro t ⟨q, q1, q2, q3⟩
          by_cases e : q = i
          · subst e
            rw [hos] at q2
            left
            rw [← yx_ofN (show t < 2147483648 by omega), ← q2, yx_ofN (by omega)]
          · exact Or.inr ⟨q, by omega, q2, q3⟩
        have hself : ∃ q, q < i + 1 ∧ st.2.2.1 q = Int32.ofNat s ∧ s < stps r := ⟨i, by omega, hos, hs0⟩
        have hup : ∀ t, (∃ q, q < i ∧ st.2.2.1 q = Int32.ofNat t ∧ t < stps r) → ∃ q, q < i + 1 ∧ st.2.2.1 q = Int32.ofNat t ∧ t < stps r := by
          rintro t ⟨q, q1, q2⟩
          exact ⟨q, by omega, q2⟩
        -- the new value: the least of the old one and the step's ends behind m
        have hv : (a2 = a ∧ (m < st.2.1 s → ¬ a = -1 ∧ a ≤ st.2.1 s) ∧ (m < st.2.1 s + r 92 → ¬ a = -1 ∧ a ≤ st.2.1 s + r 92)) ∨ (m < a2 ∧ (a2 = st.2.1 s ∨ a2 = st.2.1 s + r 92) ∧ (a = -1 ∨ a2 ≤ a) ∧ (m < st.2.1 s → a2 ≤ st.2.1 s) ∧ (m < st.2.1 s + r 92 → a2 ≤ st.2.1 s + r 92)) := by
          by_cases g1 : st.2.1 s ≤ m
          · rw [if_pos g1] at ha2
            by_cases g2 : st.2.1 s + r 92 ≤ m
            · rw [if_pos g2] at ha2
              exact Or.inl ⟨ha2, fun z => by grind, fun z => by grind⟩
            · rw [if_neg g2] at ha2
              by_cases g3 : a = -1
              · rw [if_pos g3] at ha2
                exact Or.inr ⟨by grind, Or.inr ha2, Or.inl g3, fun z => by grind, fun z => by grind⟩
              · rw [if_neg g3] at ha2
                by_cases g4 : st.2.1 s + r 92 < a
                · rw [if_pos g4] at ha2
                  exact Or.inr ⟨by grind, Or.inr ha2, Or.inr (by grind), fun z => by grind, fun z => by grind⟩
                · rw [if_neg g4] at ha2
                  exact Or.inl ⟨ha2, fun z => by grind, fun z => ⟨g3, by grind⟩⟩
          · have g2 : ¬ st.2.1 s + r 92 ≤ m := by grind
            rw [if_neg g1, if_neg g2] at ha2
            by_cases g3 : a = -1
            · rw [if_pos g3] at ha2
              have g5 : ¬ st.2.1 s = -1 := by grind
              have g6 : ¬ st.2.1 s + r 92 < st.2.1 s := by grind
              rw [if_neg g5, if_neg g6] at ha2
              exact Or.inr ⟨by grind, Or.inl ha2, Or.inl g3, fun z => by grind, fun z => by grind⟩
            · rw [if_neg g3] at ha2
              by_cases g4 : st.2.1 s < a
              · rw [if_pos g4] at ha2
                have g5 : ¬ st.2.1 s = -1 := by grind
                have g6 : ¬ st.2.1 s + r 92 < st.2.1 s := by grind
                rw [if_neg g5, if_neg g6] at ha2
                exact Or.inr ⟨by grind, Or.inl ha2, Or.inr (by grind), fun z => by grind, fun z => by grind⟩
              · rw [if_neg g4, if_neg g3] at ha2
                have g6 : ¬ st.2.1 s + r 92 < a := by grind
                rw [if_neg g6] at ha2
                exact Or.inl ⟨ha2, fun z => ⟨g3, by grind⟩, fun z => ⟨g3, by grind⟩⟩
        clear ha2
        rcases hN with ⟨k1, k2⟩ | ⟨k1, ⟨t, k2, k3⟩, k4⟩
        · rcases hv with ⟨v1, v2, v3⟩ | ⟨v1, v2, v3, v4, v5⟩
          · refine Or.inl ⟨v1.trans k1, fun t z => ?_⟩
            rcases hq t z with z | z
            · subst z
              refine ⟨?_, ?_⟩
              · apply Classical.byContradiction
                intro y
                exact (v2 (by grind)).1 k1
              · apply Classical.byContradiction
                intro y
                exact (v3 (by grind)).1 k1
            · exact k2 t z
          · refine Or.inr ⟨v1, ⟨s, hself, v2⟩, fun t z => ?_⟩
            rcases hq t z with z | z
            · subst z; exact ⟨v4, v5⟩
            · have := k2 t z
              exact ⟨fun y => by grind, fun y => by grind⟩
        · rcases hv with ⟨v1, v2, v3⟩ | ⟨v1, v2, v3, v4, v5⟩
          · subst v1
            refine Or.inr ⟨k1, ⟨t, hup t k2, k3⟩, fun t z => ?_⟩
            rcases hq t z with z | z
            · subst z; exact ⟨fun y => (v2 y).2, fun y => (v3 y).2⟩
            · exact k4 t z
          · refine Or.inr ⟨v1, ⟨s, hself, v2⟩, fun t z => ?_⟩
            rcases hq t z with z | z
            · subst z; exact ⟨v4, v5⟩
            · have := k4 t z
              have ha1 : ¬ a = -1 := by grind
              have := v3.resolve_left ha1
              exact ⟨fun y => by grind, fun y => by grind⟩
      obtain ⟨v, d1, d2⟩ := ih (i + 1) a2 (some (.int (Int32.ofNat s))) (by omega) hN2
      refine ⟨v, yL.I (e55_4 hp) ?_, d2⟩
      rw [hC.2.1, if_pos ((ofN_lt (by omega) (by omega)).mpr (by omega)), if_pos hyi, yx_ofN (show i < 2147483648 by omega), hoi, if_pos hys, yx_ofN (show s < 2147483648 by omega), hes, c56, yCi_I, e44', yCi_I, c56, yCi_I, ofN_succ, ← ha2]
      exact d1
  obtain ⟨v, h1, h2⟩ := loop st.2.2.2 0 (-1) none (by omega) (Or.inl ⟨rfl, fun s ⟨q, z, _⟩ => absurd z (Nat.not_lt_zero q)⟩)
  have hu := isN_uniq hP.2.2.2.2.1 h2 (Slt_isN ok hP hj) (fun s => by
    constructor
    · rintro ⟨q, q1, q2, q3⟩
      obtain ⟨s', hs0, hos, hbs⟩ := hP.2.1 q q1
      rw [hos] at q2
      have : s' = s := by rw [← yx_ofN (show s' < 2147483648 by omega), q2, yx_ofN (by omega)]
      subst this
      exact ⟨hs0, hbs⟩
    · intro ⟨z1, z2⟩
      apply Classical.byContradiction
      intro hno
      have hc := hP.2.2.1 (fun t => decide (t = s))
      have hz : cnt (fun q => (fun t => decide (t = s)) (yx (st.2.2.1 q)) = true) st.2.2.2 = 0 := (cnt_0 _ _).mpr (fun q hq z => by
        obtain ⟨t, ht0, hot, hbt⟩ := hP.2.1 q hq
        have z : decide (yx (st.2.2.1 q) = s) = true := z
        rw [decide_eq_true_iff, hot, yx_ofN (by omega)] at z
        exact hno ⟨q, hq, by rw [hot, z], z1⟩)
      rw [hz] at hc
      exact (cnt_0 _ _).mp hc.symm s z1 ⟨z2, decide_eq_true rfl⟩)
  rw [← hu]
  exact yL.I (e55 hp) h1
theorem c45_l (hp : yP p) (h0 : rc M0 (p + 1) r) (ok : rok r) : ∀ f j m st M, f + j = 29 → ¬ m = -1 → Pin r m j st → CS p M0 M r st → ∃ M', yX 45 51 [some (.ref p), some (.int m), some (.int (Int32.ofNat j))] [] M 0 0 = yV M' ∧ CS p M0 M' r (Sou r f m st) ∧ M' p 7 = Sstk r (Sou r f m st) := by
  obtain ⟨s1, s2⟩ := roks ok
  have fin : ∀ st M, CS p M0 M r st → CS p M0 (yU M p 7 (r 15 - Int32.ofNat st.2.2.2)) r st ∧ (yU M p 7 (r 15 - Int32.ofNat st.2.2.2)) p 7 = Sstk r st := by
    intro st M ⟨c1, c2, c3, c4, c5, c6⟩
    refine ⟨⟨fun a q1 q2 => ?_, ?_, fun t ht => ?_, fun q hq => ?_, fun t ht => ?_, ?_⟩, ?_⟩
    · rw [yU_ne q1]; exact c1 a q1 q2
    · rw [yU_at, upd_eq, if_neg (by omega)]; exact c2
    · rw [yU_ne (by omega), yU_ne (by omega)]; exact c3 t ht
    · rw [yU_ne (by omega)]; exact c4 q hq
    · rw [yU_ne (by omega)]; exact c5 t ht
    · rw [yU_at, upd_eq, if_neg (by omega)]; exact c6
    · rw [yU_at, upd_eq, if_pos rfl]; rfl
  have hend : ∀ j m st M, CS p M0 M r st → j ≤ 29 → (m = -1 ∨ j = 29) → yX 45 51 [some (.ref p), some (.int m), some (.int (Int32.ofNat j))] [] M 0 0 = yV (yU M p 7 (r 15 - Int32.ofNat st.2.2.2)) := by
    intro j m st M hC hj hm
    refine yL.V (e45_51 hp) ?_
    rw [(CS_rc hC h0).2.1, hC.2.1, yLet_eq]
    by_cases h1 : m = -1
    · rw [if_pos h1]
      split <;> rfl
    · have : j = 29 := hm.resolve_left h1
      subst this
      rw [if_neg (by decide)]
  intro f
  induction f with
  | zero =>
    intro j m st M hj hm hP hC
    obtain ⟨f1, f2⟩ := fin st M hC
    exact ⟨_, hend j m st M hC (by omega) (Or.inr (by omega)), f1, f2⟩
  | succ f ih =>
    intro j m st M hfj hm hP hC
    have hj : j ≤ 29 := by omega
    obtain ⟨M1, a1, a2, a3⟩ := c50 hp h0 ok hP hj hC
    obtain ⟨M2, b1, b2⟩ := c52 hp h0 ok hj (stps r) 0 st M1 none (by omega) hP a2 a3
    have hP2 := Pin_Sin ok hj (stps r) st hP
    have b0 : yX 52 0 [some (.ref p), some (.int m), none, none] [] M1 0 0 = yV M2 := yL.V (e52 hp) b1
    have hstep : yL (yX 45 51 [some (.ref p), some (.int (Slt r (Sin r m (stps r) st).1 (Sin r m (stps r) st).2.1 m)), some (.int (Int32.ofNat (j + 1)))] [] M2 0 0) (yX 45 51 [some (.ref p), some (.int m), some (.int (Int32.ofNat j))] [] M 0 0) := by
      refine yL.fr (e45_51 hp) ?_
      have hle : Int32.ofNat j ≤ 28 := (ofN_leI (b := 28) (by omega) (by omega)).mpr (by omega)
      rw [if_pos hle, if_neg hm, a1, yCv_V, b0, yCv_V, c55 hp h0 ok hj hP2 b2, yCi_I, ofN_succ]
    show ∃ M', _ ∧ CS p M0 M' r (if Slt r (Sin r m (stps r) st).1 (Sin r m (stps r) st).2.1 m = -1 then Sin r m (stps r) st else Sou r f (Slt r (Sin r m (stps r) st).1 (Sin r m (stps r) st).2.1 m) (Sin r m (stps r) st)) ∧ M' p 7 = Sstk r (if Slt r (Sin r m (stps r) st).1 (Sin r m (stps r) st).2.1 m = -1 then Sin r m (stps r) st else Sou r f (Slt r (Sin r m (stps r) st).1 (Sin r m (stps r) st).2.1 m) (Sin r m (stps r) st))
    by_cases hv : Slt r (Sin r m (stps r) st).1 (Sin r m (stps r) st).2.1 m = -1
    · rw [if_pos hv]
      obtain ⟨f1, f2⟩ := fin _ _ b2
      exact ⟨_, yL.V hstep (hend (j + 1) _ _ M2 b2 (by omega) (Or.inl hv)), f1, f2⟩
    · rw [if_neg hv]
      by_cases hj2 : j = 28
      · have hf : f = 0 := by omega
        subst hf
        obtain ⟨f1, f2⟩ := fin _ _ b2
        exact ⟨_, yL.V hstep (hend (j + 1) _ _ M2 b2 (by omega) (Or.inr (by omega))), f1, f2⟩
      · obtain ⟨hPn, _⟩ := Pin_next ok hP2 (by omega) hv
        obtain ⟨M', d1, d2⟩ := ih (j + 1) _ _ M2 (by omega) hv hPn b2
        exact ⟨M', yL.V hstep d1, d2⟩
theorem Swh_of {st : yPl} {x : Int32} (h : 0 ≤ x ∧ (∀ s, s < stps r → st.2.1 s ≤ x) ∧ (x = 0 ∨ ∃ s, s < stps r ∧ x = st.2.1 s)) : x = Swh r st := by
  have hS := yfo_I (f := fun s a => imx a (st.2.1 s)) (I := fun i a => 0 ≤ a ∧ (∀ s, s < i → st.2.1 s ≤ a) ∧ (a = 0 ∨ ∃ s, s < i ∧ a = st.2.1 s)) (stps r) 0 (0 : Int32) (fun i a _ _ ⟨h1, h2, h3⟩ => by
    show 0 ≤ imx a (st.2.1 i) ∧ (∀ s, s < i + 1 → st.2.1 s ≤ imx a (st.2.1 i)) ∧ (imx a (st.2.1 i) = 0 ∨ ∃ s, s < i + 1 ∧ imx a (st.2.1 i) = st.2.1 s)
    unfold imx
    by_cases hlt : a < st.2.1 i
    · rw [if_pos hlt]
      refine ⟨by grind, fun s hs0 => ?_, Or.inr ⟨i, by omega, rfl⟩⟩
      by_cases e : s = i
      · rw [e]; grind
      · have := h2 s (by omega); grind
    · rw [if_neg hlt]
      refine ⟨h1, fun s hs0 => ?_, ?_⟩
      · by_cases e : s = i
        · rw [e]; grind
        · exact h2 s (by omega)
      · rcases h3 with h3 | ⟨s, h3, h4⟩
        · exact Or.inl h3
        · exact Or.inr ⟨s, by omega, h4⟩) ⟨by decide, fun s z => absurd z (Nat.not_lt_zero s), Or.inl rfl⟩
  have hS : 0 ≤ Swh r st ∧ (∀ s, s < 0 + stps r → st.2.1 s ≤ Swh r st) ∧ (Swh r st = 0 ∨ ∃ s, s < 0 + stps r ∧ Swh r st = st.2.1 s) := hS
  rw [Nat.zero_add] at hS
  generalize Swh r st = y at hS ⊢
  obtain ⟨h1, h2, h3⟩ := h
  obtain ⟨g1, g2, g3⟩ := hS
  rcases h3 with h3 | ⟨s, h3, h4⟩
  · rcases g3 with g3 | ⟨t, g3, g4⟩
    · rw [h3, g3]
    · have := h2 t g3; grind
  · have := g2 s h3
    rcases g3 with g3 | ⟨t, g3, g4⟩
    · grind
    · have := h2 t g3; grind
theorem c45 (hp : yP p) {M : yM} (h0 : rc M (p + 1) r) (ok : rok r) (ha : acy r) : ∃ M', yX 45 0 [some (.ref p), none, none] [] M 0 0 = yV M' ∧ CS p M M' r (Spl r) ∧ M' p 7 = Sstk r (Spl r) ∧ M' p 8 = Swh r (Spl r) := by
  obtain ⟨s1, s2⟩ := roks ok
  obtain ⟨M1, a1, a2, a3⟩ := c46 hp h0 ok ha
  have hrc1 : rc M1 (p + 1) r := rc_fr h0 (fun a h1 h2 => a2 a (by omega) (by omega))
  have hMr : ∀ fb fe : yRow, rc (yUa (yUa (yU (yU M1 p 6 0) p 8 0) (p + 10) fb) (p + 11) fe) (p + 1) r := fun fb fe => rc_fr hrc1 (fun a h1 h2 => by rw [yUa_ne (by omega), yUa_ne (by omega), yU_ne (by omega), yU_ne (by omega)])
  have fin : ∀ (fb fe : yRow) (o : Option Value), (∀ s, s < stps r → fb s = -1 ∧ fe s = -1) → ∃ M', yX 45 16 [some (.ref p), some (.int (Int32.ofNat (stps r))), o] [] (yUa (yUa (yU (yU M1 p 6 0) p 8 0) (p + 10) fb) (p + 11) fe) 0 0 = yV M' ∧ CS p M M' r (Spl r) ∧ M' p 7 = Sstk r (Spl r) := by
    intro fb fe o hf
    have hCS : CS p M (yUa (yUa (yU (yU M1 p 6 0) p 8 0) (p + 10) fb) (p + 11) fe) r st0 := by
      refine ⟨fun a q1 q2 => ?_, ?_, fun t ht => ⟨?_, ?_⟩, fun q hq => absurd hq (Nat.not_lt_zero q), fun t ht => ?_, ?_⟩
      · rw [yUa_ne (by omega), yUa_ne (by omega), yU_ne q1, yU_ne q1]; exact a2 a (by omega) (by omega)
      · rw [yUa_ne (by omega), yUa_ne (by omega), yU_at, upd_eq, if_neg (by omega), yU_at, upd_eq, if_pos rfl]; rfl
      · rw [yUa_ne (by omega), yUa_at]; exact (hf t ht).1
      · rw [yUa_at]; exact (hf t ht).2
      · rw [yUa_ne (by omega), yUa_ne (by omega), yU_ne (by omega), yU_ne (by omega)]; exact a3 t ht
      · rw [yUa_ne (by omega), yUa_ne (by omega), yU_at, upd_eq, if_pos rfl]
        exact ⟨by decide, fun s _ => by show (-1 : Int32) ≤ 0; decide, Or.inl rfl⟩
    obtain ⟨M', b1, b2⟩ := c45_l hp h0 ok 29 0 0 st0 _ rfl (by decide) Pin_st0 hCS
    refine ⟨M', yL.V (e45_16 hp) ?_, b2⟩
    rw [(hMr fb fe).2.1, s2, if_neg (by rw [ofN_lt (by omega) (by omega)]; omega)]
    exact b1
  have loop : ∀ d n (fb fe : yRow), n + d = stps r → yL (yX 45 16 [some (.ref p), some (.int (Int32.ofNat (stps r))), none] [] (yUa (yUa (yU (yU M1 p 6 0) p 8 0) (p + 10) (yfo (fun n f => upd f n (-1)) n d fb)) (p + 11) (yfo (fun n f => upd f n (-1)) n d fe)) 0 0) (yX 45 16 [some (.ref p), some (.int (Int32.ofNat n)), none] [] (yUa (yUa (yU (yU M1 p 6 0) p 8 0) (p + 10) fb) (p + 11) fe) 0 0) := by
    intro d
    induction d with
    | zero =>
      intro n fb fe h
      have h : n = stps r := h
      subst h
      exact yL.rf
    | succ d ih =>
      intro n fb fe h
      refine fun q hq => (e45_16 hp) q ?_
      have h2 := ih (n + 1) (upd fb n (-1)) (upd fe n (-1)) (by omega) q hq
      have hy : yinB (Int32.ofNat n) 14 = true := yin_ofN (by omega) (by omega)
      rw [(hMr fb fe).2.1, s2, if_pos ((ofN_lt (by omega) (by omega)).mpr (by omega)), if_pos hy, yLet_eq, if_pos hy, yLet_eq, yx_ofN (by omega), ofN_succ]
      have e : yU (yU (yUa (yUa (yU (yU M1 p 6 0) p 8 0) (p + 10) fb) (p + 11) fe) (p + 10) n (-1)) (p + 11) n (-1) = yUa (yUa (yU (yU M1 p 6 0) p 8 0) (p + 10) (upd fb n (-1))) (p + 11) (upd fe n (-1)) := by
        funext a
        by_cases h1 : a = p + 11
        · subst h1
          rw [yU_at, yUa_at, yU_ne (by omega), yUa_at]
        · by_cases h2 : a = p + 10
          · subst h2
            rw [yU_ne h1, yU_at, yUa_ne h1, yUa_at, yUa_ne h1, yUa_at]
          · rw [yU_ne h1, yU_ne h2, yUa_ne h1, yUa_ne h2, yUa_ne h1, yUa_ne h2]
      rw [e]
      exact h2
  have hv : ∀ f : yRow, ∀ s, s < stps r → yfo (fun n f => upd f n (-1)) 0 (stps r) f s = -1 := fun f s hs0 => by
    have h := yfo_upd (fun _ => (-1 : Int32)) 0 (stps r) 0 f s
    simp only [Nat.zero_add] at h
    rw [h, if_pos (by omega)]
  obtain ⟨M', d1, d2, d3⟩ := fin (yfo (fun n f => upd f n (-1)) 0 (stps r) ((yU (yU M1 p 6 0) p 8 0) (p + 10))) (yfo (fun n f => upd f n (-1)) 0 (stps r) ((yU (yU M1 p 6 0) p 8 0) (p + 11))) none (fun s hs0 => ⟨hv _ s hs0, hv _ s hs0⟩)
  refine ⟨M', yL.V (e45 hp) ?_, d2, d3, Swh_of d2.2.2.2.2.2⟩
  rw [a1, yCv_V, yLet_eq, yLet_eq]
  have e : yU (yU M1 p 6 0) p 8 0 = yUa (yUa (yU (yU M1 p 6 0) p 8 0) (p + 10) ((yU (yU M1 p 6 0) p 8 0) (p + 10))) (p + 11) ((yU (yU M1 p 6 0) p 8 0) (p + 11)) := by
    rw [yUa_self, yUa_self]
  have hl := loop (stps r) 0 ((yU (yU M1 p 6 0) p 8 0) (p + 10)) ((yU (yU M1 p 6 0) p 8 0) (p + 11)) (by omega)
  rw [yUa_self, yUa_self] at hl
  exact yL.V hl d1
end PLD
