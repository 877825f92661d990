/-! the class's reads: the first use, during, an ingredient -/
abbrev Fdur (r : yRow) (m w : Int32) (s : Nat) : Prop := if w = 0 then (r (44 + s) = 1 ∧ on (Spl r).1 (Spl r).2.1 s m) else if w = 9 then dn (Spl r).1 (Spl r).2.1 s m else if w < 5 then (r (30 + s) = w - 1 ∧ on (Spl r).1 (Spl r).2.1 s m) else (r (30 + s) = w - 5 ∧ wet r (Spl r).1 (Spl r).2.1 s m)
section RDD
variable {M0 M1 : yM} {r : yRow}
theorem c41 (h0 : rc M0 11 r) (ok : rok r) {m' : Int32} (hP : Pin r m' 29 (Spl r)) (hC : CS 10 M0 M1 r (Spl r)) {i : Int32} : yX 41 0 [some (.ref 10), some (.int i), none] [] M1 0 0 = yI (Sfu r i) M1 := by
  have h14 := (roks ok).1
  have hk := Pin_kle hP
  have rc1 : rc M1 11 r := rc_fr h0 (fun a b1 b2 => CS_fr hC a (by omega) (by omega))
  have e6 : M1 10 6 = Int32.ofNat (Spl r).2.2.2 := hC.2.1
  have key : ∀ d q, q + d = (Spl r).2.2.2 → (∀ q', q' < q → ¬ hs (r (58 + yx ((Spl r).2.2.1 q'))) i) → yX 41 2 [some (.ref 10), some (.int i), some (.int (Int32.ofNat q))] [] M1 0 0 = yI (Sfu r i) M1 := by
    intro d
    induction d with
    | zero =>
      intro q hq hno
      refine yL.I (e41_2 yP10) ?_
      rw [e6, if_neg (by rw [ofN_lt (by omega) (by omega)]; omega)]
      congr 1
      refine isF_uniq (Or.inl ⟨rfl, fun s hs0 hu => ?_⟩) (Sfu_isF ok i)
      apply Classical.byContradiction
      intro hb
      obtain ⟨q', h1, h2⟩ := Pin_place ok hP hs0 hb
      refine hno q' (by omega) ?_
      rw [h2, yx_ofN (by omega)]
      exact hu
    | succ d ih =>
      intro q hq hno
      obtain ⟨t, t1, t2, t3⟩ := hP.2.1 q (by omega)
      have e24 : M1 (10 + 14) q = (Spl r).2.2.1 q := hC.2.2.2.1 q (by omega)
      have e58 : M1 ((10 + 1) + 5) t = r (58 + t) := (rc1.2.2.2.2.2.1 t t1).2.2.2.1
      have e20 : M1 (10 + 10) t = (Spl r).1 t := (hC.2.2.1 t t1).1
      refine yL.I (e41_2 yP10) ?_
      rw [e6, if_pos (by rw [ofN_lt (by omega) (by omega)]; omega), if_pos (yin_ofN (show q < 14 by omega) (by omega)), yx_ofN (show q < 2147483648 by omega), e24, t2, if_pos (yin_ofN (show t < 14 by omega) (by omega)), yx_ofN (show t < 2147483648 by omega), e58, c99, yCi_I, if_pos (yin_ofN (show q < 14 by omega) (by omega)), e24, t2, if_pos (yin_ofN (show t < 14 by omega) (by omega)), yx_ofN (show t < 2147483648 by omega), e20]
      simp only [yb_0]
      by_cases hu : hs (r (58 + t)) i
      · rw [if_neg (not_not_intro hu)]
        congr 1
        refine isF_uniq (Or.inr ⟨t, t1, hu, t3, rfl, fun s hs0 hus hb => ?_⟩) (Sfu_isF ok i)
        obtain ⟨q', h1, h2⟩ := Pin_place ok hP hs0 hb
        have hqq : q ≤ q' := by
          apply Classical.byContradiction
          intro hlt
          refine hno q' (by omega) ?_
          rw [h2, yx_ofN (by omega)]
          exact hus
        have := Ord_Spl ok q q' hqq h1
        rw [t2, h2, yx_ofN (by omega), yx_ofN (by omega)] at this
        exact this
      · rw [if_pos hu, ofN_succ]
        refine ih (q + 1) (by omega) (fun q' hq' => ?_)
        by_cases e : q' = q
        · rw [e, t2, yx_ofN (by omega)]; exact hu
        · exact hno q' (by omega)
  exact yL.I (e41 yP10) (key _ 0 (Nat.zero_add _) (fun q' h => absurd h (Nat.not_lt_zero q')))
theorem c42 (h0 : rc M0 11 r) (ok : rok r) {m' : Int32} (hP : Pin r m' 29 (Spl r)) (hC : CS 10 M0 M1 r (Spl r)) {m w : Int32} (hw : bet w 0 9) : yX 42 0 [some (.ref 10), some (.int m), some (.int w), none, none] [] M1 0 0 = yI (Sdur r m w) M1 := by
  have h14 := (roks ok).1
  have hk := Pin_kle hP
  have e6 : M1 10 6 = Int32.ofNat (Spl r).2.2.2 := hC.2.1
  have key := yloop (H := fun n a => yX 42 5 [some (.ref 10), some (.int m), some (.int w), some (.int a), some (.int (Int32.ofNat n))] [] M1 0 0) (f := fun q a => a + yb (Fdur r m w (yx ((Spl r).2.2.1 q)))) (N := (Spl r).2.2.2) (res := fun a => (.inl (some (.int a)), M1)) (fun q a hq => by
      obtain ⟨t, t1, t2, t3⟩ := hP.2.1 q (by omega)
      have e24 : M1 (10 + 14) q = (Spl r).2.2.1 q := hC.2.2.2.1 q (by omega)
      refine yL.fr (e42_5 yP10) ?_
      rw [e6, if_pos (by rw [ofN_lt (by omega) (by omega)]; omega), if_pos (yin_ofN (by omega) (by omega)), yx_ofN (show q < 2147483648 by omega), e24, t2, c43 h0 ok hP hC t1 t3 hw, yCi_I, c98, yCi_I, ofN_succ, yx_ofN (show t < 2147483648 by omega)]) (fun a => by
      refine yL.I (e42_5 yP10) ?_
      rw [e6, if_neg (by rw [ofN_lt (by omega) (by omega)]; omega)])
  have k2 : yX 42 0 [some (.ref 10), some (.int m), some (.int w), none, none] [] M1 0 0 = yI (yfo (fun q a => a + yb (Fdur r m w (yx ((Spl r).2.2.1 q)))) 0 (Spl r).2.2.2 0) M1 := yL.I (e42 yP10) (key _ 0 0 (Nat.zero_add _))
  rw [k2]
  congr 1
  rw [yfo_cnt (fun q => Fdur r m w (yx ((Spl r).2.2.1 q)))]
  have hp := hP.2.2.1 (fun s => decide (Fdur r m w s))
  rw [cnt_congr (fun q => Fdur r m w (yx ((Spl r).2.2.1 q))) (fun q => (fun s => decide (Fdur r m w s)) (yx ((Spl r).2.2.1 q)) = true) _ (fun q _ => (decide_eq_true_iff).symm), hp]
  unfold Sdur
  by_cases w0 : w = 0
  · rw [if_pos w0]
    congr 1
    refine cnt_congr _ _ _ (fun s hs0 => ?_)
    show _ ∧ decide _ = true ↔ _
    rw [decide_eq_true_iff]
    unfold Fdur
    rw [if_pos w0]
    exact ⟨fun z => z.2, fun z => ⟨z.2.1, z⟩⟩
  · by_cases w9 : w = 9
    · rw [if_neg w0, if_pos w9]
      congr 1
      refine cnt_congr _ _ _ (fun s hs0 => ?_)
      show _ ∧ decide _ = true ↔ _
      rw [decide_eq_true_iff]
      unfold Fdur
      rw [if_neg w0, if_pos w9]
      exact ⟨fun z => z.2, fun z => ⟨z.1, z⟩⟩
    · by_cases w5 : w < 5
      · rw [if_neg w0, if_neg w9, if_pos w5]
        congr 1
        refine cnt_congr _ _ _ (fun s hs0 => ?_)
        show _ ∧ decide _ = true ↔ _
        rw [decide_eq_true_iff]
        unfold Fdur
        rw [if_neg w0, if_neg w9, if_pos w5]
        exact ⟨fun z => z.2, fun z => ⟨z.2.1, z⟩⟩
      · rw [if_neg w0, if_neg w9, if_neg w5]
        congr 1
        refine cnt_congr _ _ _ (fun s hs0 => ?_)
        show _ ∧ decide _ = true ↔ _
        rw [decide_eq_true_iff]
        unfold Fdur
        rw [if_neg w0, if_neg w9, if_neg w5]
        exact ⟨fun z => z.2, fun z => ⟨z.2.1, z⟩⟩
variable {M : yM} {A : yAb}
theorem c69 (h : RelC M A) (hA : Aok A) {m w : Int32} : CR (yX 69 0 [some (.ref 7), some (.int m), some (.int w)] [] M 0 0) M (oDur A.1 m w) A := by
  have hc := h.1
  have ok := hA.1
  refine CR.of ?_ e69
  unfold oDur
  rw [c94, yCi_I]
  simp only [yb_0]
  by_cases q1 : 0 ≤ m ∧ m ≤ 1500
  · rw [if_neg (not_not_intro q1), c94, yCi_I]
    simp only [yb_0]
    by_cases q2 : 0 ≤ w ∧ w ≤ 9
    · obtain ⟨m', hP⟩ := Pin_Spl ok
      obtain ⟨M1, p1, p2, p3, p4⟩ := c45 yP10 (M := M) hc ok hA.2.1
      rw [if_neg (not_not_intro q2), if_pos ⟨q1, q2⟩, c92_1, yCv_V, p1, yCv_V, c42 hc ok hP p2 q2, yCi_I]
      exact CR.rdf h (CS_fr p2) rfl
    · rw [if_pos q2, if_neg (fun z => q2 z.2), c92_0]
      exact CR.th h rfl
  · rw [if_pos q1, if_neg (fun z => q1 z.1), c92_0]
    exact CR.th h rfl
theorem c63 (h : RelC M A) (hA : Aok A) {i w : Int32} : CR (yX 63 0 [some (.ref 7), some (.int i), some (.int w), none] [] M 0 0) M (oIng A.1 i w) A := by
  have hc := h.1
  have ok := hA.1
  refine CR.of ?_ e63
  unfold oIng
  rw [c3 yC11 hc, yCi_I, c91]
  by_cases q1 : bet i 0 (A.1 0 - 1)
  · rw [if_pos q1, if_pos q1, yCv_V, c94, yCi_I, c92]
    by_cases q2 : bet w 0 6
    · obtain ⟨i1, i2⟩ := ing_ix ok q1
      have hm := (rokm ok).1
      have e3 : M 11 3 = A.1 14 := hc.2.2.2.1
      have e12 : M 12 (yx i) = A.1 (1 + yx i) := hc.2.2.2.2.1 _ i1
      have k11 := c11 yC11 hc ok i1 (w := A.1 14)
      have k12 := c12 yC11 hc ok i1 (rok14 ok)
      have k14 := c14_all yC11 hc ok i1 (rok14 ok)
      rw [← i2] at k11 k12 k14
      have hyi := yin_of (n := 12) ⟨show yx i < 12 by omega, i2⟩ (by omega)
      obtain ⟨m', hP⟩ := Pin_Spl ok
      obtain ⟨M1, p1, p2, p3, p4⟩ := c45 yP10 (M := M) hc ok hA.2.1
      rw [if_pos q2, if_pos q2, yCv_V, if_pos hyi, e3, k11, yCi_I, k12, yCi_I, k14, yCi_I, yCi_I, k11, yCi_I, c17 yC11 hc ok, yCi_I, p1, yCv_V, c41 hc ok hP p2, yCi_I, e12]
      unfold Sing
      by_cases w0 : w = 0
      · rw [if_pos w0, if_pos w0]; exact CR.rd h rfl
      · by_cases w1 : w = 1
        · rw [if_neg w0, if_pos w1, if_neg w0, if_pos w1]; exact CR.rd h rfl
        · by_cases w2 : w = 2
          · rw [if_neg w0, if_neg w1, if_pos w2, if_neg w0, if_neg w1, if_pos w2]; exact CR.rd h rfl
          · by_cases w3 : w = 3
            · rw [if_neg w0, if_neg w1, if_neg w2, if_pos w3, if_neg w0, if_neg w1, if_neg w2, if_pos w3]; exact CR.rd h rfl
            · by_cases w4 : w = 4
              · rw [if_neg w0, if_neg w1, if_neg w2, if_neg w3, if_pos w4, if_neg w0, if_neg w1, if_neg w2, if_neg w3, if_pos w4]; exact CR.rd h rfl
              · by_cases w5 : w = 5
                · rw [if_neg w0, if_neg w1, if_neg w2, if_neg w3, if_neg w4, if_pos w5, if_neg w0, if_neg w1, if_neg w2, if_neg w3, if_neg w4, if_pos w5]; exact CR.rd h rfl
                · rw [if_neg w0, if_neg w1, if_neg w2, if_neg w3, if_neg w4, if_neg w5, if_neg w0, if_neg w1, if_neg w2, if_neg w3, if_neg w4, if_neg w5]; exact CR.rdf h (CS_fr p2) rfl
    · rw [if_neg q2, if_neg q2]
      exact CR.th h rfl
  · rw [if_neg q1, if_neg q1]
    exact CR.th h rfl
end RDD
