/-! kept: the steps, the ingredients -/
section KEPTW
variable {A : yAb} {M0 : yM}
theorem kept_226 (hA : Aok A) (hT : Atg A) : ∀ M nc ns o11 o12 o13 o14 o15 o16 o17 o18 o19, St M0 A M → nc ≤ 400 → ns ≤ 2400 → Ret (yX 137 226 [some (.ref 7), some (.int 1), some (.long (Sall A.1 (A.1 14)).toInt64), none, some (.int (Swh A.1 (Spl A.1))), some (.int 0), some (.long 0), none, some (.long 0), none, some (.int 0), o11, o12, o13, o14, o15, o16, o17, o18, o19] [] M nc ns) (fun o M' => o = .inl (some (.int 1)) ∧ St M0 A M') := by
  intro M nc ns o11 o12 o13 o14 o15 o16 o17 o18 o19 S hc hn
  obtain ⟨s1, s2⟩ := roks hA.1
  refine lp (P := fun n (t : t3) M nc ns => ∀ o11 o12 o13 o14 o15 o16 o17 o18 o19 : Option Value, Ret (yX 137 226 [some (.ref 7), some (.int 1), some (.long (Sall A.1 (A.1 14)).toInt64), none, some (.int (Swh A.1 (Spl A.1))), some (.int t.1), some (.long t.2.1), none, some (.long t.2.2), none, some (.int (Int32.ofNat n)), o11, o12, o13, o14, o15, o16, o17, o18, o19] [] M nc ns) (fun o M' => o = .inl (some (.int 1)) ∧ St M0 A M')) (I := fun n t => ∃ q, t.2.1 = Int64.ofNat q ∧ q ≤ 150 * n) (f := f3 A.1) (a0 := (0, 0, 0)) (N := stps A.1) (c := 200) (s := 1200) (c0 := nc) (s0 := ns) (M0 := M0) (A := A) ?_ ?_ ⟨0, rfl, Nat.le_refl _⟩ S (Nat.le_refl _) (Nat.le_refl _) o11 o12 o13 o14 o15 o16 o17 o18 o19
  · intro n t M nc' ns' hn0 hI S h1 h2
    obtain ⟨q, hq, hq2⟩ := hI
    have g4 := mN_le hA.1 hn0
    have hq3 : (f3 A.1 n t).2.1 = Int64.ofNat (q + mN A.1 n) := by
      show t.2.1 + (A.1 (16 + n)).toInt64 = _
      rw [hq, g4.2.2, i64n (by omega), l_add]
    refine ⟨⟨_, hq3, by omega⟩, fun hc2 => ?_⟩
    intro o11 o12 o13 o14 o15 o16 o17 o18 o19
    refine Ret.E (e137_226 ⟨by omega, by omega⟩) ?_
    refine Ret.cj S w109 (fun M1 S1 => Ret.pos ((abt_lt1 hA.1 (by omega)).mpr hn0) (Ret.neg (by decide) ?_))
    refine Ret.cj S1 (fun L => (w112 L).c (o_s7 hA.1 hn0)) (fun M2 S2 => ?_)
    refine Ret.cj S2 (fun L => (w112 L).c (o_s4 hA.1 hn0)) (fun M3 S3 => ?_)
    refine Ret.cj S3 (fun L => (w112 L).c (o_s6 hA.1 hn0)) (fun M4 S4 => ?_)
    have k := fun M (nc2 ns2 : Nat) o1 o17 o18 o19 (S : St M0 A M) (g1 : nc2 ≤ nc' + 16) (g2 : ns2 ≤ ns' + 96) => kept_383 (M0 := M0) (x5 := (f3 A.1 n t).1) (x8 := (f3 A.1 n t).2.2) hA hT hn0 hq3 (by omega) (nc := nc2) (ns := ns2) (fun M' nc3 ns3 o11 o12 o13 o14 o15 o16 o17 o18 o19 S' h3 h4 => hc2 M' nc3 ns3 S' (by omega) (by omega) o11 o12 o13 o14 o15 o16 o17 o18 o19) M o1 o17 o18 o19 S (by omega) (by omega)
    by_cases hb : (Spl A.1).1 n = -1
    · refine Ret.pos (m1_l.mpr hb) (Ret.cj S4 (fun L => (w112 L).c (o_s0 hA.1 hn0)) (fun M5 S5 => ?_))
      have e5 : (f3 A.1 n t).1 = t.1 + 1 := by show t.1 + yb _ = _; rw [yb_pos hb]
      have e8 := (end_of hA.1 hn0).1 hb
      refine Ret.ite (fun h0 => ?_) (fun h0 => ?_)
      · refine Ret.pos (m1_l.mpr hb) (Ret.cj S5 (fun L => (w112 L).c (o_s8 hA.1 hn0)) (fun M6 S6 => Ret.pos (m1_l.mpr e8) ?_))
        have e9 : (f3 A.1 n t).2.2 = t.2.2 := if_pos h0
        have kk := k M6 (nc' + 11) (ns' + 66) (some (.int 1)) o17 o18 o19 S6 (by omega) (by omega)
        rw [e5, e9] at kk
        exact kk
      · refine Ret.pos (m1_l.mpr hb) (Ret.cj S5 (fun L => (w112 L).c (o_s8 hA.1 hn0)) (fun M6 S6 => Ret.pos (m1_l.mpr e8) ?_))
        have e9 : (f3 A.1 n t).2.2 = (Int32.ofNat (Wf A.1 n)).toInt64 := if_neg h0
        have kk := k M6 (nc' + 11) (ns' + 66) (some (.int 1)) o17 o18 o19 S6 (by omega) (by omega)
        rw [e5, e9] at kk
        exact kk
    · refine Ret.neg (fun z => hb (m1_l.mp z)) (Ret.cj S4 (fun L => (w112 L).c (o_s0 hA.1 hn0)) (fun M5 S5 => ?_))
      have e5 : (f3 A.1 n t).1 = t.1 + 0 := by show t.1 + yb _ = _; rw [yb_neg hb]
      have e8 := end_l hA.1 hn0 hb
      have tk := takes_ge (r := A.1) hn0
      refine Ret.ite (fun h0 => ?_) (fun h0 => ?_)
      · refine Ret.neg (fun z => hb (m1_l.mp z)) (Ret.cj S5 (fun L => (w112 L).c (o_s8 hA.1 hn0)) (fun M6 S6 => Ret.cj S6 (fun L => (w112 L).c (o_s0 hA.1 hn0)) (fun M7 S7 => Ret.pos e8 (Ret.cj S7 (fun L => (w112 L).c (o_s8 hA.1 hn0)) (fun M8 S8 => Ret.pos (by rw [w_le]; exact tk) ?_)))))
        have e9 : (f3 A.1 n t).2.2 = t.2.2 := if_pos h0
        have kk := k M8 (nc' + 15) (ns' + 90) (some (.int 1)) o17 o18 o19 S8 (by omega) (by omega)
        rw [e5, e9] at kk
        exact kk
      · refine Ret.neg (fun z => hb (m1_l.mp z)) (Ret.cj S5 (fun L => (w112 L).c (o_s8 hA.1 hn0)) (fun M6 S6 => Ret.cj S6 (fun L => (w112 L).c (o_s0 hA.1 hn0)) (fun M7 S7 => Ret.pos e8 (Ret.cj S7 (fun L => (w112 L).c (o_s8 hA.1 hn0)) (fun M8 S8 => Ret.pos (by rw [w_le]; exact tk) ?_)))))
        have e9 : (f3 A.1 n t).2.2 = (Int32.ofNat (Wf A.1 n)).toInt64 := if_neg h0
        have kk := k M8 (nc' + 15) (ns' + 90) (some (.int 1)) o17 o18 o19 S8 (by omega) (by omega)
        rw [e5, e9] at kk
        exact kk
  · intro M1 nc1 ns1 _ S1 c1 z1
    rw [f3_sum hA.1 hT.1]
    intro o11 o12 o13 o14 o15 o16 o17 o18 o19
    refine Ret.E (e137_226 ⟨by omega, by omega⟩) ?_
    refine Ret.cj S1 w109 (fun M2 S2 => Ret.neg (fun z => Nat.lt_irrefl _ ((abt_lt1 hA.1 (by omega)).mp z)) ?_)
    exact kept_683 hA M2 (nc1 + 1) (ns1 + 6) S2 (by omega) (by omega)
theorem w137 (L0 : LW A M0) : LI (yX 137 0 [some (.ref 7), none, none, none, none, none, none, none, none, none, none, none, none, none, none, none, none, none, none, none] [] M0 0 0) M0 1 A := by
  obtain ⟨m1, m2⟩ := rokm L0.2.1.1
  refine Ret.LI (Ret.E (e137 ⟨by omega, by omega⟩) ?_)
  refine lp (P := fun n (v : Int64) M nc ns => ∀ o5 o6 o7 o8 o9 o10 o11 o12 o13 o14 o15 o16 o17 o18 o19 : Option Value, Ret (yX 137 7 [some (.ref 7), some (.int 1), some (.long v), none, some (.int (Int32.ofNat n)), o5, o6, o7, o8, o9, o10, o11, o12, o13, o14, o15, o16, o17, o18, o19] [] M nc ns) (fun o M' => o = .inl (some (.int 1)) ∧ St M0 A M')) (I := fun _ _ => True) (f := f1 A.1) (a0 := 0) (N := many A.1) (c := 26) (s := 156) (c0 := 0) (s0 := 0) (M0 := M0) (A := A) ?_ ?_ trivial (St.rf L0) (Nat.le_refl _) (Nat.le_refl _) none none none none none none none none none none none none none none none
  · intro n v M nc ns hn _ S h1 h2
    refine ⟨trivial, fun hc => ?_⟩
    intro o5 o6 o7 o8 o9 o10 o11 o12 o13 o14 o15 o16 o17 o18 o19
    obtain ⟨f1, f2, f3, f4, f5, f6, -⟩ := ing_fact L0.2.1.1 hn
    refine Ret.E (e137_7 ⟨by omega, by omega⟩) ?_
    refine Ret.cj S w109 (fun M1 S1 => Ret.pos ((abt_lt0 L0.2.1.1 (by omega)).mpr hn) (Ret.neg (by decide) ?_))
    refine Ret.cj S1 w111 (fun M2 S2 => Ret.cj S2 w111 (fun M3 S3 => Ret.cj S3 w111 (fun M4 S4 => Ret.cj S4 w111 (fun M5 S5 => Ret.cj S5 w111 (fun M6 S6 => Ret.cj S6 w111 (fun M7 S7 => Ret.cj S7 w111 (fun M8 S8 => Ret.cj S8 w111 (fun M9 S9 => ?_))))))))
    refine Ret.cj S9 w110 (fun M10 S10 => Ret.cj S10 w110 (fun M11 S11 => Ret.pos f1 (Ret.cj S11 w110 (fun M12 S12 => Ret.pos f2 (Ret.cj S12 w110 (fun M13 S13 => Ret.pos f3 ?_))))))
    refine Ret.ci S13 (fun L => w106 f4 f5 L) (fun M14 S14 => Ret.neg (by decide) (Ret.cj S14 w115 (fun M15 S15 => ?_)))
    rw [ofN_succ]
    refine Ret.ite (fun h0 => Ret.neg (f6 h0) ?_) (fun h0 => ?_)
    · exact hc M15 (nc + 26) (ns + 156) S15 (by omega) (by omega) _ _ _ _ _ _ _ _ _ _ _ _ _ _ _
    · exact hc M15 (nc + 26) (ns + 156) S15 (by omega) (by omega) _ _ _ _ _ _ _ _ _ _ _ _ _ _ _
  · intro M1 nc1 ns1 _ S1 c1 z1
    rw [f1_sum L0.2.1.1]
    intro o5 o6 o7 o8 o9 o10 o11 o12 o13 o14 o15 o16 o17 o18 o19
    refine Ret.E (e137_7 ⟨by omega, by omega⟩) ?_
    refine Ret.cj S1 w109 (fun M2 S2 => Ret.neg (fun z => Nat.lt_irrefl _ ((abt_lt0 L0.2.1.1 (by omega)).mp z)) ?_)
    refine Ret.cj S2 (fun L => (w109 L).c o_a5) (fun M3 S3 => ?_)
    rw [i64_i32]
    exact kept_226 L0.2.1 L0.2.2 M3 (nc1 + 2) (ns1 + 12) _ _ _ _ _ _ _ _ _ S3 (by omega) (by omega)
end KEPTW
