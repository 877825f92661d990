/-! kept: one step -/
section KEPTS
variable {A : yAb} {M0 : yM} {s : Nat} {x5 : Int32} {x6 x8 : Int64}
theorem kept_571 (hA : Aok A) (hT : Atg A) (hs0 : s < stps A.1) {nc ns : Nat} (hk226 : ∀ M' nc' ns' o11 o12 o13 o14 o15 o16 o17 o18 o19, St M0 A M' → nc' ≤ nc + 27 → ns' ≤ ns + 162 → Ret (yX 137 226 [some (.ref 7), some (.int 1), some (.long (Sall A.1 (A.1 14)).toInt64), none, some (.int (Swh A.1 (Spl A.1))), some (.int x5), some (.long x6), none, some (.long x8), none, some (.int (Int32.ofNat (s + 1))), o11, o12, o13, o14, o15, o16, o17, o18, o19] [] M' nc' ns') (fun o M' => o = .inl (some (.int 1)) ∧ St M0 A M')) : ∀ M o13 o14 o15 o16 o18 o19, St M0 A M → nc ≤ 5000 → ns ≤ 30000 → Ret (yX 137 571 [some (.ref 7), some (.int 1), some (.long (Sall A.1 (A.1 14)).toInt64), none, some (.int (Swh A.1 (Spl A.1))), some (.int x5), some (.long x6), none, some (.long x8), none, some (.int (Int32.ofNat s)), some (.long ((Spl A.1).1 s).toInt64), none, o13, o14, o15, o16, some (.int 0), o18, o19] [] M nc ns) (fun o M' => o = .inl (some (.int 1)) ∧ St M0 A M') := by
  intro M o13 o14 o15 o16 o18 o19 S hc hn
  have h14 := (roks hA.1).1
  by_cases hb : (Spl A.1).1 s = -1
  · refine Ret.E (e137_571 ⟨by omega, by omega⟩) (Ret.pos (by decide) (Ret.neg (by decide) (Ret.pos (m1_l.mpr hb) ?_)))
    rw [ofN_succ]
    exact hk226 M nc ns _ _ _ _ _ _ _ _ _ S (by omega) (by omega)
  · refine lp (P := fun w (_ : Unit) M nc ns => ∀ o13 o14 o15 o16 o18 o19 : Option Value, Ret (yX 137 571 [some (.ref 7), some (.int 1), some (.long (Sall A.1 (A.1 14)).toInt64), none, some (.int (Swh A.1 (Spl A.1))), some (.int x5), some (.long x6), none, some (.long x8), none, some (.int (Int32.ofNat s)), some (.long ((Spl A.1).1 s).toInt64), none, o13, o14, o15, o16, some (.int (Int32.ofNat w)), o18, o19] [] M nc ns) (fun o M' => o = .inl (some (.int 1)) ∧ St M0 A M')) (I := fun _ _ => True) (f := fun _ a => a) (a0 := ()) (N := 9) (c := 3) (s := 18) (c0 := nc) (s0 := ns) (M0 := M0) (A := A) ?_ ?_ trivial S (Nat.le_refl _) (Nat.le_refl _) o13 o14 o15 o16 o18 o19
    · intro w _ M nc' ns' hw _ S h1 h2
      refine ⟨trivial, fun hc2 => ?_⟩
      intro o13 o14 o15 o16 o18 o19
      refine Ret.E (e137_571 ⟨by omega, by omega⟩) (Ret.pos (ofN_lti (v := 9) (m := 9) rfl (by omega) hw) (Ret.neg (by decide) (Ret.neg (fun z => hb (m1_l.mp z)) ?_)))
      rw [i64_i32, ofN_succ]
      refine Ret.cj S w116 (fun M1 S1 => ?_)
      by_cases hw0 : w = 0
      · subst hw0
        refine Ret.pos rfl (Ret.cj S1 w115 (fun M2 S2 => ?_))
        obtain ⟨c1, c2, c3⟩ := cooks_at hA.1 hT.1 hs0 hb
        refine Ret.ci S2 (fun L => w106 c2 c3 L) (fun M3 S3 => ?_)
        exact hc2 M3 (nc' + 2) (ns' + 12) S3 (by omega) (by omega) _ _ _ _ _ _
      · refine Ret.neg (by rw [oe (b := 0) (V := 0) rfl (by omega) (by omega)]; exact hw0) ?_
        by_cases hw5 : w < 5
        · refine Ret.pos (ofN_lti (v := 5) (m := 5) rfl (by omega) hw5) (Ret.cj S1 w116 (fun M2 S2 => Ret.cj S2 w114 (fun M3 S3 => ?_)))
          refine Ret.pos (pans_at hA.1 hT.1 hs0 hb ⟨by omega, hw5⟩) ?_
          exact hc2 M3 (nc' + 3) (ns' + 18) S3 (by omega) (by omega) _ _ _ _ _ _
        · refine Ret.neg (ofN_nlti (v := 5) (m := 5) rfl (by omega) (by omega) hw5) ?_
          exact hc2 M1 (nc' + 1) (ns' + 6) S1 (by omega) (by omega) _ _ _ _ _ _
    · intro M1 nc1 ns1 _ S1 c1 z1 o13 o14 o15 o16 o18 o19
      refine Ret.E (e137_571 ⟨by omega, by omega⟩) (Ret.neg (by decide) ?_)
      rw [ofN_succ]
      exact hk226 M1 nc1 ns1 _ _ _ _ _ _ _ _ _ S1 (by omega) (by omega)
theorem kept_425 (hA : Aok A) (hT : Atg A) (hs0 : s < stps A.1) {nc ns : Nat} (hk226 : ∀ M' nc' ns' o11 o12 o13 o14 o15 o16 o17 o18 o19, St M0 A M' → nc' ≤ nc + 182 → ns' ≤ ns + 1092 → Ret (yX 137 226 [some (.ref 7), some (.int 1), some (.long (Sall A.1 (A.1 14)).toInt64), none, some (.int (Swh A.1 (Spl A.1))), some (.int x5), some (.long x6), none, some (.long x8), none, some (.int (Int32.ofNat (s + 1))), o11, o12, o13, o14, o15, o16, o17, o18, o19] [] M' nc' ns') (fun o M' => o = .inl (some (.int 1)) ∧ St M0 A M')) : ∀ M o18 o19, St M0 A M → nc ≤ 4800 → ns ≤ 28800 → Ret (yX 137 425 [some (.ref 7), some (.int 1), some (.long (Sall A.1 (A.1 14)).toInt64), none, some (.int (Swh A.1 (Spl A.1))), some (.int x5), some (.long x6), none, some (.long x8), none, some (.int (Int32.ofNat s)), some (.long ((Spl A.1).1 s).toInt64), none, some (.long (A.1 (72 + s)).toInt64), none, some (.long (Int32.ofNat (Wf A.1 s)).toInt64), none, some (.int 0), o18, o19] [] M nc ns) (fun o M' => o = .inl (some (.int 1)) ∧ St M0 A M') := by
  intro M o18 o19 S hc hn
  obtain ⟨s1, s2⟩ := roks hA.1
  have hW := Wf_ge hA.2.1 hs0
  have hW0 := Wf_1260 hA.1 hT.1 hs0
  refine lp (P := fun o (_ : Unit) M nc ns => ∀ o18 o19 : Option Value, Ret (yX 137 425 [some (.ref 7), some (.int 1), some (.long (Sall A.1 (A.1 14)).toInt64), none, some (.int (Swh A.1 (Spl A.1))), some (.int x5), some (.long x6), none, some (.long x8), none, some (.int (Int32.ofNat s)), some (.long ((Spl A.1).1 s).toInt64), none, some (.long (A.1 (72 + s)).toInt64), none, some (.long (Int32.ofNat (Wf A.1 s)).toInt64), none, some (.int (Int32.ofNat o)), o18, o19] [] M nc ns) (fun o M' => o = .inl (some (.int 1)) ∧ St M0 A M')) (I := fun _ _ => True) (f := fun _ a => a) (a0 := ()) (N := stps A.1) (c := 11) (s := 66) (c0 := nc) (s0 := ns) (M0 := M0) (A := A) ?_ ?_ trivial S (Nat.le_refl _) (Nat.le_refl _) o18 o19
  · intro o _ M nc' ns' ho _ S h1 h2
    refine ⟨trivial, fun hc2 => ?_⟩
    intro o18 o19
    refine Ret.E (e137_425 ⟨by omega, by omega⟩) ?_
    refine Ret.cj S w109 (fun M1 S1 => Ret.pos ((abt_lt1 hA.1 (by omega)).mpr ho) (Ret.neg (by decide) ?_))
    obtain ⟨b1, b2⟩ := bits_need hA.1 hs0 ho
    obtain ⟨b3, b4⟩ := bits_by hA.1 hs0 ho
    by_cases hnd : nd A.1 s o
    · refine Ret.pos (b1.mpr hnd) (Ret.cj S1 (fun L => (w112 L).c (o_s5 hA.1 ho)) (fun M2 S2 => Ret.pos (b3.mpr hnd) ?_))
      have k529 : ∀ M nc2 ns2 o1 o19, St M0 A M → nc2 ≤ nc' + 7 → ns2 ≤ ns' + 42 → Ret (yX 137 529 [some (.ref 7), o1, some (.long (Sall A.1 (A.1 14)).toInt64), none, some (.int (Swh A.1 (Spl A.1))), some (.int x5), some (.long x6), none, some (.long x8), none, some (.int (Int32.ofNat s)), some (.long ((Spl A.1).1 s).toInt64), none, some (.long (A.1 (72 + s)).toInt64), none, some (.long (Int32.ofNat (Wf A.1 s)).toInt64), none, some (.int (Int32.ofNat o)), some (.int 1), o19] [] M nc2 ns2) (fun o M' => o = .inl (some (.int 1)) ∧ St M0 A M') := by
        intro M nc2 ns2 o1 o19 S g1 g2
        refine Ret.E (e137_529 ⟨by omega, by omega⟩) (Ret.neg (by decide) ?_)
        refine Ret.cj S (fun L => (w112 L).c (o_s6 hA.1 ho)) (fun M3 S3 => Ret.cj S3 (fun L => (w112 L).c (o_s0 hA.1 ho)) (fun M4 S4 => Ret.neg ?_ ?_))
        · have g3 := Wf_1260 hA.1 hT.1 ho
          have g4 := mN_le hA.1 ho
          have g5 := (Wf_ge hA.2.1 ho).2 s hs0 hnd
          rw [g4.2.2, i64n (by omega), i64n (by omega), i64n (by omega), l_add, l_lt (by omega) (by omega)]
          omega
        · rw [ofN_succ]
          exact hc2 M4 (nc2 + 4) (ns2 + 24) S4 (by omega) (by omega) _ _
      by_cases hb : (Spl A.1).1 s = -1
      · exact Ret.pos (m1_l.mpr hb) (k529 M2 (nc' + 3) (ns' + 18) _ _ S2 (by omega) (by omega))
      · obtain ⟨g1, g2⟩ := need_end hA.1 s hs0 hb o ho hnd
        have ge := (end_of hA.1 ho).2 g1
        refine Ret.neg (fun z => hb (m1_l.mp z)) (Ret.cj S2 (fun L => (w112 L).c (o_s8 hA.1 ho)) (fun M3 S3 => Ret.neg (fun z => ?_) ?_))
        · have z := m1_l.mp z
          obtain ⟨e1, e2, e3, e4, e5⟩ := ge
          rw [z] at e1
          grind
        · refine Ret.cj S3 (fun L => (w112 L).c (o_s8 hA.1 ho)) (fun M4 S4 => Ret.pos (by rw [w_le]; exact g2) ?_)
          exact k529 M4 (nc' + 7) (ns' + 42) _ _ S4 (by omega) (by omega)
    · refine Ret.neg (fun z => hnd (b1.mp z)) (Ret.cj S1 (fun L => (w112 L).c (o_s5 hA.1 ho)) (fun M2 S2 => Ret.pos (b4.mpr hnd) ?_))
      refine Ret.E (e137_529 ⟨by omega, by omega⟩) (Ret.pos rfl ?_)
      rw [ofN_succ]
      exact hc2 M2 (nc' + 3) (ns' + 18) S2 (by omega) (by omega) _ _
  · intro M1 nc1 ns1 _ S1 c1 z1 o18 o19
    refine Ret.E (e137_425 ⟨by omega, by omega⟩) ?_
    refine Ret.cj S1 w109 (fun M2 S2 => Ret.neg (fun z => Nat.lt_irrefl _ ((abt_lt1 hA.1 (by omega)).mp z)) ?_)
    exact kept_571 hA hT hs0 (nc := nc1 + 1) (ns := ns1 + 6) (fun M' nc' ns' o11 o12 o13 o14 o15 o16 o17 o18 o19 S' h1 h2 => hk226 M' nc' ns' o11 o12 o13 o14 o15 o16 o17 o18 o19 S' (by omega) (by omega)) M2 _ _ _ _ _ _ S2 (by omega) (by omega)
theorem kept_383 (hA : Aok A) (hT : Atg A) (hs0 : s < stps A.1) {q : Nat} (hq : x6 = Int64.ofNat q) (hq2 : q ≤ 3000) {nc ns : Nat} (hk226 : ∀ M' nc' ns' o11 o12 o13 o14 o15 o16 o17 o18 o19, St M0 A M' → nc' ≤ nc + 184 → ns' ≤ ns + 1104 → Ret (yX 137 226 [some (.ref 7), some (.int 1), some (.long (Sall A.1 (A.1 14)).toInt64), none, some (.int (Swh A.1 (Spl A.1))), some (.int x5), some (.long x6), none, some (.long x8), none, some (.int (Int32.ofNat (s + 1))), o11, o12, o13, o14, o15, o16, o17, o18, o19] [] M' nc' ns') (fun o M' => o = .inl (some (.int 1)) ∧ St M0 A M')) : ∀ M o1 o17 o18 o19, St M0 A M → nc ≤ 4790 → ns ≤ 28740 → Ret (yX 137 383 [some (.ref 7), o1, some (.long (Sall A.1 (A.1 14)).toInt64), none, some (.int (Swh A.1 (Spl A.1))), some (.int x5), some (.long x6), none, some (.long x8), none, some (.int (Int32.ofNat s)), some (.long ((Spl A.1).1 s).toInt64), none, some (.long (A.1 (72 + s)).toInt64), none, some (.long (Int32.ofNat (Wf A.1 s)).toInt64), none, o17, o18, o19] [] M nc ns) (fun o M' => o = .inl (some (.int 1)) ∧ St M0 A M') := by
  intro M o1 o17 o18 o19 S hc hn
  have h14 := (roks hA.1).1
  have g3 := Wf_1260 hA.1 hT.1 hs0
  have g4 := mN_le hA.1 hs0
  have g5 := (Wf_ge hA.2.1 hs0).1
  refine Ret.E (e137_383 ⟨by omega, by omega⟩) ?_
  refine Ret.cj S (fun L => (w112 L).c (o_s0 hA.1 hs0)) (fun M1 S1 => ?_)
  have h1 : (Int32.ofNat (Wf A.1 s)).toInt64 ≥ (A.1 (16 + s)).toInt64 := by
    rw [g4.2.2, i64n (by omega), i64n (by omega), ge_iff_le, l_le (by omega) (by omega)]
    exact g5
  have h2 : (Int32.ofNat (Wf A.1 s)).toInt64 ≤ x6 + 1260 := by
    rw [hq, show (1260 : Int64) = Int64.ofNat 1260 from rfl, i64n (by omega), l_add, l_le (by omega) (by omega)]
    omega
  refine Ret.ci S1 (fun L => w106 h1 h2 L) (fun M2 S2 => Ret.neg (by decide) (Ret.pos ((bits_need hA.1 hs0 hs0).2.mpr (nd_self hA.2.1 hs0)) ?_))
  exact kept_425 hA hT hs0 (nc := nc + 2) (ns := ns + 12) (fun M' nc' ns' o11 o12 o13 o14 o15 o16 o17 o18 o19 S' h1 h2 => hk226 M' nc' ns' o11 o12 o13 o14 o15 o16 o17 o18 o19 S' (by omega) (by omega)) M2 _ _ S2 (by omega) (by omega)
end KEPTS
