/-! kept: what the law asks of a card -/
section KEPT
variable {A : yAb} {M0 : yM}
theorem bits_need {r : yRow} (ok : rok r) {s o : Nat} (hs0 : s < stps r) (ho : o < stps r) : ((((r (72 + s)).toInt64 >>> ((Int32.ofNat o).toInt64 &&& 63)) &&& 1 = 1) ↔ nd r s o) ∧ ((((r (72 + s)).toInt64 >>> ((Int32.ofNat o).toInt64 &&& 63)) &&& 1 = 0) ↔ ¬ nd r s o) := lb (rokst ok hs0).2.2.2.2 (roks ok).1 (by have := (roks ok).1; omega)
theorem bits_by {r : yRow} (ok : rok r) {s o : Nat} (hs0 : s < stps r) (ho : o < stps r) : ((((Snb r (Int32.ofNat o)).toInt64 >>> ((Int32.ofNat s).toInt64 &&& 63)) &&& 1 = 1) ↔ nd r s o) ∧ ((((Snb r (Int32.ofNat o)).toInt64 >>> ((Int32.ofNat s).toInt64 &&& 63)) &&& 1 = 0) ↔ ¬ nd r s o) := by
  have h14 := (roks ok).1
  have h1 := lb (Snb_blw ok (Int32.ofNat o)) h14 (k := s) (by omega)
  have h2 := hs_Snb ok (s := o) (t := s) (by omega)
  exact ⟨h1.1.trans (h2.trans ⟨fun z => z.2, fun z => ⟨hs0, z⟩⟩), h1.2.trans ⟨fun z w => z (h2.mpr ⟨hs0, w⟩), fun z w => z (h2.mp w).2⟩⟩
theorem kept_751 (hA : Aok A) {o10 o11 o12 o13 o14 o15 o16 o17 o18 o19 : Option Value} : ∀ M nc ns, St M0 A M → nc ≤ 5500 → ns ≤ 33000 → Ret (yX 137 751 [some (.ref 7), some (.int 1), some (.long (Sall A.1 (A.1 14)).toInt64), none, some (.int (Swh A.1 (Spl A.1))), some (.int (Sstk A.1 (Spl A.1))), some (.long (Smn A.1).toInt64), none, some (.long (Slo A.1).toInt64), none, o10, o11, o12, o13, o14, o15, o16, o17, o18, o19] [] M nc ns) (fun o M' => o = .inl (some (.int 1)) ∧ St M0 A M') := by
  intro M nc ns S hc hn
  obtain ⟨s1, s2⟩ := roks hA.1
  have hk := Spl_kle hA.1
  refine Ret.E (e137_751 ⟨by omega, by omega⟩) (Ret.neg (by decide) ?_)
  refine Ret.cj S (fun L => (w109 L).c o_a4) (fun M1 S1 => Ret.pos rfl ?_)
  refine Ret.cj S1 (fun L => (w109 L).c o_a6) (fun M2 S2 => Ret.pos rfl ?_)
  refine Ret.cj S2 (fun L => (w109 L).c o_a8) (fun M3 S3 => Ret.pos rfl ?_)
  refine Ret.cj S3 (fun L => (w109 L).c o_a7) (fun M4 S4 => Ret.pos rfl ?_)
  refine Ret.cj S4 (fun L => (w109 L).c ol_abt1) (fun M5 S5 => ?_)
  have e1 : (A.1 15).toInt64.toInt32 - Sstk A.1 (Spl A.1) = Int32.ofNat (Spl A.1).2.2.2 := by
    rw [i64_i32, Sstk_nat hA.1, s2, sub_le rfl (by omega) (by omega)]
    congr 1
    omega
  rw [e1]
  refine Ret.cj S5 (fun L => (w113 L).c (n_bgn (n1_r _ (by omega)))) (fun M6 S6 => Ret.pos rfl ?_)
  have e2 : (A.1 15).toInt64 - (Sstk A.1 (Spl A.1)).toInt64 = Int64.ofNat (Spl A.1).2.2.2 := by
    rw [Sstk_nat hA.1, s2, i64n (by omega), i64n (by omega), l_sub (by omega) (by omega)]
    congr 1
    omega
  refine Ret.ite (fun h0 => ?_) (fun h0 => ?_)
  · have hb : bet (Swh A.1 (Spl A.1)) 0 1500 := ⟨takes_0, by grind⟩
    refine Ret.cj S6 (fun L => (w116 L).c (o_dur hb (by decide))) (fun M7 S7 => Ret.pos h0 ?_)
    refine Ret.cj S7 (fun L => (w109 L).c ol_abt1) (fun M8 S8 => Ret.neg ?_ (Ret.I ⟨rfl, S8⟩))
    have e3 : Sdur A.1 (Swh A.1 (Spl A.1)) 9 = Int32.ofNat (Spl A.1).2.2.2 := by
      show Int32.ofNat (Sdn A.1 (Spl A.1).1 (Spl A.1).2.1 (Swh A.1 (Spl A.1))) = _
      rw [done_all hA.1]
    rw [e3, e2, i64n (by omega), l_lti]
    omega
  · refine Ret.cj S6 (fun L => (w116 L).c (o_dur (by decide) (by decide))) (fun M7 S7 => Ret.neg h0 ?_)
    refine Ret.neg ?_ (Ret.I ⟨rfl, S7⟩)
    have e3 : Sdur A.1 1500 9 = Int32.ofNat (Sdn A.1 (Spl A.1).1 (Spl A.1).2.1 1500) := rfl
    have h5 : Sdn A.1 (Spl A.1).1 (Spl A.1).2.1 1500 ≤ stps A.1 := cnt_le _ _
    rw [e3, show (0 : Int64) = (Int32.ofNat 0).toInt64 from rfl, w_lt, ofN_lt (by omega) (by omega)]
    omega
/-- the begin of the one before -/
def bfr (r : yRow) (n : Nat) (_ : Int64) : Int64 := ((Spl r).1 (yx ((Spl r).2.2.1 n))).toInt64
theorem kept_683 (hA : Aok A) {o13 o14 o15 o16 o17 o18 o19 : Option Value} : ∀ M nc ns, St M0 A M → nc ≤ 5000 → ns ≤ 30000 → Ret (yX 137 683 [some (.ref 7), some (.int 1), some (.long (Sall A.1 (A.1 14)).toInt64), none, some (.int (Swh A.1 (Spl A.1))), some (.int (Sstk A.1 (Spl A.1))), some (.long (Smn A.1).toInt64), none, some (.long (Slo A.1).toInt64), none, some (.long (-1)), none, some (.int 0), o13, o14, o15, o16, o17, o18, o19] [] M nc ns) (fun o M' => o = .inl (some (.int 1)) ∧ St M0 A M') := by
  intro M nc ns S hc hn
  obtain ⟨s1, s2⟩ := roks hA.1
  have hk := Spl_kle hA.1
  have e2 : (A.1 15).toInt64 - (Sstk A.1 (Spl A.1)).toInt64 = Int64.ofNat (Spl A.1).2.2.2 := by
    rw [Sstk_nat hA.1, s2, i64n (by omega), i64n (by omega), l_sub (by omega) (by omega)]
    congr 1
    omega
  refine lp (P := fun n (v : Int64) M nc ns => ∀ o13 o14 o15 o16 o17 o18 o19 : Option Value, Ret (yX 137 683 [some (.ref 7), some (.int 1), some (.long (Sall A.1 (A.1 14)).toInt64), none, some (.int (Swh A.1 (Spl A.1))), some (.int (Sstk A.1 (Spl A.1))), some (.long (Smn A.1).toInt64), none, some (.long (Slo A.1).toInt64), none, some (.long v), none, some (.int (Int32.ofNat n)), o13, o14, o15, o16, o17, o18, o19] [] M nc ns) (fun o M' => o = .inl (some (.int 1)) ∧ St M0 A M')) (I := fun n v => v = -1 ∨ ∃ q, q < n ∧ v = ((Spl A.1).1 (yx ((Spl A.1).2.2.1 q))).toInt64) (f := bfr A.1) (N := (Spl A.1).2.2.2) (c := 4) (s := 24) (c0 := nc) (s0 := ns) (M0 := M0) (A := A) ?_ ?_ (Or.inl rfl) S (Nat.le_refl _) (Nat.le_refl _) o13 o14 o15 o16 o17 o18 o19
  · intro n v M nc' ns' hlt hI S h1 h2
    refine ⟨Or.inr ⟨n, Nat.lt_succ_self n, rfl⟩, fun hc2 => ?_⟩
    intro o13 o14 o15 o16 o17 o18 o19
    refine Ret.E (e137_683 ⟨by omega, by omega⟩) ?_
    refine Ret.cj S (fun L => (w109 L).c ol_abt1) (fun M1 S1 => ?_)
    refine Ret.pos (by rw [e2, i64n (by omega), l_lt (by omega) (by omega)]; exact hlt) (Ret.neg (by decide) ?_)
    obtain ⟨g1, s, g2, g3, g4⟩ := ord_at hA.1 hlt
    refine Ret.cj S1 (fun L => (w113 L).c g1) (fun M2 S2 => ?_)
    rw [i64_i32, g3]
    refine Ret.cj S2 (fun L => (w112 L).c (o_s7 hA.1 g2)) (fun M3 S3 => ?_)
    refine Ret.neg (fun z => g4 (m1_l.mp z)) (Ret.neg ?_ ?_)
    · rcases hI with h | ⟨q, h3, h4⟩
      · rw [h, l_lti, i_l]
        have := (end_of hA.1 g2).2 g4
        have h5 := this.2.1
        rw [i32_le] at h5
        have : (0 : Int32).toInt = 0 := rfl
        have : (-1 : Int64).toInt = -1 := by decide
        omega
      · obtain ⟨_, s', g5, g6, g7⟩ := ord_at hA.1 (q := q) (by omega)
        have := ord_mono hA.1 (Nat.le_of_lt h3) hlt g6 g3 g5 g2
        rw [h4, g6, yx_ofN (by omega), w_lt]
        grind
    · rw [ofN_succ]
      have e5 : ((Spl A.1).1 s).toInt64 = bfr A.1 n v := by
        unfold bfr
        rw [g3, yx_ofN (by omega)]
      rw [e5]
      exact hc2 M3 (nc' + 4) (ns' + 24) S3 (by omega) (by omega) _ _ _ _ _ _ _
  · intro M1 nc1 ns1 _ S1 c1 z1 o13 o14 o15 o16 o17 o18 o19
    refine Ret.E (e137_683 ⟨by omega, by omega⟩) ?_
    refine Ret.cj S1 (fun L => (w109 L).c ol_abt1) (fun M2 S2 => ?_)
    refine Ret.neg (by rw [e2, i64n (by omega), l_lt (by omega) (by omega)]; exact Nat.lt_irrefl _) ?_
    exact kept_751 hA M2 (nc1 + 1) (ns1 + 6) S2 (by omega) (by omega)
end KEPT
