/-! actions: bounds kept; the reference's code for them -/
theorem n10 : ¬ ((3 : Int32) = 0) ∧ ¬ ((2 : Int32) = 0) ∧ ¬ ((1 : Int32) = 0) := by decide
theorem blw_wth {a : Int32} {k n : Nat} {p : Prop} [Decidable p] (h : blw a n) (hk : k < n) (hn : n ≤ 32) : blw (wth a (Int32.ofNat k) p) n := by
  unfold wth
  split
  · exact blw_or h (blw_msk hk hn)
  · exact blw_clr h (by omega)
section PRES
variable {r : yRow}
theorem fam_u {k : Nat} {x : Int32} (hst : stps r ≤ 14) (hm : many r ≤ 12) {s : Nat} (hs0 : s < stps r) (hk : k = 58 + s) (hx : blw x 12) : fam r k x := by
  subst hk
  refine ⟨by omega, by omega, fun e => by omega, fun e => by omega, fun i hi e => by omega, fun t ht => ⟨fun e => by omega, fun e => by omega, fun e => by omega, fun _ => hx, fun e => by omega⟩, fun j hj e => by omega, fun e => by omega, fun e => by omega, fun e => by omega, fun e => by omega, fun e => by omega⟩
theorem fam_n {k : Nat} {x : Int32} (hst : stps r ≤ 14) (hm : many r ≤ 12) {s : Nat} (hs0 : s < stps r) (hk : k = 72 + s) (hx : blw x (stps r)) : fam r k x := by
  subst hk
  refine ⟨by omega, by omega, fun e => by omega, fun e => by omega, fun i hi e => by omega, fun t ht => ⟨fun e => by omega, fun e => by omega, fun e => by omega, fun e => by omega, fun _ => hx⟩, fun j hj e => by omega, fun e => by omega, fun e => by omega, fun e => by omega, fun e => by omega, fun e => by omega⟩
theorem fam_p {k : Nat} {x : Int32} (hst : stps r ≤ 14) (hm : many r ≤ 12) {j : Nat} (hj : j < 4) (hk : k = 86 + j) (hx : bet x 0 4) : fam r k x := by
  subst hk
  refine ⟨by omega, by omega, fun e => by omega, fun e => by omega, fun i hi e => by omega, fun t ht => ⟨fun e => by omega, fun e => by omega, fun e => by omega, fun e => by omega, fun e => by omega⟩, fun j hj e => hx, fun e => by omega, fun e => by omega, fun e => by omega, fun e => by omega, fun e => by omega⟩
theorem fam_m {k : Nat} {x : Int32} (hst : stps r ≤ 14) (hm : many r ≤ 12) {s : Nat} (hs0 : s < stps r) (hk : k = 16 + s) (hx : bet x 1 150) : fam r k x := by
  subst hk
  refine ⟨by omega, by omega, fun e => by omega, fun e => by omega, fun i hi e => by omega, fun t ht => ⟨fun _ => hx, fun e => by omega, fun e => by omega, fun e => by omega, fun e => by omega⟩, fun j hj e => by omega, fun e => by omega, fun e => by omega, fun e => by omega, fun e => by omega, fun e => by omega⟩
theorem fam_a {k : Nat} {x : Int32} (hst : stps r ≤ 14) (hm : many r ≤ 12) {i : Nat} (hi : i < many r) (hk : k = 1 + i) (hx : bet x 1 50000) : fam r k x := by
  subst hk
  refine ⟨by omega, by omega, fun e => by omega, fun e => by omega, fun i hi e => hx, fun t ht => ⟨fun e => by omega, fun e => by omega, fun e => by omega, fun e => by omega, fun e => by omega⟩, fun j hj e => by omega, fun e => by omega, fun e => by omega, fun e => by omega, fun e => by omega, fun e => by omega⟩
theorem fam_s {k : Nat} {x : Int32} (hst : stps r ≤ 14) (hm : many r ≤ 12) (hk : k = 13 ∨ k = 14) (hx : bet x 1 24) : fam r k x := by
  refine ⟨by omega, by omega, fun e => hx, fun e => hx, fun i hi e => by omega, fun t ht => ⟨fun e => by omega, fun e => by omega, fun e => by omega, fun e => by omega, fun e => by omega⟩, fun j hj e => by omega, fun e => by omega, fun e => by omega, fun e => by omega, fun e => by omega, fun e => by omega⟩
theorem set_lims : xsR0 2 0 = 1 ∧ xsR0 3 0 = 15 ∧ xsR0 2 1 = 0 ∧ xsR0 3 1 = 2 ∧ xsR0 2 2 = 0 ∧ xsR0 3 2 = 20 ∧ xsR0 2 3 = 1 ∧ xsR0 3 3 = 3 ∧ xsR0 2 4 = 0 ∧ xsR0 3 4 = 3 := by decide +kernel
theorem fam_t {k : Nat} {x : Int32} (hst : stps r ≤ 14) (hm : many r ≤ 12) {w : Nat} (hw : w < 5) (hk : k = 90 + w) (hx : bet x (xsR0 2 w) (xsR0 3 w)) : fam r k x := by
  subst hk
  obtain ⟨l1, l2, l3, l4, l5, l6, l7, l8, l9, l10⟩ := set_lims
  refine ⟨by omega, by omega, fun e => by omega, fun e => by omega, fun i hi e => by omega, fun t ht => ⟨fun e => by omega, fun e => by omega, fun e => by omega, fun e => by omega, fun e => by omega⟩, fun j hj e => by omega, fun e => ?_, fun e => ?_, fun e => ?_, fun e => ?_, fun e => ?_⟩
  · have : w = 0 := by omega
    subst this; rw [l1, l2] at hx; exact hx
  · have : w = 1 := by omega
    subst this; rw [l3, l4] at hx; exact hx
  · have : w = 2 := by omega
    subst this; rw [l5, l6] at hx; exact hx
  · have : w = 3 := by omega
    subst this; rw [l7, l8] at hx; exact hx
  · have : w = 4 := by omega
    subst this; rw [l9, l10] at hx; exact hx
theorem rIng_ok (ok : rok r) (ha : acy r) (hlt : r 0 < 12) {g : Int32} (hg : bet g 1 50000) : rok (rIng r g) ∧ acy (rIng r g) := by
  obtain ⟨g1, g2, g3⟩ := rIng_many ok hlt g
  have hm := (rokm ok).1
  have h0 := ok.1
  have e : ∀ k, k ≠ 0 → k ≠ 1 + many r → rIng r g k = r k := fun k q1 q2 => by
    unfold rIng
    rw [upd_eq, if_neg q1, upd_eq, if_neg q2]
  have hst := (roks ok).1
  obtain ⟨h1, h2, h3, h4, h5, h6, h7, h8, h9, h10, h11, h12⟩ := ok
  refine ⟨⟨?_, ?_, ?_, ?_, fun i hi => ?_, fun s hs0 => ?_, fun j hj => ?_, ?_, ?_, ?_, ?_, ?_⟩, ?_⟩
  · have : rIng r g 0 = r 0 + 1 := by
      unfold rIng
      rw [upd_eq, if_pos rfl]
    rw [this]
    exact ⟨by grind, by grind⟩
  · rw [e 15 (by omega) (by omega)]; exact h2
  · rw [e 13 (by omega) (by omega)]; exact h3
  · rw [e 14 (by omega) (by omega)]; exact h4
  · rw [g1] at hi
    by_cases hi2 : i = many r
    · subst hi2
      have : rIng r g (1 + many r) = g := by
        unfold rIng
        rw [upd_eq, if_neg (by omega), upd_eq, if_pos rfl]
      rw [this]; exact hg
    · rw [e (1 + i) (by omega) (by omega)]; exact h5 i (by omega)
  · rw [g2] at hs0 ⊢
    rw [e (16 + s) (by omega) (by omega), e (30 + s) (by omega) (by omega), e (44 + s) (by omega) (by omega), e (58 + s) (by omega) (by omega), e (72 + s) (by omega) (by omega)]
    exact h6 s hs0
  · rw [e (86 + j) (by omega) (by omega)]; exact h7 j hj
  · rw [e 90 (by omega) (by omega)]; exact h8
  · rw [e 91 (by omega) (by omega)]; exact h9
  · rw [e 92 (by omega) (by omega)]; exact h10
  · rw [e 93 (by omega) (by omega)]; exact h11
  · rw [e 94 (by omega) (by omega)]; exact h12
  · exact acy_sub ha g2 (fun s t q1 q2 q3 => by rw [e (72 + s) (by omega) (by omega)] at q3; exact q3)
theorem rStp_at (r : yRow) (a b d : Int32) : rStp r a b d 15 = r 15 + 1 ∧ (∀ k, k ≠ 15 → k ≠ 16 + stps r → k ≠ 30 + stps r → k ≠ 44 + stps r → k ≠ 58 + stps r → k ≠ 72 + stps r → rStp r a b d k = r k) := by
  refine ⟨?_, fun k q1 q2 q3 q4 q5 q6 => ?_⟩
  · unfold rStp
    rw [upd_eq, if_pos rfl]
  · unfold rStp
    rw [upd_eq, if_neg q1, upd_eq, if_neg q6, upd_eq, if_neg q5, upd_eq, if_neg q4, upd_eq, if_neg q3, upd_eq, if_neg q2]
theorem rStp_new (hst : stps r < 14) (a b d : Int32) : rStp r a b d (16 + stps r) = a ∧ rStp r a b d (30 + stps r) = b ∧ rStp r a b d (44 + stps r) = d ∧ rStp r a b d (58 + stps r) = 0 ∧ rStp r a b d (72 + stps r) = 0 := by
  unfold rStp
  refine ⟨?_, ?_, ?_, ?_, ?_⟩
  · rw [upd_eq, if_neg (by omega), upd_eq, if_neg (by omega), upd_eq, if_neg (by omega), upd_eq, if_neg (by omega), upd_eq, if_neg (by omega), upd_eq, if_pos rfl]
  · rw [upd_eq, if_neg (by omega), upd_eq, if_neg (by omega), upd_eq, if_neg (by omega), upd_eq, if_neg (by omega), upd_eq, if_pos rfl]
  · rw [upd_eq, if_neg (by omega), upd_eq, if_neg (by omega), upd_eq, if_neg (by omega), upd_eq, if_pos rfl]
  · rw [upd_eq, if_neg (by omega), upd_eq, if_neg (by omega), upd_eq, if_pos rfl]
  · rw [upd_eq, if_neg (by omega), upd_eq, if_pos rfl]
theorem rStp_ok (ok : rok r) (ha : acy r) (hlt : r 15 < 14) {a b d : Int32} (hq : bet a 1 90 ∧ bet b (-1) 3) (hd : bet d 0 1) : rok (rStp r a b d) ∧ acy (rStp r a b d) := by
  obtain ⟨g1, g2, g3⟩ := rStp_stps ok hlt a b d
  obtain ⟨e15, e⟩ := rStp_at r a b d
  obtain ⟨w1, w2, w3, w4, w5⟩ := rStp_new g3 a b d
  have hm := (rokm ok).1
  obtain ⟨h1, h2, h3, h4, h5, h6, h7, h8, h9, h10, h11, h12⟩ := ok
  refine ⟨⟨?_, ?_, ?_, ?_, fun i hi => ?_, fun s hs0 => ?_, fun j hj => ?_, ?_, ?_, ?_, ?_, ?_⟩, ?_⟩
  · rw [e 0 (by omega) (by omega) (by omega) (by omega) (by omega) (by omega)]; exact h1
  · rw [e15]; exact ⟨by grind, by grind⟩
  · rw [e 13 (by omega) (by omega) (by omega) (by omega) (by omega) (by omega)]; exact h3
  · rw [e 14 (by omega) (by omega) (by omega) (by omega) (by omega) (by omega)]; exact h4
  · rw [g2] at hi
    rw [e (1 + i) (by omega) (by omega) (by omega) (by omega) (by omega) (by omega)]; exact h5 i hi
  · rw [g1] at hs0 ⊢
    by_cases hs2 : s = stps r
    · subst hs2
      rw [w1, w2, w3, w4, w5]
      exact ⟨⟨hq.1.1, by have := hq.1.2; grind⟩, hq.2, hd, blw_0 12, blw_0 _⟩
    · rw [e (16 + s) (by omega) (by omega) (by omega) (by omega) (by omega) (by omega), e (30 + s) (by omega) (by omega) (by omega) (by omega) (by omega) (by omega), e (44 + s) (by omega) (by omega) (by omega) (by omega) (by omega) (by omega), e (58 + s) (by omega) (by omega) (by omega) (by omega) (by omega) (by omega), e (72 + s) (by omega) (by omega) (by omega) (by omega) (by omega) (by omega)]
      obtain ⟨k1, k2, k3, k4, k5⟩ := h6 s (by omega)
      exact ⟨k1, k2, k3, k4, blw_mono k5 (by omega)⟩
  · rw [e (86 + j) (by omega) (by omega) (by omega) (by omega) (by omega) (by omega)]; exact h7 j hj
  · rw [e 90 (by omega) (by omega) (by omega) (by omega) (by omega) (by omega)]; exact h8
  · rw [e 91 (by omega) (by omega) (by omega) (by omega) (by omega) (by omega)]; exact h9
  · rw [e 92 (by omega) (by omega) (by omega) (by omega) (by omega) (by omega)]; exact h10
  · rw [e 93 (by omega) (by omega) (by omega) (by omega) (by omega) (by omega)]; exact h11
  · rw [e 94 (by omega) (by omega) (by omega) (by omega) (by omega) (by omega)]; exact h12
  · obtain ⟨ρ, hρ⟩ := ha
    refine ⟨ρ, fun s t q1 q2 q3 => ?_⟩
    rw [g1] at q1 q2
    by_cases hs2 : s = stps r
    · subst hs2
      rw [w5] at q3
      exact absurd q3 (hs_0 (by omega))
    · rw [e (72 + s) (by omega) (by omega) (by omega) (by omega) (by omega) (by omega)] at q3
      by_cases ht2 : t = stps r
      · subst ht2
        exact absurd q3 ((h6 s (by omega)).2.2.2.2 _ (Nat.le_refl _) (by omega))
      · exact hρ s t (by omega) (by omega) q3
/-- what an action leaves -/
theorem prf_ok (ok : rok r) (ha : acy r) {act a b d : Int32} (hd : bet d 0 1) (hf : flt r act a b d = 0) : rok (prfR r act a b d) ∧ acy (prfR r act a b d) := by
  obtain ⟨m1, m2⟩ := rokm ok
  obtain ⟨s1, s2⟩ := roks ok
  unfold flt at hf
  unfold prfR
  by_cases a0 : act = 0
  · simp only [a0, if_true] at hf ⊢
    by_cases q1 : bet a 1 50000
    · rw [if_pos q1] at hf
      by_cases q2 : r 0 < 12
      · exact rIng_ok ok ha q2 q1
      · rw [if_neg q2] at hf; exact absurd hf n10.1
    · rw [if_neg q1] at hf; exact absurd hf n10.2.1
  · simp only [a0, if_false] at hf ⊢
    by_cases a1 : act = 1
    · simp only [a1, if_true] at hf ⊢
      by_cases q1 : bet a 1 90 ∧ bet b (-1) 3
      · rw [if_pos q1] at hf
        by_cases q2 : r 15 < 14
        · exact rStp_ok ok ha q2 q1 hd
        · rw [if_neg q2] at hf; exact absurd hf n10.1
      · rw [if_neg q1] at hf; exact absurd hf n10.2.1
    · simp only [a1, if_false] at hf ⊢
      by_cases a2 : act = 2
      · simp only [a2, if_true] at hf ⊢
        by_cases q1 : bet a 0 (r 15 - 1) ∧ bet b 0 (r 0 - 1)
        · obtain ⟨i1, i2⟩ := stp_ix ok q1.1
          obtain ⟨j1, j2⟩ := ing_ix ok q1.2
          refine ⟨rok_upd ok (fam_u s1 m1 i1 rfl ?_), acy_upd ok ha (by omega) (fun s hs0 => by omega)⟩
          rw [j2]
          exact blw_wth (rokst ok i1).2.2.2.1 (by omega) (by omega)
        · rw [if_neg q1] at hf; exact absurd hf n10.2.2
      · simp only [a2, if_false] at hf ⊢
        by_cases a3 : act = 3
        · simp only [a3, if_true] at hf ⊢
          by_cases q1 : bet a 0 (r 15 - 1) ∧ bet b 0 (r 15 - 1)
          · rw [if_pos q1] at hf
            obtain ⟨i1, i2⟩ := stp_ix ok q1.1
            obtain ⟨j1, j2⟩ := stp_ix ok q1.2
            have hno : ¬ (d = 1 ∧ (a = b ∨ hs (San r (yx b)) a)) := fun z => by
              rw [if_pos z] at hf
              exact absurd hf n10.1
            have hat : ∀ s t, s < stps r → t < stps r → hs (upd r (72 + yx a) (wth (r (72 + yx a)) b (d = 1)) (72 + s)) (Int32.ofNat t) → hs (r (72 + s)) (Int32.ofNat t) ∨ (d = 1 ∧ s = yx a ∧ t = yx b) := fun s t q2 q3 q4 => by
              rw [upd_eq] at q4
              by_cases hs2 : 72 + s = 72 + yx a
              · rw [if_pos hs2, j2, wth_hs (by omega) (by omega)] at q4
                have hs3 : s = yx a := by omega
                by_cases ht : t = yx b
                · rw [if_pos ht] at q4
                  exact Or.inr ⟨q4, hs3, ht⟩
                · rw [if_neg ht] at q4
                  rw [hs3]; exact Or.inl q4
              · rw [if_neg hs2] at q4
                exact Or.inl q4
            refine ⟨rok_upd ok (fam_n s1 m1 i1 rfl ?_), ?_⟩
            · rw [j2]
              exact blw_wth (rokst ok i1).2.2.2.2 j1 (by omega)
            · by_cases hd1 : d = 1
              · have hab : yx a ≠ yx b := fun z => hno ⟨hd1, Or.inl (by rw [i2, j2, z])⟩
                have hn2 : ¬ hs (San r (yx b)) (Int32.ofNat (yx a)) := fun z => hno ⟨hd1, Or.inr (by rw [i2]; exact z)⟩
                exact acy_need ha ok i1 j1 hab hn2 (upd_stps (by omega)) (fun s t q2 q3 q4 => (hat s t q2 q3 q4).imp id (fun z => z.2))
              · exact acy_sub ha (upd_stps (by omega)) (fun s t q2 q3 q4 => (hat s t q2 q3 q4).resolve_right (fun z => hd1 z.1))
          · rw [if_neg q1] at hf; exact absurd hf n10.2.2
        · simp only [a3, if_false] at hf ⊢
          by_cases a4 : act = 4
          · simp only [a4, if_true] at hf ⊢
            by_cases q1 : bet a 0 3
            · rw [if_pos q1] at hf
              by_cases q2 : bet b 0 3
              · exact ⟨rok_upd ok (fam_p s1 m1 (knd_ix q1).1 rfl ⟨q2.1, by have := q2.2; grind⟩), acy_upd ok ha (by omega) (fun s hs0 => by omega)⟩
              · rw [if_neg q2] at hf; exact absurd hf n10.2.1
            · rw [if_neg q1] at hf; exact absurd hf n10.2.2
          · simp only [a4, if_false] at hf ⊢
            by_cases a5 : act = 5
            · simp only [a5, if_true] at hf ⊢
              by_cases q1 : bet a 1 24 ∧ bet b 1 24
              · have k1 := rok_upd ok (fam_s s1 m1 (k := 13) (Or.inl rfl) q1.1)
                have k2 := acy_upd (k := 13) (x := a) ok ha (by omega) (fun s hs0 => by omega)
                have e1 : stps (upd r 13 a) = stps r := upd_stps (by omega)
                have e2 : many (upd r 13 a) = many r := upd_many (by omega)
                exact ⟨rok_upd k1 (fam_s (by omega) (by omega) (k := 14) (Or.inr rfl) q1.2), acy_upd k1 k2 (by omega) (fun s hs0 => by omega)⟩
              · rw [if_neg q1] at hf; exact absurd hf n10.2.1
            · simp only [a5, if_false] at hf ⊢
              by_cases a6 : act = 6
              · simp only [a6, if_true] at hf ⊢
                by_cases q1 : bet a 0 4 ∧ bet b (xsR0 2 (yx a)) (xsR0 3 (yx a))
                · exact ⟨rok_upd ok (fam_t s1 m1 (set_ix q1.1).1 rfl q1.2), acy_upd ok ha (by omega) (fun s hs0 => by omega)⟩
                · rw [if_neg q1] at hf; exact absurd hf n10.2.1
              · simp only [a6, if_false] at hf ⊢
                by_cases a7 : act = 7
                · simp only [a7, if_true] at hf ⊢
                  by_cases q1 : bet a 0 (r 0 - 1)
                  · rw [if_pos q1] at hf
                    by_cases q2 : bet b 1 50000
                    · have := ing_ix ok q1
                      exact ⟨rok_upd ok (fam_a s1 m1 this.1 rfl q2), acy_upd ok ha (by omega) (fun s hs0 => by omega)⟩
                    · rw [if_neg q2] at hf; exact absurd hf n10.2.1
                  · rw [if_neg q1] at hf; exact absurd hf n10.2.2
                · simp only [a7, if_false] at hf ⊢
                  by_cases q1 : bet a 0 (r 15 - 1)
                  · rw [if_pos q1] at hf
                    by_cases q2 : bet b 1 90
                    · have := stp_ix ok q1
                      exact ⟨rok_upd ok (fam_m s1 m1 this.1 rfl ⟨q2.1, by have := q2.2; grind⟩), acy_upd ok ha (by omega) (fun s hs0 => by omega)⟩
                    · rw [if_neg q2] at hf; exact absurd hf n10.2.1
                  · rw [if_neg q1] at hf; exact absurd hf n10.2.2
end PRES
section ACTR
variable {M : yM} {rr : Nat}
theorem yU_row (M : yM) (a j : Nat) (x : Int32) : yU M a j x = yUa M a (upd (M a) j x) := rfl
theorem yUa_row (M : yM) (a : Nat) (f : yRow) (j : Nat) (x : Int32) : yU (yUa M a f) a j x = yUa M a (upd f j x) := yUa_yU M a f j x
theorem yU2 (M : yM) (a j i : Nat) (x y : Int32) : yU (yU M a j x) a i y = yUa M a (upd (upd (M a) j x) i y) := by
  rw [yU_row M a j x, yUa_row]
theorem w_m1 : (-1 : Int64) = (-1 : Int32).toInt64 := by decide +kernel
end ACTR
