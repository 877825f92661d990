/-! actions: bounds kept; the reference's code for them -/
theorem n10 : ¬ ((3 : Int32) = 0) ∧ ¬ ((2 : Int32) = 0) ∧ ¬ ((1 : Int32) = 0) := by decide
theorem blw_wth {a : Int32} {k n : Nat} {p : Prop} [Decidable p] (h : blw a n) (hk : k < n) (hn : n ≤ 32) : blw (wth a (Int32.ofNat k) p) n := by
  unfold wth
  split
  · exact blw_or h (blw_msk hk hn)
  · exact blw_clr h (by omega)
section PRES
variable {r : yRow}
theorem fam_u {k : Nat} {x : Int32} (hst : stps r ≤ 14) (hm : many r ≤ 12) {s : Nat} (hs0 : s < stps r) (hk : k = 58 + s) (hx : blw x 12) : fam r k x := by
  subst hk
  refine ⟨by omega, by omega, fun e => by omega, fun e => by omega, fun i hi e => by omega, fun t ht => ⟨fun e => by omega, fun e => by omega, fun e => by omega, fun _ => hx, fun e => by omega⟩, fun j hj e => by omega, fun e => by omega, fun e => by omega, fun e => by omega, fun e => by omega, fun e => by omega⟩
theorem fam_n {k : Nat} {x : Int32} (hst : stps r ≤ 14) (hm : many r ≤ 12) {s : Nat} (hs0 : s < stps r) (hk : k = 72 + s) (hx : blw x (stps r)) : fam r k x := by
  subst hk
  refine ⟨by omega, by omega, fun e => by omega, fun e => by omega, fun i hi e => by omega, fun t ht => ⟨fun e => by omega, fun e => by omega, fun e => by omega, fun e => by omega, fun _ => hx⟩, fun j hj e => by omega, fun e => by omega, fun e => by omega, fun e => by omega, fun e => by omega, fun e => by omega⟩
theorem fam_p {k : Nat} {x : Int32} (hst : stps r ≤ 14) (hm : many r ≤ 12) {j : Nat} (hj : j < 4) (hk : k = 86 + j) (hx : bet x 0 4) : fam r k x := by
  subst hk
  refine ⟨by omega, by omega, fun e => by omega, fun e => by omega, fun i hi e => by omega, fun t ht => ⟨fun e => by omega, fun e => by omega, fun e => by omega, fun e => by omega, fun e => by omega⟩, fun j hj e => hx, fun e => by omega, fun e => by omega, fun e => by omega, fun e => by omega, fun e => by omega⟩
theorem fam_m {k : Nat} {x : Int32} (hst : stps r ≤ 14) (hm : many r ≤ 12) {s : Nat} (hs0 : s < stps r) (hk : k = 16 + s) (hx : bet x 1 150) : fam r k x := by
  subst hk
  refine ⟨by omega, by omega, fun e => by omega, fun e => by omega, fun i hi e => by omega, fun t ht => ⟨fun _ => hx, fun e => by omega, fun e => by omega, fun e => by omega, fun e => by omega⟩, fun j hj e => by omega, fun e => by omega, fun e => by omega, fun e => by omega, fun e => by omega, fun e => by omega⟩
theorem fam_a {k : Nat} {x : Int32} (hst : stps r ≤ 14) (hm : many r ≤ 12) {i : Nat} (hi : i < many r) (hk : k = 1 + i) (hx : bet x 1 50000) : fam r k x := by
  subst hk
  refine ⟨by omega, by omega, fun e => by omega, fun e => by omega, fun i hi e => hx, fun t ht => ⟨fun e => by omega, fun e => by omega, fun e => by omega, fun e => by omega, fun e => by omega⟩, fun j hj e => by omega, fun e => by omega, fun e => by omega, fun e => by omega, fun e => by omega, fun e => by omega⟩
theorem fam_s {k : Nat} {x : Int32} (hst : stps r ≤ 14) (hm : many r ≤ 12) (hk : k = 13 ∨ k = 14) (hx : bet x 1 24) : fam r k x := by
  refine ⟨by omega, by omega, fun e => hx, fun e => hx, fun i hi e => by omega, fun t ht => ⟨fun e => by omega, fun e => by omega, fun e => by omega, fun e => by omega, fun e => by omega⟩, fun j hj e => by omega, fun e => by omega, fun e => by omega, fun e => by omega, fun e => by omega, fun e => by omega⟩
theorem set_lims : xsR0 2 0 = 1 ∧ xsR0 3 0 = 15 ∧ xsR0 2 1 = 0 ∧ xsR0 3 1 = 2 ∧ xsR0 2 2 = 0 ∧ xsR0 3 2 = 20 ∧ xsR0 2 3 = 1 ∧ xsR0 3 3 = 3 ∧ xsR0 2 4 = 0 ∧ xsR0 3 4 = 3 := by decide +kernel
theorem fam_t {k : Nat} {x : Int32} (hst : stps r ≤ 14) (hm : many r ≤ 12) {w : Nat} (hw : w < 5) (hk : k = 90 + w) (hx : bet x (xsR0 2 w) (xsR0 3 w)) : fam r k x := by
  subst hk
  obtain ⟨l1, l2, l3, l4, l5, l6, l7, l8, l9, l10⟩ := set_lims
  refine ⟨by omega, by omega, fun e => by omega, fun e => by omega, fun i hi e => by omega, fun t ht => ⟨fun e => by omega, fun e => by omega, fun e => by omega, fun e => by omega, fun e => by omega⟩, fun j hj e => by omega, fun e => ?_, fun e => ?_, fun e => ?_, fun e => ?_, fun e => ?_⟩
  · have : w = 0 := by omega
    subst this; rw [l1, l2] at hx; exact hx
  · have : w = 1 := by omega
    subst this; rw [l3, l4] at hx; exact hx
  · have : w = 2 := by omega
    subst this; rw [l5, l6] at hx; exact hx
  · have : w = 3 := by omega
    subst this; rw [l7, l8] at hx; exact hx
  · have : w = 4 := by omega
    subst this; rw [l9, l10] at hx; exact hx
theorem rIng_ok (ok : rok r) (ha : acy r) (hlt : r 0 < 12) {g : Int32} (hg : bet g 1 50000) : rok (rIng r g) ∧ acy (rIng r g) := by
  obtain ⟨g1, g2, g3⟩ := rIng_many ok hlt g
  have hm := (rokm ok).1
  have h0 := ok.1
  have e : ∀ k, k ≠ 0 → k ≠ 1 + many r → rIng r g k = r k := fun k q1 q2 => by
    unfold rIng
    rw [upd_eq, if_neg q1, upd_eq, if_neg q2]
  have hst := (roks ok).1
  obtain ⟨h1, h2, h3, h4, h5, h6, h7, h8, h9, h10, h11, h12⟩ := ok
  refine ⟨⟨?_, ?_, ?_, ?_, fun i hi => ?_, fun s hs0 => ?_, fun j hj => ?_, ?_, ?_, ?_, ?_, ?_⟩, ?_⟩
  · have : rIng r g 0 = r 0 + 1 := by
      unfold rIng
      rw [upd_eq, if_pos rfl]
    rw [this]
    exact ⟨by grind, by grind⟩
  · rw [e 15 (by omega) (by omega)]; exact h2
  · rw [e 13 (by omega) (by omega)]; exact h3
  · rw [e 14 (by omega) (by omega)]; exact h4
  · rw [g1] at hi
    by_cases hi2 : i = many r
    · subst hi2
      have : rIng r g (1 + many r) = g := by
        unfold rIng
        rw [upd_eq, if_neg (by omega), upd_eq, if_pos rfl]
      rw [this]; exact hg
    · rw [e (1 + i) (by omega) (by omega)]; exact h5 i (by omega)
  · rw [g2] at hs0 ⊢
    rw [e (16 + s) (by omega) (by omega), e (30 + s) (by omega) (by omega), e (44 + s) (by omega) (by omega), e (58 + s) (by omega) (by omega), e (72 + s) (by omega) (by omega)]
    exact h6 s hs0
  · rw [e (86 + j) (by omega) (by omega)]; exact h7 j hj
  · rw [e 90 (by omega) (by omega)]; exact h8
  · rw [e 91 (by omega) (by omega)]; exact h9
  · rw [e 92 (by omega) (by omega)]; exact h10
  · rw [e 93 (by omega) (by omega)]; exact h11
  · rw [e 94 (by omega) (by omega)]; exact h12
  · exact acy_sub ha g2 (fun s t q1 q2 q3 => by rw [e (72 + s) (by omega) (by omega)] at q3; exact q3)
theorem rStp_at (r : yRow) (a b d : Int32) : rStp r a b d 15 = r 15 + 1 ∧ (∀ k, k ≠ 15 → k ≠ 16 + stps r → k ≠ 30 + stps r → k ≠ 44 + stps r → k ≠ 58 + stps r → k ≠ 72 + stps r → rStp r a b d k = r k) := by
  refine ⟨?_, fun k q1 q2 q3 q4 q5 q6 => ?_⟩
  · unfold rStp
    rw [upd_eq, if_pos rfl]
  · unfold rStp
    rw [upd_eq, if_neg q1, upd_eq, if_neg q6, upd_eq, if_neg q5, upd_eq, if_neg q4, upd_eq, if_neg q3, upd_eq, if_neg q2]
theorem rStp_new (hst : stps r < 14) (a b d : Int32) : rStp r a b d (16 + stps r) = a ∧ rStp r a b d (30 + stps r) = b ∧ rStp r a b d (44 + stps r) = d ∧ rStp r a b d (58 + stps r) = 0 ∧ rStp r a b d (72 + stps r) = 0 := by
  unfold rStp
  refine ⟨?_, ?_, ?_, ?_, ?_⟩
  · rw [upd_eq, if_neg (by omega), upd_eq, if_neg (by omega), upd_eq, if_neg (by omega), upd_eq, if_neg (by omega), upd_eq, if_neg (by omega), upd_eq, if_pos rfl]
  · rw [upd_eq, if_neg (by omega), upd_eq, if_neg (by omega), upd_eq, if_neg (by omega), upd_eq, if_neg (by omega), upd_eq, if_pos rfl]
  · rw [upd_eq, if_neg (by omega), upd_eq, if_neg (by omega), upd_eq, if_neg (by omega), upd_eq, if_pos rfl]
  · rw [upd_eq, if_neg (by omega), upd_eq, if_neg (by omega), upd_eq, if_pos rfl]
  · rw [upd_eq, if_neg (by omega), upd_eq, if_pos rfl]
theorem rStp_ok (ok : rok r) (ha : acy r) (hlt : r 15 < 14) {a b d : Int32} (hq : bet a 1 90 ∧ bet b (-1) 3) (hd : bet d 0 1) : rok (rStp r a b d) ∧ acy (rStp r a b d) := by
  obtain ⟨g1, g2, g3⟩ := rStp_stps ok hlt a b d
  obtain ⟨e15, e⟩ := rStp_at r a b d
  obtain ⟨w1, w2, w3, w4, w5⟩ := rStp_new g3 a b d
  have hm := (rokm ok).1
  obtain ⟨h1, h2, h3, h4, h5, h6, h7, h8, h9, h10, h11, h12⟩ := ok
  refine ⟨⟨?_, ?_, ?_, ?_, fun i hi => ?_, fun s hs0 => ?_, fun j hj => ?_, ?_, ?_, ?_, ?_, ?_⟩, ?_⟩
  · rw [e 0 (by omega) (by omega) (by omega) (by omega) (by omega) (by omega)]; exact h1
  · rw [e15]; exact ⟨by grind, by grind⟩
  · rw [e 13 (by omega) (by omega) (by omega) (by omega) (by omega) (by omega)]; exact h3
  · rw [e 14 (by omega) (by omega) (by omega) (by omega) (by omega) (by omega)]; exact h4
  · rw [g2] at hi
    rw [e (1 + i) (by omega) (by omega) (by omega) (by omega) (by omega) (by omega)]; exact h5 i hi
  · rw [g1] at hs0 ⊢
    by_cases hs2 : s = stps r
    · subst hs2
      rw [w1, w2, w3, w4, w5]
      exact ⟨⟨hq.1.1, by have := hq.1.2; grind⟩, hq.2, hd, blw_0 12, blw_0 _⟩
    · rw [e (16 + s) (by omega) (by omega) (by omega) (by omega) (by omega) (by omega), e (30 + s) (by omega) (by omega) (by omega) (by omega) (by omega) (by omega), e (44 + s) (by omega) (by omega) (by omega) (by omega) (by omega) (by omega), e (58 + s) (by omega) (by omega) (by omega) (by omega) (by omega) (by omega), e (72 + s) (by omega) (by omega) (by omega) (by omega) (by omega) (by omega)]
      obtain ⟨k1, k2, k3, k4, k5⟩ := h6 s (by omega)
      exact ⟨k1, k2, k3, k4, blw_mono k5 (by omega)⟩
  · rw [e (86 + j) (by omega) (by omega) (by omega) (by omega) (by omega) (by omega)]; exact h7 j hj
  · rw [e 90 (by omega) (by omega) (by omega) (by omega) (by omega) (by omega)]; exact h8
  · rw [e 91 (by omega) (by omega) (by omega) (by omega) (by omega) (by omega)]; exact h9
  · rw [e 92 (by omega) (by omega) (by omega) (by omega) (by omega) (by omega)]; exact h10
  · rw [e 93 (by omega) (by omega) (by omega) (by omega) (by omega) (by omega)]; exact h11
  · rw [e 94 (by omega) (by omega) (by omega) (by omega) (by omega) (by omega)]; exact h12
  · obtain ⟨ρ, hρ⟩ := ha
    refine ⟨ρ, fun s t q1 q2 q3 => ?_⟩
    rw [g1] at q1 q2
    by_cases hs2 : s = stps r
    · subst hs2
      rw [w5] at q3
      exact absurd q3 (hs_0 (by omega))
    · rw [e (72 + s) (by omega) (by omega) (by omega) (by omega) (by omega) (by omega)] at q3
      by_cases ht2 : t = stps r
      · subst ht2
        exact absurd q3 ((h6 s (by omega)).2.2.2.2 _ (Nat.le_refl _) (by omega))
      · exact hρ s t (by omega) (by omega) q3
/-- what an action leaves -/
theorem prf_ok (ok : rok r) (ha : acy r) {act a b d : Int32} (hd : bet d 0 1) (hf : flt r act a b d = 0) : rok (prfR r act a b d) ∧ acy (prfR r act a b d) := by
  obtain ⟨m1, m2⟩ := rokm ok
  obtain ⟨s1, s2⟩ := roks ok
  unfold flt at hf
  unfold prfR
  by_cases a0 : act = 0
  · simp only [a0, if_true] at hf ⊢
    by_cases q1 : bet a 1 50000
    · rw [if_pos q1] at hf
      by_cases q2 : r 0 < 12
      · exact rIng_ok ok ha q2 q1
      · rw [if_neg q2] at hf; exact absurd hf n10.1
    · rw [if_neg q1] at hf; exact absurd hf n10.2.1
  · simp only [a0, if_false] at hf ⊢
    by_cases a1 : act = 1
    · simp only [a1, if_true] at hf ⊢
      by_cases q1 : bet a 1 90 ∧ bet b (-1) 3
      · rw [if_pos q1] at hf
        by_cases q2 : r 15 < 14
        · exact rStp_ok ok ha q2 q1 hd
        · rw [if_neg q2] at hf; exact absurd hf n10.1
      · rw [if_neg q1] at hf; exact absurd hf n10.2.1
    · simp only [a1, if_false] at hf ⊢
      by_cases a2 : act = 2
      · simp only [a2, if_true] at hf ⊢
        by_cases q1 : bet a 0 (r 15 - 1) ∧ bet b 0 (r 0 - 1)
        · obtain ⟨i1, i2⟩ := stp_ix ok q1.1
          obtain ⟨j1, j2⟩ := ing_ix ok q1.2
          refine ⟨rok_upd ok (fam_u s1 m1 i1 rfl ?_), acy_upd ok ha (by omega) (fun s hs0 => by omega)⟩
          rw [j2]
          exact blw_wth (rokst ok i1).2.2.2.1 (by omega) (by omega)
        · rw [if_neg q1] at hf; exact absurd hf n10.2.2
      · simp only [a2, if_false] at hf ⊢
        by_cases a3 : act = 3
        · simp only [a3, if_true] at hf ⊢
          by_cases q1 : bet a 0 (r 15 - 1) ∧ bet b 0 (r 15 - 1)
          · rw [if_pos q1] at hf
            obtain ⟨i1, i2⟩ := stp_ix ok q1.1
            obtain ⟨j1, j2⟩ := stp_ix ok q1.2
            have hno : ¬ (d = 1 ∧ (a = b ∨ hs (San r (yx b)) a)) := fun z => by
              rw [if_pos z] at hf
              exact absurd hf n10.1
            have hat : ∀ s t, s < stps r → t < stps r → hs (upd r (72 + yx a) (wth (r (72 + yx a)) b (d = 1)) (72 + s)) (Int32.ofNat t) → hs (r (72 + s)) (Int32.ofNat t) ∨ (d = 1 ∧ s = yx a ∧ t = yx b) := fun s t q2 q3 q4 => by
              rw [upd_eq] at q4
              by_cases hs2 : 72 + s = 72 + yx a
              · rw [if_pos hs2, j2, wth_hs (by omega) (by omega)] at q4
                have hs3 : s = yx a := by omega
                by_cases ht : t = yx b
                · rw [if_pos ht] at q4
                  exact Or.inr ⟨q4, hs3, ht⟩
                · rw [if_neg ht] at q4
                  rw [hs3]; exact Or.inl q4
              · rw [if_neg hs2] at q4
                exact Or.inl q4
            refine ⟨rok_upd ok (fam_n s1 m1 i1 rfl ?_), ?_⟩
            · rw [j2]
              exact blw_wth (rokst ok i1).2.2.2.2 j1 (by omega)
            · by_cases hd1 : d = 1
              · have hab : yx a ≠ yx b := fun z => hno ⟨hd1, Or.inl (by rw [i2, j2, z])⟩
                have hn2 : ¬ hs (San r (yx b)) (Int32.ofNat (yx a)) := fun z => hno ⟨hd1, Or.inr (by rw [i2]; exact z)⟩
                exact acy_need ha ok i1 j1 hab hn2 (upd_stps (by omega)) (fun s t q2 q3 q4 => (hat s t q2 q3 q4).imp id (fun z => z.2))
              · exact acy_sub ha (upd_stps (by omega)) (fun s t q2 q3 q4 => (hat s t q2 q3 q4).resolve_right (fun z => hd1 z.1))
          · rw [if_neg q1] at hf; exact absurd hf n10.2.2
        · simp only [a3, if_false] at hf ⊢
          by_cases a4 : act = 4
          · simp only [a4, if_true] at hf ⊢
            by_cases q1 : bet a 0 3
            · rw [if_pos q1] at hf
              by_cases q2 : bet b 0 3
              · exact ⟨rok_upd ok (fam_p s1 m1 (knd_ix q1).1 rfl ⟨q2.1, by have := q2.2; grind⟩), acy_upd ok ha (by omega) (fun s hs0 => by omega)⟩
              · rw [if_neg q2] at hf; exact absurd hf n10.2.1
            · rw [if_neg q1] at hf; exact absurd hf n10.2.2
          · simp only [a4, if_false] at hf ⊢
            by_cases a5 : act = 5
            · simp only [a5, if_true] at hf ⊢
              by_cases q1 : bet a 1 24 ∧ bet b 1 24
              · have k1 := rok_upd ok (fam_s s1 m1 (k := 13) (Or.inl rfl) q1.1)
                have k2 := acy_upd (k := 13) (x := a) ok ha (by omega) (fun s hs0 => by omega)
                have e1 : stps (upd r 13 a) = stps r := upd_stps (by omega)
                have e2 : many (upd r 13 a) = many r := upd_many (by omega)
                exact ⟨rok_upd k1 (fam_s (by omega) (by omega) (k := 14) (Or.inr rfl) q1.2), acy_upd k1 k2 (by omega) (fun s hs0 => by omega)⟩
              · rw [if_neg q1] at hf; exact absurd hf n10.2.1
            · simp only [a5, if_false] at hf ⊢
              by_cases a6 : act = 6
              · simp only [a6, if_true] at hf ⊢
                by_cases q1 : bet a 0 4 ∧ bet b (xsR0 2 (yx a)) (xsR0 3 (yx a))
                · exact ⟨rok_upd ok (fam_t s1 m1 (set_ix q1.1).1 rfl q1.2), acy_upd ok ha (by omega) (fun s hs0 => by omega)⟩
                · rw [if_neg q1] at hf; exact absurd hf n10.2.1
              · simp only [a6, if_false] at hf ⊢
                by_cases a7 : act = 7
                · simp only [a7, if_true] at hf ⊢
                  by_cases q1 : bet a 0 (r 0 - 1)
                  · rw [if_pos q1] at hf
                    by_cases q2 : bet b 1 50000
                    · have := ing_ix ok q1
                      exact ⟨rok_upd ok (fam_a s1 m1 this.1 rfl q2), acy_upd ok ha (by omega) (fun s hs0 => by omega)⟩
                    · rw [if_neg q2] at hf; exact absurd hf n10.2.1
                  · rw [if_neg q1] at hf; exact absurd hf n10.2.2
                · simp only [a7, if_false] at hf ⊢
                  by_cases q1 : bet a 0 (r 15 - 1)
                  · rw [if_pos q1] at hf
                    by_cases q2 : bet b 1 90
                    · have := stp_ix ok q1
                      exact ⟨rok_upd ok (fam_m s1 m1 this.1 rfl ⟨q2.1, by have := q2.2; grind⟩), acy_upd ok ha (by omega) (fun s hs0 => by omega)⟩
                    · rw [if_neg q2] at hf; exact absurd hf n10.2.1
                  · rw [if_neg q1] at hf; exact absurd hf n10.2.2
end PRES
section ACTR
variable {M : yM} {rr : Nat}
theorem yU_row (M : yM) (a j : Nat) (x : Int32) : yU M a j x = yUa M a (upd (M a) j x) := rfl
theorem yUa_row (M : yM) (a : Nat) (f : yRow) (j : Nat) (x : Int32) : yU (yUa M a f) a j x = yUa M a (upd f j x) := yUa_yU M a f j x
theorem yU2 (M : yM) (a j i : Nat) (x y : Int32) : yU (yU M a j x) a i y = yUa M a (upd (upd (M a) j x) i y) := by
  rw [yU_row M a j x, yUa_row]
theorem c146 (hr : yR rr) {k x : Int32} (hk : yinB k 95 = true) : yX 146 0 [some (.ref rr), some (.int k), some (.int x), none] [] M 0 0 = yI (M rr (yx k)) (yUa M rr (upd (M rr) (yx k) x)) := by
  refine yL.I (e146 hr) ?_
  rw [if_pos hk, if_pos hk]
  rfl
theorem c147 (hr : yR rr) (ok : rok (M rr)) (hlt : M rr 0 < 12) {g : Int32} : yX 147 0 [some (.ref rr), some (.int g)] [] M 0 0 = yI (M rr 0) (yUa M rr (rIng (M rr) g)) := by
  obtain ⟨m1, m2⟩ := rokm ok
  have hlt2 : many (M rr) < 12 := (rIng_many ok hlt g).2.2
  obtain ⟨g1, g2⟩ := rofs (c := 1) (n := many (M rr)) (v := 1) (by omega) rfl
  rw [← m2] at g1 g2
  refine yL.I (e147 hr) ?_
  rw [if_pos g1, g2, yLet_eq, if_pos in_lits.2.2.2.2.2.2.1, yLet_eq, yx_lits.2.2.2.2.2.2.1, yU2, yUa_at, upd_eq, if_pos rfl, yU_at, upd_eq, if_neg (by omega)]
  have : M rr 0 + 1 - 1 = M rr 0 := by grind
  rw [this]
  rfl
theorem c150 (hr : yR rr) (ok : rok (M rr)) (hlt : M rr 15 < 14) {a b d : Int32} (hd : bet d 0 1) : yX 150 0 [some (.ref rr), some (.int a), some (.int b), some (.int d), none] [] M 0 0 = yI (M rr 15) (yUa M rr (rStp (M rr) a b d)) := by
  obtain ⟨s1, s2⟩ := roks ok
  have hlt2 : stps (M rr) < 14 := (rStp_stps ok hlt a b d).2.2
  obtain ⟨g1, g2⟩ := rofs (c := 16) (n := stps (M rr)) (v := 16) (by omega) rfl
  obtain ⟨g3, g4⟩ := rofs (c := 30) (n := stps (M rr)) (v := 30) (by omega) rfl
  obtain ⟨g5, g6⟩ := rofs (c := 44) (n := stps (M rr)) (v := 44) (by omega) rfl
  obtain ⟨g7, g8⟩ := rofs (c := 58) (n := stps (M rr)) (v := 58) (by omega) rfl
  obtain ⟨g9, g10⟩ := rofs (c := 72) (n := stps (M rr)) (v := 72) (by omega) rfl
  rw [← s2] at g1 g2 g3 g4 g5 g6 g7 g8 g9 g10
  have fin : ∀ x : Int32, (yUa M rr (upd (upd (upd (upd (upd (M rr) (16 + stps (M rr)) a) (30 + stps (M rr)) b) (44 + stps (M rr)) x) (58 + stps (M rr)) 0) (72 + stps (M rr)) 0)) rr 15 = M rr 15 := fun x => by
    rw [yUa_at, upd_eq, if_neg (by omega), upd_eq, if_neg (by omega), upd_eq, if_neg (by omega), upd_eq, if_neg (by omega), upd_eq, if_neg (by omega)]
  refine yL.I (e150 hr) ?_
  have hx : ∀ x : Int32, yU (yU (yU (yU (yU (yU M rr (16 + stps (M rr)) a) rr (30 + stps (M rr)) b) rr (44 + stps (M rr)) x) rr (58 + stps (M rr)) 0) rr (72 + stps (M rr)) 0) rr 15 (M rr 15 + 1) = yUa M rr (rStp (M rr) a b x) := fun x => by
    rw [yU2 M rr (16 + stps (M rr)) (30 + stps (M rr)) a b, yUa_row, yUa_row, yUa_row, yUa_row]
    rfl
  have hy : ∀ x : Int32, yU (yU (yU (yU (yU M rr (16 + stps (M rr)) a) rr (30 + stps (M rr)) b) rr (44 + stps (M rr)) x) rr (58 + stps (M rr)) 0) rr (72 + stps (M rr)) 0 rr 15 = M rr 15 := fun x => by
    rw [yU2 M rr (16 + stps (M rr)) (30 + stps (M rr)) a b, yUa_row, yUa_row, yUa_row]
    exact fin x
  by_cases hd0 : d = 0
  · rw [if_pos g1, g2, yLet_eq, if_pos g3, g4, yLet_eq, if_pos hd0, if_pos g5, g6, yLet_eq, if_pos g7, g8, yLet_eq, if_pos g9, g10, yLet_eq, if_pos in_lits.2.2.2.2.2.2.2, yLet_eq, yx_lits.2.2.2.2.2.2.2, hy, hx, hd0]
  · have hd1 : d = 1 := by grind
    rw [if_pos g1, g2, yLet_eq, if_pos g3, g4, yLet_eq, if_neg hd0, if_pos g5, g6, yLet_eq, if_pos g7, g8, yLet_eq, if_pos g9, g10, yLet_eq, if_pos in_lits.2.2.2.2.2.2.2, yLet_eq, yx_lits.2.2.2.2.2.2.2, hy, hx, hd1]
theorem c151 (hr : yR rr) (ok : rok (M rr)) {a b d : Int32} (hd : bet d 0 1) (hq : bet a 0 (M rr 15 - 1)) : yX 151 0 [some (.ref rr), some (.int a), some (.int b), some (.int d), none] [] M 0 0 = yI (bts (wth (M rr (58 + yx a)) b (d = 1)) 12) (yUa M rr (upd (M rr) (58 + yx a) (wth (M rr (58 + yx a)) b (d = 1)))) := by
  obtain ⟨s1, s2⟩ := roks ok
  obtain ⟨i1, i2⟩ := stp_ix ok hq
  obtain ⟨g1, g2⟩ := rofs (c := 58) (n := yx a) (v := 58) (by omega) rfl
  rw [← i2] at g1 g2
  have hb : ∀ (x : Int32) (M : yM), yX 111 0 [some (.int x), some (.int 12), none, none] [] M 0 0 = yI (bts x 12) M := fun x M => c111 (d := 12) (by omega)
  refine yL.I (e151 hr) ?_
  rw [if_pos g1, if_pos g1, if_pos g1, g2, yLet_eq, yLet_eq, if_pos g1, if_pos g1, yU_row, yU_row, yUa_at, yUa_at, upd_eq, if_pos rfl, upd_eq, if_pos rfl, hb, hb, yCi_I, yCi_I]
  by_cases hd0 : d = 0
  · have : ¬ d = 1 := by grind
    rw [if_pos hd0, wth_f this]
    rfl
  · have : d = 1 := by grind
    rw [if_neg hd0, wth_t this]
    have e := or_msk_clr (a := M rr (58 + yx a)) (b := b)
    unfold msk at e
    rw [e]
    rfl
theorem c153 (hr : yR rr) (ok : rok (M rr)) {a b d : Int32} (hd : bet d 0 1) (hq : bet a 0 (M rr 15 - 1)) : yX 153 0 [some (.ref rr), some (.int a), some (.int b), some (.int d), none] [] M 0 0 = yI (bts (wth (M rr (72 + yx a)) b (d = 1)) 14) (yUa M rr (upd (M rr) (72 + yx a) (wth (M rr (72 + yx a)) b (d = 1)))) := by
  obtain ⟨s1, s2⟩ := roks ok
  obtain ⟨i1, i2⟩ := stp_ix ok hq
  obtain ⟨g1, g2⟩ := rofs (c := 72) (n := yx a) (v := 72) (by omega) rfl
  rw [← i2] at g1 g2
  have hb : ∀ (x : Int32) (M : yM), yX 111 0 [some (.int x), some (.int 14), none, none] [] M 0 0 = yI (bts x 14) M := fun x M => c111 (d := 14) (by omega)
  refine yL.I (e153 hr) ?_
  rw [if_pos g1, if_pos g1, if_pos g1, g2, yLet_eq, yLet_eq, if_pos g1, if_pos g1, yU_row, yU_row, yUa_at, yUa_at, upd_eq, if_pos rfl, upd_eq, if_pos rfl, hb, hb, yCi_I, yCi_I]
  by_cases hd0 : d = 0
  · have : ¬ d = 1 := by grind
    rw [if_pos hd0, wth_f this]
    rfl
  · have : d = 1 := by grind
    rw [if_neg hd0, wth_t this]
    have e := or_msk_clr (a := M rr (72 + yx a)) (b := b)
    unfold msk at e
    rw [e]
    rfl
theorem c152 (hr : yR rr) (ok : rok (M rr)) {a b d : Int32} (hd : bet d 0 1) (hq : bet b 0 (M rr 15 - 1)) : yX 152 0 [some (.ref rr), some (.int a), some (.int b), some (.int d)] [] M 0 0 = yI (yb (¬ (d = 1 ∧ (a = b ∨ hs (San (M rr) (yx b)) a)))) M := by
  obtain ⟨i1, i2⟩ := stp_ix ok hq
  have e131' : yX 131 0 [some (.ref rr), some (.int b), none, none, none] [] M 0 0 = yI (San (M rr) (yx b)) M := by
    have := c131 hr ok i1
    rw [← i2] at this
    exact this
  refine yL.I (e152 hr) ?_
  rw [e131', yCi_I, c110, yCi_I]
  simp only [yb_0]
  by_cases hd0 : d = 0
  · have hn : ¬ (d = 1 ∧ (a = b ∨ hs (San (M rr) (yx b)) a)) := fun z => by have := z.1; grind
    rw [if_pos hd0, yb_pos hn]
  · have hd1 : d = 1 := by grind
    by_cases h1 : a = b
    · rw [if_neg hd0, if_pos h1, yb_neg (not_not_intro ⟨hd1, Or.inl h1⟩)]
    · by_cases h2 : hs (San (M rr) (yx b)) a
      · rw [if_neg hd0, if_neg h1, if_neg (not_not_intro h2), yb_neg (not_not_intro ⟨hd1, Or.inr h2⟩)]
      · have hn : ¬ (d = 1 ∧ (a = b ∨ hs (San (M rr) (yx b)) a)) := fun z => z.2.elim h1 h2
        rw [if_neg hd0, if_neg h1, if_pos h2, yb_pos hn]
theorem c121 {a b : Int32} : yX 121 0 [some (.int a), some (.int b)] [] M 0 0 = yI (yb (bet a 0 4 ∧ bet b (xsR0 2 (yx a)) (xsR0 3 (yx a)))) M := by
  obtain ⟨l1, l2, l3, l4, l5, l6, l7, l8, l9, l10⟩ := set_lims
  have y0 : yx 0 = 0 ∧ yx 1 = 1 ∧ yx 2 = 2 ∧ yx 3 = 3 ∧ yx 4 = 4 := by decide +kernel
  refine yL.I e121 ?_
  simp only [c108, yCi_I, yZ_b, w_0, w_1, w_2, w_3, w_15, w_20, w_le, yb_0]
  by_cases a0 : a = 0
  · rw [if_pos a0, a0, y0.1, l1, l2]
    congr 1
    exact yb_iff ⟨fun z => ⟨⟨by decide, by decide⟩, z⟩, fun z => z.2⟩
  · by_cases a1 : a = 1
    · rw [if_neg a0, if_pos a1, a1, y0.2.1, l3, l4]
      congr 1
      exact yb_iff ⟨fun z => ⟨⟨by decide, by decide⟩, z⟩, fun z => z.2⟩
    · by_cases a2 : a = 2
      · rw [if_neg a0, if_neg a1, if_pos a2, a2, y0.2.2.1, l5, l6]
        congr 1
        exact yb_iff ⟨fun z => ⟨⟨by decide, by decide⟩, z⟩, fun z => z.2⟩
      · by_cases a3 : a = 3
        · rw [if_neg a0, if_neg a1, if_neg a2, if_pos a3, a3, y0.2.2.2.1, l7, l8]
          congr 1
          exact yb_iff ⟨fun z => ⟨⟨by decide, by decide⟩, z⟩, fun z => z.2⟩
        · by_cases a4 : a = 4
          · rw [if_neg a0, if_neg a1, if_neg a2, if_neg a3, if_pos a4, a4, y0.2.2.2.2, l9, l10]
            by_cases q : (0 ≤ b ∧ b ≤ 3)
            · rw [if_neg (not_not_intro q), yb_pos ⟨⟨by decide, by decide⟩, q⟩]
            · rw [if_pos q, yb_neg (fun z => q z.2)]
          · rw [if_neg a0, if_neg a1, if_neg a2, if_neg a3, if_neg a4, yb_neg (fun z => by have := z.1; grind)]
theorem w_m1 : (-1 : Int64) = (-1 : Int32).toInt64 := by decide +kernel
theorem c149 {a b : Int32} : yX 149 0 [some (.int a), some (.int b)] [] M 0 0 = yI (yb (bet a 1 90 ∧ bet b (-1) 3)) M := by
  refine yL.I e149 ?_
  rw [c118, yCi_I, c108, yCi_I]
  simp only [w_m1, w_3, w_le, yb_0]
  by_cases q1 : (1 ≤ a ∧ a ≤ 90)
  · by_cases q2 : (-1 ≤ b ∧ b ≤ 3)
    · rw [if_neg (not_not_intro q1), if_neg (not_not_intro q2), yb_pos ⟨q1, q2⟩]
    · rw [if_neg (not_not_intro q1), if_pos q2, yb_neg (fun z => q2 z.2)]
  · rw [if_pos q1, yb_neg (fun z => q1 z.1)]
theorem c148 (hr : yR rr) (ok : rok (M rr)) (ha : acy (M rr)) {a b : Int32} (hq : bet a 1 24 ∧ bet b 1 24) : yX 148 0 [some (.ref rr), some (.int a), some (.int b)] [] M 0 0 = yI (Sall (upd (upd (M rr) 13 a) 14 b) b) (yUa M rr (upd (upd (M rr) 13 a) 14 b)) := by
  have hok : rok (upd (upd (M rr) 13 a) 14 b) := by
    have := (prf_ok ok ha (act := 5) (a := a) (b := b) (d := 0) ⟨by decide, by decide⟩ (by unfold flt; rw [if_neg (by decide), if_neg (by decide), if_neg (by decide), if_neg (by decide), if_neg (by decide), if_pos rfl, if_pos hq])).1
    unfold prfR at this
    rw [if_neg (by decide), if_neg (by decide), if_neg (by decide), if_neg (by decide), if_neg (by decide), if_pos rfl] at this
    exact this
  have hat : (yUa M rr (upd (upd (M rr) 13 a) 14 b)) rr = upd (upd (M rr) 13 a) 14 b := yUa_at _ _ _
  refine yL.I (e148 hr) ?_
  rw [if_pos in_lits.1, yLet_eq, if_pos in_lits.2.1, yLet_eq, yx_lits.1, yx_lits.2.1, yU2, c128 hr (by rw [hat]; exact hok), yCi_I, hat]
  have : upd (upd (M rr) 13 a) 14 b 14 = b := by rw [upd_eq, if_pos rfl]
  rw [this]
end ACTR
