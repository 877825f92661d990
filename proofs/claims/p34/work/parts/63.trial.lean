/-! what would be: trials on a row that is set aside -/
theorem upd_upd (f : yRow) (k : Nat) (x y : Int32) : upd (upd f k x) k y = upd f k y := by
  funext j
  rw [upd_eq, upd_eq, upd_eq]
  by_cases e : j = k
  · rw [if_pos e, if_pos e]
  · rw [if_neg e, if_neg e, if_neg e]
theorem upd_same (f : yRow) (k : Nat) : upd f k (f k) = f := by
  funext j
  rw [upd_eq]
  by_cases e : j = k
  · rw [if_pos e, e]
  · rw [if_neg e]
theorem ycp_rj (f g : yRow) : ycp f g 95 = rj f g := rfl
theorem rj_upd {f g : yRow} {k : Nat} {x : Int32} (hk : k < 95) : rj f (upd (rj f g) k x) = rj f g := by
  funext j
  unfold rj
  by_cases h : j < 95
  · rw [if_pos h, if_pos h]
  · rw [if_neg h, if_neg h, upd_eq, if_neg (by omega), if_neg h]
/-- the counts do not look at the servings that are wanted -/
theorem Sall_cg {r r' : yRow} (h : ∀ k, k < 95 → k ≠ 14 → r k = r' k) (hm : many r ≤ 12) (w : Int32) : Sall r w = Sall r' w ∧ Soff r w = Soff r' w := by
  have e0 : many r = many r' := by unfold many; rw [h 0 (by omega) (by omega)]
  have e1 : ∀ i, i < many r → Ssc r i w = Ssc r' i w := fun i hi => by unfold Ssc; rw [h (1 + i) (by omega) (by omega), h 13 (by omega) (by omega)]
  have e2 : Sun r = Sun r' := by unfold Sun; rw [h 90 (by omega) (by omega)]
  have e3 : ∀ i, i < many r → Sro r i w = Sro r' i w := fun i hi => by unfold Sro; rw [e1 i hi, e2, h 91 (by omega) (by omega)]
  constructor
  · unfold Sall
    rw [← e0]
    refine yfo_congr _ _ _ (fun n a h1 h2 => ?_)
    unfold Ssa
    rw [e3 n (by omega), h 90 (by omega) (by omega)]
  · unfold Soff
    rw [← e0]
    refine yfo_congr _ _ _ (fun n a h1 h2 => ?_)
    rw [e3 n (by omega), e1 n (by omega)]
-- the rows that are tried
def Rpan (r g : yRow) (k : Nat) : yRow := upd (rj r g) (86 + k) (r (86 + k) + 1)
def Rsl (r g : yRow) (s n : Nat) : yRow := upd (rj r g) (16 + s) (r (16 + s) + Int32.ofNat n)
def Rbr (r g : yRow) (n : Nat) : yRow := upd (rj r g) 94 (Int32.ofNat n)
section ROWS
variable {r g : yRow}
theorem Rpan_ok (ok : rok r) (ha : acy r) (ht : tgt r) {k : Nat} (hk : k < 4) : rok (Rpan r g k) ∧ acy (Rpan r g k) := by
  have o := rj_ok (g := g) ok
  have h1 := (rokm o).1
  have h2 := (roks o).1
  refine ⟨rok_upd o (fam_p h2 h1 hk rfl ?_), acy_upd o (rj_acy ok ha) (by omega) (fun s hs0 => by omega)⟩
  obtain ⟨t1, t2⟩ := ht.1 k hk
  exact ⟨by grind, by grind⟩
theorem rj_stps (r g : yRow) : stps (rj r g) = stps r := by unfold stps; rw [rj_at (by omega)]
theorem Rsl_stps {s n : Nat} : stps (Rsl r g s n) = stps r := by unfold Rsl; rw [upd_stps (by omega), rj_stps]
theorem Rsl_ok (ok : rok r) (ha : acy r) (ht : tgt r) {s n : Nat} (hs0 : s < stps r) (hn : n ≤ 60) : rok (Rsl r g s n) ∧ acy (Rsl r g s n) := by
  have o := rj_ok (g := g) ok
  have h1 := (rokm o).1
  have h2 := (roks o).1
  have hb := ofN_bd (n := n) (v := 60) (N := 60) rfl (by omega) hn
  have e := rj_stps r g
  refine ⟨rok_upd o (fam_m h2 h1 (s := s) (by rw [e]; exact hs0) rfl ?_), acy_upd o (rj_acy ok ha) (by have := (roks ok).1; omega) (fun t ht0 => by omega)⟩
  obtain ⟨t1, t2⟩ := ht.2 s hs0
  obtain ⟨b1, b2⟩ := hb
  exact ⟨by grind, by grind⟩
theorem Rsl_0 {s : Nat} (h : s < 14) : Rsl r g s 0 = rj r g := by
  unfold Rsl
  have e0 : Int32.ofNat 0 = 0 := rfl
  rw [e0, x_0]
  conv => lhs; rw [← rj_at (f := r) (g := g) (show 16 + s < 95 by omega)]
  exact upd_same _ _
theorem Rsl_s {s n : Nat} : upd (Rsl r g s n) (16 + s) (Rsl r g s n (16 + s) + 1) = Rsl r g s (n + 1) := by
  unfold Rsl
  rw [upd_upd, upd_eq, if_pos rfl]
  congr 1
  rw [← ofN_succ]
  grind
theorem Rbr_ok (ok : rok r) (ha : acy r) {n : Nat} (hn : n < 4) : rok (Rbr r g n) ∧ acy (Rbr r g n) := by
  have o := rj_ok (g := g) ok
  have h1 := (rokm o).1
  have h2 := (roks o).1
  obtain ⟨_, _, _, _, _, _, _, _, l1, l2⟩ := set_lims
  refine ⟨rok_upd o (fam_t h2 h1 (w := 4) (by omega) rfl ?_), acy_upd o (rj_acy ok ha) (by omega) (fun s hs0 => by omega)⟩
  rw [l1, l2]
  exact ofN_bd (N := 3) rfl (by omega) (by omega)
end ROWS
-- outcomes
def oPan (r g : yRow) (k w : Int32) : yO := if bet k 0 3 then if bet w 0 1 then .inr (if w = 0 then Swh (Rpan r g (yx k)) (Spl (Rpan r g (yx k))) else Sstk (Rpan r g (yx k)) (Spl (Rpan r g (yx k)))) else .inl 1 else .inl 0
def oSvd (r : yRow) (w k : Int32) : yO := if bet w 1 24 ∧ bet k 0 1 then .inr (if k = 0 then Sall r w else Soff r w) else .inl 1
def Slk (r g : yRow) (s : Nat) : Nat → Nat → Int32
  | 0, n => Int32.ofNat n
  | f + 1, n => if Swh (Rsl r g s (n + 1)) (Spl (Rsl r g s (n + 1))) ≤ Swh r (Spl r) then Slk r g s f (n + 1) else Int32.ofNat n
def oSlk (r g : yRow) (s : Int32) : yO := if bet s 0 (r 15 - 1) then .inr (if (Spl r).1 (yx s) = -1 then -1 else Slk r g (yx s) 60 0) else .inl 0
abbrev y3 : Type := Int32 × Int32 × Int32
def Sbrf (r g : yRow) (n : Nat) (a : y3) : y3 := if a.1 = -1 ∨ Sstk (Rbr r g n) (Spl (Rbr r g n)) < a.2.1 ∨ (Sstk (Rbr r g n) (Spl (Rbr r g n)) = a.2.1 ∧ Swh (Rbr r g n) (Spl (Rbr r g n)) < a.2.2) then (Int32.ofNat n, Sstk (Rbr r g n) (Spl (Rbr r g n)), Swh (Rbr r g n) (Spl (Rbr r g n))) else a
def Sbr (r g : yRow) : Int32 := (yfo (Sbrf r g) 0 4 (-1, 0, 0)).1
def Sbvf (r : yRow) (n : Nat) (a : Int32 × Int32) : Int32 × Int32 := if Soff r (Int32.ofNat n) < a.2 then (Int32.ofNat n, Soff r (Int32.ofNat n)) else a
def Sbv (r : yRow) (a b : Int32) : Int32 := (yfo (Sbvf r) (yx a + 1) (yx b - yx a) (a, Soff r a)).1
def oBsv (r : yRow) (a b : Int32) : yO := if bet a 1 24 ∧ bet b a 24 then .inr (Sbv r a b) else .inl 1
theorem bit_ix {s : Int32} (h : bet s 0 1) : s = 0 ∨ s = 1 := by
  have := h.1
  have := h.2
  grind
section TRC
variable {M : yM} {A : yAb}
/-- a trial of the class touches the trial's places alone -/
theorem CR.tr (h : RelC M A) {M' : yM} (hf : ∀ a, a < 10 ∨ 41 < a → M' a = M a) (h11 : ∀ a, 11 ≤ a → a < 20 → M' a = M a) {v : Int32} {o : yO} (ho : o = .inr v) : CR (yI v M') M o A := CR.rdf h (fun a b1 b2 => by
  by_cases q : a < 10 ∨ 41 < a
  · exact hf a q
  · exact h11 a (by omega) (by omega)) ho
theorem trial (h : RelC M A) (hA : Aok A) (g : yRow) : ∃ M2, yX 2 0 [some (.ref 27), some (.ref 11)] [] M 0 0 = yV M2 ∧ rc M2 27 (rj A.1 g) ∧ ∀ a, (a < 27 ∨ 35 < a) → M2 a = M a := by
  obtain ⟨M2, a1, a2, a3⟩ := c2 (M := M) yC27 yC11 (by omega) hA.1 h.1
  exact ⟨M2, a1, rj_rc hA.1 a2, fun a ha => a3 a (by omega)⟩
theorem c80 (h : RelC M A) (hA : Aok A) (hT : Atg A) (g : yRow) {k w : Int32} : CR (yX 80 0 [some (.ref 7), some (.int k), some (.int w)] [] M 0 0) M (oPan A.1 g k w) A := by
  have ok := hA.1
  refine CR.of ?_ e80
  unfold oPan
  rw [c95, yCi_I, c91]
  by_cases q1 : bet k 0 3
  · rw [if_pos q1, if_pos q1, yCv_V, c94, yCi_I, c92]
    by_cases q2 : bet w 0 1
    · obtain ⟨i1, i2⟩ := knd_ix q1
      have hy := yin_of (n := 4) ⟨i1, i2⟩ (by omega)
      obtain ⟨M2, a1, a2, a3⟩ := trial h hA g
      obtain ⟨p1, p2⟩ := Rpan_ok (g := g) ok hA.2.1 hT.1 i1
      have e34 : M2 34 (yx k) = A.1 (86 + yx k) := by
        have : M2 34 (yx k) = rj A.1 g (86 + yx k) := a2.2.2.2.2.2.2.1 _ i1
        rw [this, rj_at (by omega)]
      obtain ⟨k1, k2⟩ := cat_86 _ i1
      have b2 : rc (yU M2 34 (yx k) (A.1 (86 + yx k) + 1)) 27 (Rpan A.1 g (yx k)) := rc_put (off := 7) a2 (rj_ok ok) (by omega) (by omega) (by omega) k1 k2
      obtain ⟨M3, d1, d2, d3, d4⟩ := c45 yP26 b2 p1 p2
      have fr : ∀ a, a < 26 ∨ 41 < a → M3 a = M a := fun a ha => by rw [d2.1 a (by omega) (by omega), yU_ne (by omega), a3 a (by omega)]
      rw [if_pos q2, if_pos q2, yCv_V, a1, yCv_V, if_pos hy, if_pos hy, e34, yLet_eq, d1, yCv_V, d3, d4]
      by_cases w0 : w = 0
      · rw [if_pos w0, if_pos w0]; exact CR.tr h (fun a ha => fr a (by omega)) (fun a b1 b3 => fr a (by omega)) rfl
      · rw [if_neg w0, if_neg w0]; exact CR.tr h (fun a ha => fr a (by omega)) (fun a b1 b3 => fr a (by omega)) rfl
    · rw [if_neg q2, if_neg q2]
      exact CR.th h rfl
  · rw [if_neg q1, if_neg q1]
    exact CR.th h rfl
theorem c81 (h : RelC M A) (hA : Aok A) {w k : Int32} : CR (yX 81 0 [some (.ref 7), some (.int w), some (.int k)] [] M 0 0) M (oSvd A.1 w k) A := by
  have hc := h.1
  have ok := hA.1
  refine CR.of ?_ e81
  unfold oSvd
  rw [c94, yCi_I]
  simp only [yb_0]
  by_cases q1 : 1 ≤ w ∧ w ≤ 24
  · rw [if_neg (not_not_intro q1), c94, yCi_I]
    simp only [yb_0]
    by_cases q2 : 0 ≤ k ∧ k ≤ 1
    · rw [if_neg (not_not_intro q2), if_pos ⟨q1, q2⟩, c92_1, yCv_V, c15 yC11 hc ok q1, yCi_I, c16 yC11 hc ok q1, yCi_I]
      by_cases k0 : k = 0
      · rw [if_pos k0, if_pos k0]; exact CR.rd h rfl
      · rw [if_neg k0, if_neg k0]; exact CR.rd h rfl
    · rw [if_pos q2, if_neg (fun z => q2 z.2), c92_0]
      exact CR.th h rfl
  · rw [if_pos q1, if_neg (fun z => q1 z.1), c92_0]
    exact CR.th h rfl
theorem c82 (h : RelC M A) (hA : Aok A) (hT : Atg A) (g : yRow) {s : Int32} : CR (yX 82 0 [some (.ref 7), some (.int s), none] [] M 0 0) M (oSlk A.1 g s) A := by
  have hc := h.1
  have ok := hA.1
  have h14 := (roks ok).1
  refine CR.of ?_ e82
  unfold oSlk
  rw [c4 yC11 hc, yCi_I, c91]
  by_cases q1 : bet s 0 (A.1 15 - 1)
  · obtain ⟨i1, i2⟩ := stp_ix ok q1
    have hy := yin_of (n := 14) ⟨show yx s < 14 by omega, i2⟩ (by omega)
    obtain ⟨M1, p1, p2, p3, p4⟩ := c45 yP10 (M := M) hc ok hA.2.1
    have f1 := CS_fr p2
    have h1 : RelC M1 A := RelC_fr h (fun a b1 b2 _ => f1 a b1 b2)
    have e20 : M1 20 (yx s) = (Spl A.1).1 (yx s) := (p2.2.2.1 _ i1).1
    rw [if_pos q1, if_pos q1, yCv_V, p1, yCv_V, if_pos hy, e20]
    by_cases q2 : (Spl A.1).1 (yx s) = -1
    · rw [if_pos q2, if_pos q2]
      exact CR.rdf h f1 rfl
    · obtain ⟨M2, a1, a2, a3⟩ := trial h1 hA g
      obtain ⟨k1, k2⟩ := cat_16 (yx s) (by omega)
      rw [if_neg q2, if_neg q2, a1, yCv_V]
      have key : ∀ f n (M2 : yM), n + f = 60 → rc M2 27 (Rsl A.1 g (yx s) n) → (∀ a, a < 26 ∨ 41 < a → M2 a = M1 a) → ∃ M3, yX 82 46 [some (.ref 7), some (.int s), some (.int (Int32.ofNat (n + 1)))] [] M2 1 6 = yI (Slk A.1 g (yx s) f n) M3 ∧ ∀ a, a < 26 ∨ 41 < a → M3 a = M1 a := by
        intro f
        induction f with
        | zero =>
          intro n M2 hn _ hf
          have hn : n = 60 := hn
          subst hn
          exact ⟨M2, yL.I e82_46 (if_neg (by decide)), hf⟩
        | succ f ih =>
          intro n M2 hn hr hf
          have e29 : M2 29 (yx s) = Rsl A.1 g (yx s) n (16 + yx s) := (hr.2.2.2.2.2.1 _ (by rw [Rsl_stps]; exact i1)).1
          have b2 : rc (yU M2 29 (yx s) (Rsl A.1 g (yx s) n (16 + yx s) + 1)) 27 (Rsl A.1 g (yx s) (n + 1)) := by
            rw [← Rsl_s]
            exact rc_put (off := 2) hr (Rsl_ok ok hA.2.1 hT.1 i1 (by omega)).1 (by omega) (by omega) (by omega) k1 k2
          obtain ⟨o1, o2⟩ := Rsl_ok (g := g) ok hA.2.1 hT.1 i1 (show n + 1 ≤ 60 by omega)
          obtain ⟨M3, d1, d2, d3, d4⟩ := c45 yP26 b2 o1 o2
          have fr : ∀ a, a < 26 ∨ 41 < a → M3 a = M1 a := fun a ha => by rw [d2.1 a (by omega) (by omega), yU_ne (by omega), hf a ha]
          have e10 : M3 10 8 = Swh A.1 (Spl A.1) := by rw [fr 10 (by omega)]; exact p4
          have hle : Int32.ofNat (n + 1) ≤ 60 := (ofN_bd (N := 60) rfl (by omega) (by omega)).2
          show ∃ M3, _ = yI (if Swh (Rsl A.1 g (yx s) (n + 1)) (Spl (Rsl A.1 g (yx s) (n + 1))) ≤ Swh A.1 (Spl A.1) then Slk A.1 g (yx s) f (n + 1) else Int32.ofNat n) M3 ∧ _
          by_cases q3 : Swh (Rsl A.1 g (yx s) (n + 1)) (Spl (Rsl A.1 g (yx s) (n + 1))) ≤ Swh A.1 (Spl A.1)
          · obtain ⟨M4, m1, m2⟩ := ih (n + 1) M3 (by omega) (rc_fr b2 (fun a h1 h2 => d2.1 a (by omega) (by omega))) fr
            refine ⟨M4, yL.I e82_46 ?_, m2⟩
            rw [if_pos hle, if_pos hy, if_pos hy, e29, yLet_eq, d1, yCv_V, d4, e10, if_pos q3, if_pos q3, ofN_succ]
            exact m1
          · refine ⟨M3, yL.I e82_46 ?_, fr⟩
            rw [if_pos hle, if_pos hy, if_pos hy, e29, yLet_eq, d1, yCv_V, d4, e10, if_neg q3, if_neg q3, ← ofN_succ]
            congr 1
            grind
      obtain ⟨M3, m1, m2⟩ := key 60 0 M2 rfl (by rw [Rsl_0 (by omega)]; exact a2) (fun a ha => a3 a (by omega))
      have m1 : yX 82 46 [some (.ref 7), some (.int s), some (.int 1)] [] M2 1 6 = yI (Slk A.1 g (yx s) 60 0) M3 := m1
      rw [m1]
      exact CR.rdf h (fun a b1 b2 => by
        by_cases q : a < 26 ∨ 41 < a
        · rw [m2 a q]; exact f1 a b1 b2
        · omega) rfl
  · rw [if_neg q1, if_neg q1]
    exact CR.th h rfl
theorem c83 (h : RelC M A) (hA : Aok A) (g : yRow) : CR (yX 83 0 [some (.ref 7), none, none, none, none, none, none, none] [] M 0 0) M (.inr (Sbr A.1 g)) A := by
  have ok := hA.1
  obtain ⟨M2, a1, a2, a3⟩ := trial h hA g
  obtain ⟨k1, k2⟩ := cat_90 4 (by omega)
  have key : ∀ d n (a : y3) (M2 : yM) o5 o6 o7, n + d = 4 → (∃ y, rc M2 27 (upd (rj A.1 g) 94 y)) → (∀ a, a < 26 ∨ 41 < a → M2 a = M a) → ∃ M3, yX 83 20 [some (.ref 7), some (.int a.1), some (.int a.2.1), some (.int a.2.2), some (.int (Int32.ofNat n)), o5, o6, o7] [] M2 0 0 = yI (yfo (Sbrf A.1 g) n d a).1 M3 ∧ ∀ a, a < 26 ∨ 41 < a → M3 a = M a := by
    intro d
    induction d with
    | zero =>
      intro n a M2 o5 o6 o7 hn _ hf
      have hn : n = 4 := hn
      subst hn
      exact ⟨M2, yL.I e83_20 (if_neg (by decide)), hf⟩
    | succ d ih =>
      intro n a M2 o5 o6 o7 hn hr hf
      obtain ⟨y, hr⟩ := hr
      obtain ⟨o1, o2⟩ := Rbr_ok (g := g) ok hA.2.1 (show n < 4 by omega)
      have h94 : rok (upd (rj A.1 g) 94 y) ∨ True := Or.inr trivial
      have b2 : rc (yU M2 35 4 (Int32.ofNat n)) 27 (Rbr A.1 g n) := by
        have hm := (rokm (rj_ok (g := g) ok)).1
        have hst := (roks (rj_ok (g := g) ok)).1
        have := rc_upd (k := 94) (x := Int32.ofNat n) hr (by rw [upd_many (by omega)]; exact hm) (by rw [upd_stps (by omega)]; exact hst) (by omega) (by omega) (by omega)
        rw [upd_upd] at this
        unfold cat at this
        rw [k1, k2] at this
        exact this
      obtain ⟨M3, d1, d2, d3, d4⟩ := c45 yP26 b2 o1 o2
      have fr : ∀ a, a < 26 ∨ 41 < a → M3 a = M a := fun a ha => by rw [d2.1 a (by omega) (by omega), yU_ne (by omega), hf a ha]
      have hlt : Int32.ofNat n < 4 := ofN_lti (v := 4) (m := 4) rfl (by omega) (by omega)
      have hr3 : rc M3 27 (Rbr A.1 g n) := rc_fr b2 (fun a h1 h2 => d2.1 a (by omega) (by omega))
      have hs1 : yfo (Sbrf A.1 g) n (d + 1) a = yfo (Sbrf A.1 g) (n + 1) d (Sbrf A.1 g n a) := rfl
      have h80 : ∀ o7, Sbrf A.1 g n a = (Int32.ofNat n, Sstk (Rbr A.1 g n) (Spl (Rbr A.1 g n)), Swh (Rbr A.1 g n) (Spl (Rbr A.1 g n))) → ∃ M4, yX 83 80 [some (.ref 7), some (.int a.1), some (.int a.2.1), some (.int a.2.2), some (.int (Int32.ofNat n)), some (.int (Sstk (Rbr A.1 g n) (Spl (Rbr A.1 g n)))), some (.int (Swh (Rbr A.1 g n) (Spl (Rbr A.1 g n)))), o7] [] M3 0 0 = yI (yfo (Sbrf A.1 g) n (d + 1) a).1 M4 ∧ ∀ a, a < 26 ∨ 41 < a → M4 a = M a := by
        intro o7 he
        obtain ⟨M4, m1, m2⟩ := ih (n + 1) (Sbrf A.1 g n a) M3 (some (.int (Sstk (Rbr A.1 g n) (Spl (Rbr A.1 g n))))) (some (.int (Swh (Rbr A.1 g n) (Spl (Rbr A.1 g n))))) (some (.int 1)) (by omega) ⟨_, hr3⟩ fr
        refine ⟨M4, yL.I e83_80 ?_, m2⟩
        rw [he] at m1
        rw [hs1, he, ofN_succ]
        split <;> exact m1
      have h84 : ∀ o7, (a.1 = -1 → Sbrf A.1 g n a = (Int32.ofNat n, Sstk (Rbr A.1 g n) (Spl (Rbr A.1 g n)), Swh (Rbr A.1 g n) (Spl (Rbr A.1 g n)))) → (¬ a.1 = -1 → Sbrf A.1 g n a = a) → ∃ M4, yX 83 84 [some (.ref 7), some (.int a.1), some (.int a.2.1), some (.int a.2.2), some (.int (Int32.ofNat n)), some (.int (Sstk (Rbr A.1 g n) (Spl (Rbr A.1 g n)))), some (.int (Swh (Rbr A.1 g n) (Spl (Rbr A.1 g n)))), o7] [] M3 0 0 = yI (yfo (Sbrf A.1 g) n (d + 1) a).1 M4 ∧ ∀ a, a < 26 ∨ 41 < a → M4 a = M a := by
        intro o7 he he2
        obtain ⟨M4, m1, m2⟩ := ih (n + 1) (Sbrf A.1 g n a) M3 (some (.int (Sstk (Rbr A.1 g n) (Spl (Rbr A.1 g n))))) (some (.int (Swh (Rbr A.1 g n) (Spl (Rbr A.1 g n))))) (some (.int 0)) (by omega) ⟨_, hr3⟩ fr
        refine ⟨M4, yL.I e83_84 ?_, m2⟩
        by_cases z : a.1 = -1
        · rw [he z] at m1
          rw [if_pos z, hs1, he z, ofN_succ]
          exact m1
        · rw [he2 z] at m1
          rw [if_neg z, hs1, he2 z, ofN_succ]
          exact m1
      have hyx : yx 4 = 4 := by decide +kernel
      have hy5 : yinB 4 5 = true := by decide +kernel
      have hd : ∀ {Z : Option yRes} {v : Int32}, (∃ M4, Z = yI v M4 ∧ ∀ a, a < 26 ∨ 41 < a → M4 a = M a) → yL Z (yX 83 20 [some (.ref 7), some (.int a.1), some (.int a.2.1), some (.int a.2.2), some (.int (Int32.ofNat n)), o5, o6, o7] [] M2 0 0) → ∃ M4, yX 83 20 [some (.ref 7), some (.int a.1), some (.int a.2.1), some (.int a.2.2), some (.int (Int32.ofNat n)), o5, o6, o7] [] M2 0 0 = yI v M4 ∧ ∀ a, a < 26 ∨ 41 < a → M4 a = M a := by
        intro Z v hz hl
        obtain ⟨M4, z1, z2⟩ := hz
        exact ⟨M4, yL.I hl z1, z2⟩
      refine hd ?_ e83_20
      rw [if_pos hlt, if_pos hy5, hyx, yLet_eq, d1, yCv_V, d3, d4]
      by_cases q1 : Sstk (Rbr A.1 g n) (Spl (Rbr A.1 g n)) < a.2.1
      · rw [if_pos q1]
        exact h80 _ (by unfold Sbrf; rw [if_pos (Or.inr (Or.inl q1))])
      · rw [if_neg q1]
        by_cases q2 : Sstk (Rbr A.1 g n) (Spl (Rbr A.1 g n)) = a.2.1
        · rw [if_pos q2]
          by_cases q3 : Swh (Rbr A.1 g n) (Spl (Rbr A.1 g n)) < a.2.2
          · rw [if_pos q3]
            exact h80 _ (by unfold Sbrf; rw [if_pos (Or.inr (Or.inr ⟨q2, q3⟩))])
          · rw [if_neg q3]
            exact h84 _ (fun z => by unfold Sbrf; rw [if_pos (Or.inl z)]) (fun z => by unfold Sbrf; rw [if_neg (fun y => y.elim z (fun y => y.elim q1 (fun y => q3 y.2)))])
        · rw [if_neg q2]
          exact h84 _ (fun z => by unfold Sbrf; rw [if_pos (Or.inl z)]) (fun z => by unfold Sbrf; rw [if_neg (fun y => y.elim z (fun y => y.elim q1 (fun y => q2 y.1)))])
  obtain ⟨M3, m1, m2⟩ := key 4 0 (-1, 0, 0) M2 none none none rfl ⟨rj A.1 g 94, by rw [upd_same]; exact a2⟩ (fun a ha => a3 a (by omega))
  have m1 : yX 83 20 [some (.ref 7), some (.int (-1)), some (.int 0), some (.int 0), some (.int 0), none, none, none] [] M2 0 0 = yI (Sbr A.1 g) M3 := m1
  refine CR.of ?_ e83
  rw [a1, yCv_V, m1]
  exact CR.tr h (fun a ha => m2 a (by omega)) (fun a b1 b3 => m2 a (by omega)) rfl
theorem srv_ix {a : Int32} (h : bet a 1 24) : 1 ≤ yx a ∧ yx a ≤ 24 ∧ a = Int32.ofNat (yx a) := by
  obtain ⟨g1, g2⟩ := bet_nat (x := a) (m := 24) ⟨by have := h.1; grind, h.2⟩ (N := 24) rfl (by omega)
  refine ⟨?_, g1, g2⟩
  apply Classical.byContradiction
  intro z
  have h1 := h.1
  rw [g2, show yx a = 0 by omega] at h1
  exact absurd h1 (by decide)
theorem c84 (h : RelC M A) (hA : Aok A) {a b : Int32} : CR (yX 84 0 [some (.ref 7), some (.int a), some (.int b), none, none, none, none] [] M 0 0) M (oBsv A.1 a b) A := by
  have hc := h.1
  have ok := hA.1
  refine CR.of ?_ e84
  unfold oBsv
  rw [c94, yCi_I]
  simp only [yb_0]
  by_cases q1 : 1 ≤ a ∧ a ≤ 24
  · rw [if_neg (not_not_intro q1), c94, yCi_I]
    simp only [yb_0]
    by_cases q2 : a ≤ b ∧ b ≤ 24
    · have q3 : bet b 1 24 := ⟨by have := q1.1; have := q2.1; grind, q2.2⟩
      obtain ⟨x1, x2, x3⟩ := srv_ix q1
      obtain ⟨w1, w2, w3⟩ := srv_ix q3
      have hab : yx a ≤ yx b := by
        have := q2.1
        rw [x3, w3, ofN_leI (by omega) (by omega)] at this
        exact this
      have key : ∀ d n (p : Int32 × Int32) o6, n + d = yx b + 1 → 1 ≤ n → yX 84 45 [some (.ref 7), some (.int a), some (.int b), some (.int p.1), some (.int p.2), some (.int (Int32.ofNat n)), o6] [] M 1 6 = yI (yfo (Sbvf A.1) n d p).1 M := by
        intro d
        induction d with
        | zero =>
          intro n p o6 hn h0
          refine yL.I e84_45 (if_neg ?_)
          rw [w3, ofN_leI (by omega) (by omega)]
          omega
        | succ d ih =>
          intro n p o6 hn h0
          have hle : Int32.ofNat n ≤ b := by rw [w3, ofN_leI (by omega) (by omega)]; omega
          have hb24 : bet (Int32.ofNat n) 1 24 := ⟨by have := (ofN_leI (a := 1) (b := n) (by omega) (by omega)).mpr h0; exact this, (ofN_bd (N := 24) rfl (by omega) (by omega)).2⟩
          have hs1 : yfo (Sbvf A.1) n (d + 1) p = yfo (Sbvf A.1) (n + 1) d (Sbvf A.1 n p) := rfl
          refine yL.I e84_45 ?_
          rw [if_pos hle, c16 yC11 hc ok hb24, yCi_I, ofN_succ, hs1]
          by_cases q4 : Soff A.1 (Int32.ofNat n) < p.2
          · rw [if_pos q4]
            have : Sbvf A.1 n p = (Int32.ofNat n, Soff A.1 (Int32.ofNat n)) := by unfold Sbvf; rw [if_pos q4]
            rw [this]
            exact ih (n + 1) (Int32.ofNat n, Soff A.1 (Int32.ofNat n)) _ (by omega) (by omega)
          · rw [if_neg q4]
            have : Sbvf A.1 n p = p := by unfold Sbvf; rw [if_neg q4]
            rw [this]
            exact ih (n + 1) p _ (by omega) (by omega)
      have k0 := key (yx b - yx a) (yx a + 1) (a, Soff A.1 a) none (by omega) (by omega)
      have ea : a + 1 = Int32.ofNat (yx a + 1) := by
        conv => lhs; rw [x3]
        exact ofN_succ _
      have k0 : yX 84 45 [some (.ref 7), some (.int a), some (.int b), some (.int a), some (.int (Soff A.1 a)), some (.int (a + 1)), none] [] M 1 6 = yI (Sbv A.1 a b) M := by rw [ea]; exact k0
      rw [if_neg (not_not_intro q2), if_pos ⟨q1, q2⟩, c92_1, yCv_V, c16 yC11 hc ok q1, yCi_I, k0]
      exact CR.rd h rfl
    · rw [if_pos q2, if_neg (fun z => q2 z.2), c92_0]
      exact CR.th h rfl
  · rw [if_pos q1, if_neg (fun z => q1 z.1), c92_0]
    exact CR.th h rfl
end TRC
