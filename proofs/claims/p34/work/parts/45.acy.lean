/-! sets of steps in the class; needs without a ring -/
section SETC
variable {M : yM} {c : Nat} {r : yRow}
theorem c17 (hc : yC c) (h : rc M c r) (ok : rok r) {i : Int32} : yX 17 0 [some (.ref c), some (.int i), none, none] [] M 0 0 = yI (Sus r i) M := by
  obtain ⟨s1, s2⟩ := roks ok
  refine yL.I (e17 hc) ?_
  refine yloop (H := fun s a => yX 17 4 [some (.ref c), some (.int i), some (.int a), some (.int (Int32.ofNat s))] [] M 0 0) (f := fun s a => a + yb (hs (r (58 + s)) i)) (N := stps r) (res := fun a => (.inl (some (.int a)), M)) ?_ ?_ (stps r) 0 0 (by omega)
  · intro s a hs1
    have e := (h.2.2.2.2.2.1 s hs1).2.2.2.1
    refine yL.fr (e17_4 hc) ?_
    rw [h.2.1, s2, if_pos ((ofN_lt (by omega) (by omega)).mpr hs1), if_pos (yin_ofN (by omega) (by omega)), yx_ofN (by omega), e, c99, yCi_I, c98, yCi_I, ofN_succ]
  · intro a
    refine yL.I (e17_4 hc) ?_
    rw [h.2.1, s2, if_neg (by rw [ofN_lt (by omega) (by omega)]; omega)]
theorem c18 (hc : yC c) (h : rc M c r) (ok : rok r) : yX 18 0 [some (.ref c), none, none] [] M 0 0 = yI (Sunu r) M := by
  obtain ⟨m1, m2⟩ := rokm ok
  rw [← Sunu_cls ok]
  refine yL.I (e18 hc) ?_
  refine yloop (H := fun i a => yX 18 4 [some (.ref c), some (.int a), some (.int (Int32.ofNat i))] [] M 0 0) (f := fun i a => a + yb (Sus r (Int32.ofNat i) = 0)) (N := many r) (res := fun a => (.inl (some (.int a)), M)) ?_ ?_ (many r) 0 0 (by omega)
  · intro i a hi
    refine yL.fr (e18_4 hc) ?_
    rw [h.1, m2, if_pos ((ofN_lt (by omega) (by omega)).mpr hi), c17 hc h ok, yCi_I]
    by_cases h1 : Sus r (Int32.ofNat i) = 0
    · rw [if_pos h1, c98_1, yCi_I, ofN_succ, yb_pos h1]
    · rw [if_neg h1, c98_0, yCi_I, ofN_succ, yb_neg h1]
  · intro a
    refine yL.I (e18_4 hc) ?_
    rw [h.1, m2, if_neg (by rw [ofN_lt (by omega) (by omega)]; omega)]
theorem c19 (hc : yC c) (h : rc M c r) (ok : rok r) : yX 19 0 [some (.ref c), none, none] [] M 0 0 = yI (Smn r) M := by
  obtain ⟨s1, s2⟩ := roks ok
  refine yL.I (e19 hc) ?_
  refine yloop (H := fun s a => yX 19 4 [some (.ref c), some (.int a), some (.int (Int32.ofNat s))] [] M 0 0) (f := fun s a => a + r (16 + s)) (N := stps r) (res := fun a => (.inl (some (.int a)), M)) ?_ ?_ (stps r) 0 0 (by omega)
  · intro s a hs1
    have e := (h.2.2.2.2.2.1 s hs1).1
    refine yL.fr (e19_4 hc) ?_
    rw [h.2.1, s2, if_pos ((ofN_lt (by omega) (by omega)).mpr hs1), if_pos (yin_ofN (by omega) (by omega)), yx_ofN (by omega), e, ofN_succ]
  · intro a
    refine yL.I (e19_4 hc) ?_
    rw [h.2.1, s2, if_neg (by rw [ofN_lt (by omega) (by omega)]; omega)]
theorem clr_same {a : Int32} {t n : Nat} (h : blw a n) (ht : n ≤ t) (h32 : t < 32) : a &&& (msk (Int32.ofNat t) ^^^ (-1)) = a := by
  apply hs_ext
  intro k hk
  rw [hs_clr h32 hk]
  refine ⟨fun z => z.1, fun z => ⟨z, fun e => ?_⟩⟩
  subst e
  exact h k ht hk z
theorem c20 (hc : yC c) (h : rc M c r) (ok : rok r) {s : Int32} : yX 20 0 [some (.ref c), some (.int s), none, none] [] M 0 0 = yI (Snb r s) M := by
  obtain ⟨s1, s2⟩ := roks ok
  refine yL.I (e20 hc) ?_
  refine yloopI (I := fun t a => blw a t) (H := fun t a => yX 20 4 [some (.ref c), some (.int s), some (.int a), some (.int (Int32.ofNat t))] [] M 0 0) (f := fun t a => if hs (r (72 + t)) s then a ||| msk (Int32.ofNat t) else a) (N := stps r) (res := fun a => (.inl (some (.int a)), M)) ?_ ?_ (stps r) 0 0 (by omega) (blw_0 0)
  · intro t a ht hb
    have e := (h.2.2.2.2.2.1 t ht).2.2.2.2
    have key : wth a (Int32.ofNat t) (hs (r (72 + t)) s) = if hs (r (72 + t)) s then a ||| msk (Int32.ofNat t) else a := by
      unfold wth
      by_cases h1 : hs (r (72 + t)) s
      · rw [if_pos h1, if_pos h1]
        rfl
      · rw [if_neg h1, if_neg h1]
        exact clr_same hb (Nat.le_refl _) (by omega)
    refine ⟨?_, yL.fr (e20_4 hc) ?_⟩
    · show blw (if hs (r (72 + t)) s then a ||| msk (Int32.ofNat t) else a) (t + 1)
      split
      · exact blw_or (blw_mono hb (by omega)) (blw_msk (by omega) (by omega))
      · exact blw_mono hb (by omega)
    · rw [h.2.1, s2, if_pos ((ofN_lt (by omega) (by omega)).mpr ht), if_pos (yin_ofN (by omega) (by omega)), yx_ofN (by omega), e, c99, yCi_I, c100, yCi_I, ofN_succ, key]
  · intro a _
    refine yL.I (e20_4 hc) ?_
    rw [h.2.1, s2, if_neg (by rw [ofN_lt (by omega) (by omega)]; omega)]
theorem c21 (hc : yC c) (h : rc M c r) (ok : rok r) {s : Nat} (hs0 : s < stps r) : yX 21 0 [some (.ref c), some (.int (Int32.ofNat s)), none, none, none] [] M 0 0 = yI (San r s) M := by
  obtain ⟨s1, s2⟩ := roks ok
  have inner : ∀ d t (a : Int32) (o1 : Option Value) (x3 : Int32), t + d = stps r → ∃ o, yL (yX 21 9 [some (.ref c), o, some (.int (yfo (fun t a => if hs a (Int32.ofNat t) then a ||| r (72 + t) else a) t d a)), some (.int (x3 + 1)), some (.int (Int32.ofNat (stps r)))] [] M 0 0) (yX 21 20 [some (.ref c), o1, some (.int a), some (.int x3), some (.int (Int32.ofNat t))] [] M 0 0) := by
    intro d
    induction d with
    | zero =>
      intro t a o1 x3 hh
      refine ⟨o1, yL.fr (e21_20 hc) ?_⟩
      have ht : t = stps r := hh
      subst ht
      rw [h.2.1, s2, if_neg (by rw [ofN_lt (by omega) (by omega)]; omega)]
      rfl
    | succ d ih =>
      intro t a o1 x3 hh
      have e := (h.2.2.2.2.2.1 t (by omega)).2.2.2.2
      by_cases h1 : hs a (Int32.ofNat t)
      · obtain ⟨o, ho⟩ := ih (t + 1) (if hs a (Int32.ofNat t) then a ||| r (72 + t) else a) (xUn o1) x3 (by omega)
        refine ⟨o, fun q hq => (e21_20 hc) q ?_⟩
        have h2 := ho q hq
        rw [h.2.1, s2, if_pos ((ofN_lt (by omega) (by omega)).mpr (by omega)), c99, yCi_I]
        simp only [yb_0]
        rw [if_neg (not_not_intro h1), if_pos (yin_ofN (by omega) (by omega)), yx_ofN (by omega), e, ofN_succ]
        rw [if_pos h1] at h2
        exact h2
      · obtain ⟨o, ho⟩ := ih (t + 1) (if hs a (Int32.ofNat t) then a ||| r (72 + t) else a) o1 x3 (by omega)
        refine ⟨o, fun q hq => (e21_20 hc) q ?_⟩
        have h2 := ho q hq
        rw [h.2.1, s2, if_pos ((ofN_lt (by omega) (by omega)).mpr (by omega)), c99, yCi_I]
        simp only [yb_0]
        rw [if_pos h1, ofN_succ]
        rw [if_neg h1] at h2
        exact h2
  have outer : ∀ d n (z : Int32) (o1 o4 : Option Value), n + d = stps r → yX 21 9 [some (.ref c), o1, some (.int z), some (.int (Int32.ofNat n)), o4] [] M 0 0 = yI (yfo (fun _ z => Sar r z) n d z) M := by
    intro d
    induction d with
    | zero =>
      intro n z o1 o4 hh
      refine yL.I (e21_9 hc) ?_
      rw [h.2.1, s2, if_neg (by rw [ofN_lt (by omega) (by omega)]; omega)]
      rfl
    | succ d ih =>
      intro n z o1 o4 hh
      refine yL.I (e21_9 hc) ?_
      rw [h.2.1, s2, if_pos ((ofN_lt (by omega) (by omega)).mpr (by omega))]
      obtain ⟨o, ho⟩ := inner (stps r) 0 z o1 (Int32.ofNat n) (by omega)
      refine yL.I ho ?_
      rw [ofN_succ, ih (n + 1) _ o _ (by omega)]
      rfl
  have e := (h.2.2.2.2.2.1 s hs0).2.2.2.2
  refine yL.I (e21 hc) ?_
  rw [if_pos (yin_ofN (by omega) (by omega)), yx_ofN (by omega), e]
  exact outer (stps r) 0 _ _ _ (by omega)
end SETC
/-- needs without a ring: a step's number is above those that it needs -/
def acy (r : yRow) : Prop := ∃ ρ : Nat → Nat, ∀ s t, s < stps r → t < stps r → hs (r (72 + s)) (Int32.ofNat t) → ρ t < ρ s
def clo (r : yRow) (z : Int32) : Prop := ∀ t, t < stps r → hs z (Int32.ofNat t) → ∀ u, u < 32 → hs (r (72 + t)) (Int32.ofNat u) → hs z (Int32.ofNat u)
section CLO
variable {r : yRow}
def Sarn (r : yRow) (n : Nat) (z : Int32) : Int32 := yfo (fun t a => if hs a (Int32.ofNat t) then a ||| r (72 + t) else a) 0 n z
theorem Sarn_s (n : Nat) (z : Int32) : Sarn r (n + 1) z = if hs (Sarn r n z) (Int32.ofNat n) then Sarn r n z ||| r (72 + n) else Sarn r n z := by
  unfold Sarn
  rw [yfo_s, Nat.zero_add]
theorem Sarn_mono {z : Int32} {u : Nat} (hu : u < 32) (h : hs z (Int32.ofNat u)) : ∀ n, hs (Sarn r n z) (Int32.ofNat u) := by
  intro n
  induction n with
  | zero => exact h
  | succ n ih =>
    rw [Sarn_s]
    split
    · rw [hs_or hu]; exact Or.inl ih
    · exact ih
theorem Sarn_mono2 {z : Int32} {u : Nat} (hu : u < 32) {n : Nat} (h : hs (Sarn r n z) (Int32.ofNat u)) : ∀ d, hs (Sarn r (n + d) z) (Int32.ofNat u) := by
  intro d
  induction d with
  | zero => exact h
  | succ d ih =>
    rw [← Nat.add_assoc, Sarn_s]
    split
    · rw [hs_or hu]; exact Or.inl ih
    · exact ih
theorem Sarn_clo {z : Int32} (h : clo r z) : ∀ n, n ≤ stps r → Sarn r n z = z := by
  intro n
  induction n with
  | zero => intro _; rfl
  | succ n ih =>
    intro hn
    rw [Sarn_s, ih (by omega)]
    split
    · next h1 =>
      apply hs_ext
      intro k hk
      rw [hs_or hk]
      exact ⟨fun q => q.elim id (fun q => h n (by omega) h1 k hk q), Or.inl⟩
    · rfl
theorem Sarn_blw (ok : rok r) {z : Int32} (hz : blw z (stps r)) : ∀ n, n ≤ stps r → blw (Sarn r n z) (stps r) := by
  intro n
  induction n with
  | zero => intro _; exact hz
  | succ n ih =>
    intro hn
    rw [Sarn_s]
    split
    · exact blw_or (ih (by omega)) (rokst ok (by omega)).2.2.2.2
    · exact ih (by omega)
theorem Sar_n (z : Int32) : Sar r z = Sarn r (stps r) z := rfl
theorem Sar_grow (ok : rok r) {z : Int32} (h : ¬ clo r z) : ∃ u, u < stps r ∧ hs (Sar r z) (Int32.ofNat u) ∧ ¬ hs z (Int32.ofNat u) := by
  have hst := (roks ok).1
  apply Classical.byContradiction
  intro hn
  apply h
  intro t ht h1 u hu h2
  apply Classical.byContradiction
  intro h3
  have hu2 : u < stps r := by
    apply Classical.byContradiction
    intro h4
    exact (rokst ok ht).2.2.2.2 u (by omega) hu h2
  apply hn
  refine ⟨u, hu2, ?_, h3⟩
  have g1 := Sarn_mono (r := r) (show t < 32 by omega) h1 t
  have g2 : hs (Sarn r (t + 1) z) (Int32.ofNat u) := by
    rw [Sarn_s, if_pos g1, hs_or hu]
    exact Or.inr h2
  have g3 := Sarn_mono2 hu g2 (stps r - (t + 1))
  rw [show t + 1 + (stps r - (t + 1)) = stps r by omega] at g3
  exact g3
def cz (r : yRow) (z : Int32) : Nat := cnt (fun k => hs z (Int32.ofNat k)) (stps r)
theorem iter_clo (ok : rok r) {z : Int32} (hz : blw z (stps r)) : ∀ j, blw (yfo (fun _ z => Sar r z) 0 j z) (stps r) ∧ (clo r (yfo (fun _ z => Sar r z) 0 j z) ∨ (¬ clo r z ∧ j + cz r z ≤ cz r (yfo (fun _ z => Sar r z) 0 j z))) := by
  have hst := (roks ok).1
  intro j
  induction j with
  | zero =>
    refine ⟨hz, ?_⟩
    by_cases h : clo r z
    · exact Or.inl h
    · exact Or.inr ⟨h, by show 0 + cz r z ≤ cz r z; omega⟩
  | succ j ih =>
    rw [yfo_s]
    obtain ⟨h1, h2⟩ := ih
    generalize yfo (fun _ z => Sar r z) 0 j z = y at h1 h2 ⊢
    refine ⟨Sarn_blw ok h1 _ (Nat.le_refl _), ?_⟩
    by_cases h : clo r y
    · left
      rw [Sar_n, Sarn_clo h _ (Nat.le_refl _)]
      exact h
    · rcases h2 with h2 | ⟨h2, h3⟩
      · exact absurd h2 h
      · right
        refine ⟨h2, ?_⟩
        obtain ⟨u, g1, g2, g3⟩ := Sar_grow ok h
        have := cnt_lt (fun k => hs y (Int32.ofNat k)) (fun k => hs (Sar r y) (Int32.ofNat k)) g2 g3 (stps r) g1 (fun m hm hh => Sarn_mono (by omega) hh _)
        show j + 1 + cz r z ≤ cz r (Sar r y)
        unfold cz at h3 ⊢
        omega
theorem San_clo (ok : rok r) {s : Nat} (h0 : s < stps r) : clo r (San r s) ∧ ∀ u, u < 32 → hs (r (72 + s)) (Int32.ofNat u) → hs (San r s) (Int32.ofNat u) := by
  have hst := (roks ok).1
  constructor
  · have hz := (rokst ok h0).2.2.2.2
    rcases (iter_clo ok hz (stps r)).2 with h | ⟨h, h2⟩
    · exact h
    · exfalso
      have h3 := cnt_le (fun k => hs (yfo (fun _ z => Sar r z) 0 (stps r) (r (72 + s))) (Int32.ofNat k)) (stps r)
      have h4 : cz r (r (72 + s)) = 0 := by
        unfold cz at h2 ⊢
        omega
      have h5 := (cnt_0 _ _).mp h4
      exact h (fun t ht hh => absurd hh (h5 t ht))
  · intro u hu h
    unfold San
    generalize stps r = d
    have : ∀ d n z, hs z (Int32.ofNat u) → hs (yfo (fun _ z => Sar r z) n d z) (Int32.ofNat u) := by
      intro d
      induction d with
      | zero => intro n z h; exact h
      | succ d ih => intro n z h; exact ih (n + 1) _ (Sarn_mono hu h _)
    exact this d 0 _ h
theorem San_blw (ok : rok r) {s : Nat} (h0 : s < stps r) : blw (San r s) (stps r) := (iter_clo ok (rokst ok h0).2.2.2.2 (stps r)).1
theorem acy_sub {r' : yRow} (h : acy r) (hst : stps r' = stps r) (hn : ∀ s t, s < stps r → t < stps r → hs (r' (72 + s)) (Int32.ofNat t) → hs (r (72 + s)) (Int32.ofNat t)) : acy r' := by
  obtain ⟨ρ, hρ⟩ := h
  exact ⟨ρ, fun s t h1 h2 h3 => hρ s t (hst ▸ h1) (hst ▸ h2) (hn s t (hst ▸ h1) (hst ▸ h2) h3)⟩
theorem acy_need {r' : yRow} (h : acy r) (ok : rok r) {a b : Nat} (ha : a < stps r) (hb : b < stps r) (hab : a ≠ b) (hno : ¬ hs (San r b) (Int32.ofNat a)) (hst : stps r' = stps r) (hn : ∀ s t, s < stps r → t < stps r → hs (r' (72 + s)) (Int32.ofNat t) → hs (r (72 + s)) (Int32.ofNat t) ∨ (s = a ∧ t = b)) : acy r' := by
  have h14 := (roks ok).1
  obtain ⟨ρ, hρ⟩ := h
  obtain ⟨hc, hc2⟩ := San_clo ok hb
  refine ⟨fun s => ρ s + if ¬ hs (San r b) (Int32.ofNat s) ∧ s ≠ b then ρ b + 1 else 0, fun s t h1 h2 h3 => ?_⟩
  rw [hst] at h1 h2
  rcases hn s t h1 h2 h3 with h4 | ⟨rfl, rfl⟩
  · have h5 := hρ s t h1 h2 h4
    by_cases hp : ¬ hs (San r b) (Int32.ofNat t) ∧ t ≠ b
    · have hq : ¬ hs (San r b) (Int32.ofNat s) ∧ s ≠ b := by
        refine ⟨fun z => hp.1 (hc s h1 z t (by omega) h4), fun z => ?_⟩
        subst z
        exact hp.1 (hc2 t (by omega) h4)
      show ρ t + (if _ then _ else _) < ρ s + (if _ then _ else _)
      rw [if_pos hp, if_pos hq]
      omega
    · show ρ t + (if _ then _ else _) < ρ s + (if _ then _ else _)
      rw [if_neg hp]
      omega
  · show ρ t + (if _ then _ else _) < ρ s + (if _ then _ else _)
    have e1 : (if ¬ hs (San r t) (Int32.ofNat s) ∧ s ≠ t then ρ t + 1 else 0) = ρ t + 1 := if_pos ⟨hno, hab⟩
    have e2 : (if ¬ hs (San r t) (Int32.ofNat t) ∧ t ≠ t then ρ t + 1 else 0) = 0 := if_neg (fun z => z.2 rfl)
    rw [e1, e2]
    omega
end CLO
