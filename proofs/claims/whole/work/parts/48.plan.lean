/-! the plan: what it is, and the reference's code for it -/
abbrev on (b e : yRow) (s : Nat) (m : Int32) : Prop := ¬ b s = -1 ∧ b s ≤ m ∧ m < e s
abbrev wet (r b e : yRow) (s : Nat) (m : Int32) : Prop := ¬ b s = -1 ∧ e s ≤ m ∧ m < e s + r 92
abbrev dn (b e : yRow) (s : Nat) (m : Int32) : Prop := ¬ b s = -1 ∧ e s ≤ m
def Sbz (r b e : yRow) (m : Int32) : Nat := cnt (fun s => r (44 + s) = 1 ∧ on b e s m) (stps r)
def Siu (r b e : yRow) (kd m : Int32) : Nat := cnt (fun s => r (30 + s) = kd ∧ on b e s m) (stps r)
def Swa (r b e : yRow) (kd m : Int32) : Nat := cnt (fun s => r (30 + s) = kd ∧ wet r b e s m) (stps r)
def Sdn (r b e : yRow) (m : Int32) : Nat := cnt (fun s => dn b e s m) (stps r)
abbrev Scan (r b e : yRow) (s : Nat) (m : Int32) : Prop := b s = -1 ∧ (∀ t, t < stps r → nd r s t → dn b e t m) ∧ (r (44 + s) = 0 ∨ Int32.ofNat (Sbz r b e m) < r 93) ∧ (r (30 + s) = -1 ∨ Int32.ofNat (Siu r b e (r (30 + s)) m + Swa r b e (r (30 + s)) m) < r (86 + yx (r (30 + s))))
def Srk (r : yRow) (s : Nat) : Int32 := if r 94 = 1 then r (16 + s) else if r 94 = 2 then Int32.ofNat (Wf r s) else if r 94 = 3 then bts (Snb r (Int32.ofNat s)) (stps r) else 0
def Snxf (r b e : yRow) (m : Int32) (s : Nat) (a : Int32) : Int32 := if Scan r b e s m ∧ (a = -1 ∨ ¬ (Srk r s ≤ Srk r (yx a))) then Int32.ofNat s else a
def Snx (r b e : yRow) (m : Int32) : Int32 := yfo (Snxf r b e m) 0 (stps r) (-1)
/-- the next minute behind m in which a step that ends at x, or its pan, is free -/
def Sth (r : yRow) (x m : Int32) : Int32 := if x ≤ m then (if x + r 92 ≤ m then -1 else x + r 92) else x
def Sltf (r b e : yRow) (m : Int32) (s : Nat) (a : Int32) : Int32 := if b s = -1 then a else if Sth r (e s) m = -1 then a else if a = -1 then Sth r (e s) m else if Sth r (e s) m < a then Sth r (e s) m else a
def Slt (r b e : yRow) (m : Int32) : Int32 := yfo (Sltf r b e m) 0 (stps r) (-1)
theorem yb_of {v : Int32} {p : Prop} [Decidable p] (h : v = 0 ∨ v = 1) (hp : v = 1 ↔ p) : v = yb p := by
  by_cases h1 : p
  · rw [yb_pos h1]; exact hp.mpr h1
  · rw [yb_neg h1]
    rcases h with h | h
    · exact h
    · exact absurd (hp.mp h) h1
theorem m1_ofN {n : Nat} (h : n < 2147483648) : ¬ Int32.ofNat n = -1 := by
  intro z
  rw [i32_eq, ofN_toInt h] at z
  have e1 : (-1 : Int32).toInt = -1 := rfl
  omega
section PLANR
variable {M : yM}
theorem c134 {n : Nat} (hn : n < 14) {m : Int32} : yX 134 0 [some (.ref 190), some (.int (Int32.ofNat n)), some (.int m)] [] M 0 0 = yI (yb (on (M 197) (M 198) n m)) M := by
  have hy : yinB (Int32.ofNat n) 14 = true := yin_ofN (by omega) (by omega)
  refine yL.I e134 ?_
  rw [if_pos hy, if_pos hy, if_pos hy, yx_ofN (by omega)]
  by_cases h1 : M 197 n = -1
  · rw [if_pos h1, yb_neg (fun z => z.1 h1)]
  · by_cases h2 : M 197 n ≤ m
    · by_cases h3 : m < M 198 n
      · rw [if_neg h1, if_pos h2, if_pos h3, yb_pos ⟨h1, h2, h3⟩]
      · rw [if_neg h1, if_pos h2, if_neg h3, yb_neg (fun z => h3 z.2.2)]
    · rw [if_neg h1, if_neg h2, yb_neg (fun z => h2 z.2.1)]
theorem x_0 (x : Int32) : x + 0 = x := by grind
theorem c135 {rr : Nat} (hr : yR rr) (ok : rok (M rr)) {m : Int32} : yX 135 0 [some (.ref 190), some (.ref rr), some (.int m), none, none] [] M 0 0 = yI (Int32.ofNat (Sbz (M rr) (M 197) (M 198) m)) M := by
  obtain ⟨s1, s2⟩ := roks ok
  refine yL.I (e135 hr) ?_
  unfold Sbz
  rw [← yfo_cnt]
  refine yloop (H := fun s a => yX 135 5 [some (.ref 190), some (.ref rr), some (.int m), some (.int a), some (.int (Int32.ofNat s))] [] M 0 0) (f := fun s a => a + yb (M rr (44 + s) = 1 ∧ on (M 197) (M 198) s m)) (N := stps (M rr)) (res := fun a => (.inl (some (.int a)), M)) ?_ ?_ (stps (M rr)) 0 0 (by omega)
  · intro s a hs1
    obtain ⟨g1, g2⟩ := rofs (c := 44) (n := s) (v := 44) (by omega) rfl
    refine yL.fr (e135_5 hr) ?_
    rw [s2, if_pos ((ofN_lt (by omega) (by omega)).mpr hs1), if_pos g1, g2, c134 (by omega), yCi_I, ofN_succ]
    simp only [yb_0]
    by_cases h1 : M rr (44 + s) = 1
    · by_cases h2 : on (M 197) (M 198) s m
      · rw [if_pos h1, if_neg (not_not_intro h2), yb_pos ⟨h1, h2⟩]
      · rw [if_pos h1, if_pos h2, yb_neg (fun z => h2 z.2)]
    · rw [if_neg h1, yb_neg (fun z => h1 z.1)]
  · intro a
    refine yL.I (e135_5 hr) ?_
    rw [s2, if_neg (by rw [ofN_lt (by omega) (by omega)]; omega)]
theorem c136 {rr : Nat} (hr : yR rr) (ok : rok (M rr)) {kd m : Int32} : yX 136 0 [some (.ref 190), some (.ref rr), some (.int kd), some (.int m), none, none] [] M 0 0 = yI (Int32.ofNat (Siu (M rr) (M 197) (M 198) kd m)) M := by
  obtain ⟨s1, s2⟩ := roks ok
  refine yL.I (e136 hr) ?_
  unfold Siu
  rw [← yfo_cnt]
  refine yloop (H := fun s a => yX 136 6 [some (.ref 190), some (.ref rr), some (.int kd), some (.int m), some (.int a), some (.int (Int32.ofNat s))] [] M 0 0) (f := fun s a => a + yb (M rr (30 + s) = kd ∧ on (M 197) (M 198) s m)) (N := stps (M rr)) (res := fun a => (.inl (some (.int a)), M)) ?_ ?_ (stps (M rr)) 0 0 (by omega)
  · intro s a hs1
    obtain ⟨g1, g2⟩ := rofs (c := 30) (n := s) (v := 30) (by omega) rfl
    refine yL.fr (e136_6 hr) ?_
    rw [s2, if_pos ((ofN_lt (by omega) (by omega)).mpr hs1), if_pos g1, g2, c134 (by omega), yCi_I, ofN_succ]
    simp only [yb_0]
    by_cases h1 : M rr (30 + s) = kd
    · by_cases h2 : on (M 197) (M 198) s m
      · rw [if_pos h1, if_neg (not_not_intro h2), yb_pos ⟨h1, h2⟩]
      · rw [if_pos h1, if_pos h2, yb_neg (fun z => h2 z.2)]
    · rw [if_neg h1, yb_neg (fun z => h1 z.1)]
  · intro a
    refine yL.I (e136_6 hr) ?_
    rw [s2, if_neg (by rw [ofN_lt (by omega) (by omega)]; omega)]
theorem c137 {rr : Nat} (hr : yR rr) (ok : rok (M rr)) {kd m : Int32} : yX 137 0 [some (.ref 190), some (.ref rr), some (.int kd), some (.int m), none, none, none] [] M 0 0 = yI (Int32.ofNat (Swa (M rr) (M 197) (M 198) kd m)) M := by
  obtain ⟨s1, s2⟩ := roks ok
  refine yL.I (e137 hr) ?_
  unfold Swa
  rw [← yfo_cnt]
  have key : ∀ d s (a : Int32) (o : Option Value), s + d = stps (M rr) → yX 137 6 [some (.ref 190), some (.ref rr), some (.int kd), some (.int m), some (.int a), some (.int (Int32.ofNat s)), o] [] M 0 0 = yI (yfo (fun s a => a + yb (M rr (30 + s) = kd ∧ wet (M rr) (M 197) (M 198) s m)) s d a) M := by
    intro d
    induction d with
    | zero =>
      intro s a o h
      refine yL.I (e137_6 hr) ?_
      rw [s2, if_neg (by rw [ofN_lt (by omega) (by omega)]; omega)]
      rfl
    | succ d ih =>
      intro s a o h
      obtain ⟨g1, g2⟩ := rofs (c := 30) (n := s) (v := 30) (by omega) rfl
      have hy : yinB (Int32.ofNat s) 14 = true := yin_ofN (by omega) (by omega)
      have hno : ∀ o, ¬ (M rr (30 + s) = kd ∧ wet (M rr) (M 197) (M 198) s m) → yX 137 57 [some (.ref 190), some (.ref rr), some (.int kd), some (.int m), some (.int a), some (.int (Int32.ofNat s)), o] [] M 0 0 = yI (yfo (fun s a => a + yb (M rr (30 + s) = kd ∧ wet (M rr) (M 197) (M 198) s m)) s (d + 1) a) M := by
        intro o hn
        refine yL.I (e137_57 hr) ?_
        rw [if_pos g1, ofN_succ, ih _ _ _ (by omega)]
        show (if _ then yI (yfo _ (s + 1) d (a + 0)) M else _) = yI (yfo _ (s + 1) d (a + yb (M rr (30 + s) = kd ∧ wet (M rr) (M 197) (M 198) s m))) M
        rw [yb_neg hn]
        split <;> rfl
      refine yL.I (e137_6 hr) ?_
      rw [s2, if_pos ((ofN_lt (by omega) (by omega)).mpr (by omega)), if_pos hy, if_pos hy, if_pos hy, if_pos g1, g2, yx_ofN (by omega)]
      by_cases h1 : M 197 s = -1
      · rw [if_pos h1, hno _ (fun z => z.2.1 h1)]
      · by_cases h2 : M 198 s ≤ m
        · by_cases h3 : m < M 198 s + M rr 92
          · rw [if_neg h1, if_pos h2, if_pos h3, ofN_succ, ih _ _ _ (by omega), ih _ _ _ (by omega)]
            show _ = yI (yfo _ (s + 1) d (a + yb (M rr (30 + s) = kd ∧ wet (M rr) (M 197) (M 198) s m))) M
            by_cases h4 : M rr (30 + s) = kd
            · rw [if_pos h4, yb_pos ⟨h4, h1, h2, h3⟩]
            · rw [if_neg h4, yb_neg (fun z => h4 z.1)]
          · rw [if_neg h1, if_pos h2, if_neg h3, hno _ (fun z => h3 z.2.2.2)]
        · rw [if_neg h1, if_neg h2, hno _ (fun z => h2 z.2.2.1)]
  exact key _ 0 0 none (by omega)
theorem c138 {rr : Nat} (hr : yR rr) (ok : rok (M rr)) {m : Int32} : yX 138 0 [some (.ref 190), some (.ref rr), some (.int m), none, none] [] M 0 0 = yI (Int32.ofNat (Sdn (M rr) (M 197) (M 198) m)) M := by
  obtain ⟨s1, s2⟩ := roks ok
  refine yL.I (e138 hr) ?_
  unfold Sdn
  rw [← yfo_cnt]
  refine yloop (H := fun s a => yX 138 5 [some (.ref 190), some (.ref rr), some (.int m), some (.int a), some (.int (Int32.ofNat s))] [] M 0 0) (f := fun s a => a + yb (dn (M 197) (M 198) s m)) (N := stps (M rr)) (res := fun a => (.inl (some (.int a)), M)) ?_ ?_ (stps (M rr)) 0 0 (by omega)
  · intro s a hs1
    have hy : yinB (Int32.ofNat s) 14 = true := yin_ofN (by omega) (by omega)
    refine yL.fr (e138_5 hr) ?_
    rw [s2, if_pos ((ofN_lt (by omega) (by omega)).mpr hs1), if_pos hy, if_pos hy, yx_ofN (by omega), ofN_succ]
    by_cases h1 : M 197 s = -1
    · rw [if_pos h1, yb_neg (fun z => z.1 h1)]
    · by_cases h2 : M 198 s ≤ m
      · rw [if_neg h1, if_pos h2, yb_pos ⟨h1, h2⟩]
      · rw [if_neg h1, if_neg h2, yb_neg (fun z => h2 z.2)]
  · intro a
    refine yL.I (e138_5 hr) ?_
    rw [s2, if_neg (by rw [ofN_lt (by omega) (by omega)]; omega)]
theorem ix_kd {r : yRow} (ok : rok r) {s : Nat} (hs0 : s < stps r) (h : ¬ r (30 + s) = -1) : yx (r (30 + s)) < 4 ∧ r (30 + s) = Int32.ofNat (yx (r (30 + s))) := by
  obtain ⟨h1, h2⟩ := (rokst ok hs0).2.1
  obtain ⟨g1, g2⟩ := bet_nat (x := r (30 + s)) (m := 3) ⟨by grind, h2⟩ (N := 3) rfl (by omega)
  exact ⟨by omega, g2⟩
theorem c139 {rr : Nat} (hr : yR rr) (ok : rok (M rr)) {s : Nat} (hs0 : s < stps (M rr)) {m : Int32} : yX 139 0 [some (.ref 190), some (.ref rr), some (.int (Int32.ofNat s)), some (.int m), none, none] [] M 0 0 = yI (yb (Scan (M rr) (M 197) (M 198) s m)) M := by
  obtain ⟨s1, s2⟩ := roks ok
  obtain ⟨g1, g2⟩ := rofs (c := 72) (n := s) (v := 72) (by omega) rfl
  obtain ⟨g3, g4⟩ := rofs (c := 30) (n := s) (v := 30) (by omega) rfl
  obtain ⟨g5, g6⟩ := rofs (c := 44) (n := s) (v := 44) (by omega) rfl
  have loop : ∀ d t (v : Int32), t + d = stps (M rr) → (v = 0 ∨ v = 1) → ∃ v' o5, yL (yX 139 83 [some (.ref 190), some (.ref rr), some (.int (Int32.ofNat s)), some (.int m), some (.int v'), o5] [] M 0 0) (yX 139 20 [some (.ref 190), some (.ref rr), some (.int (Int32.ofNat s)), some (.int m), some (.int v), some (.int (Int32.ofNat t))] [] M 0 0) ∧ (v' = 0 ∨ v' = 1) ∧ (v' = 1 ↔ v = 1 ∧ ∀ u, t ≤ u → u < stps (M rr) → nd (M rr) s u → dn (M 197) (M 198) u m) := by
    intro d
    induction d with
    | zero =>
      intro t v h hv
      have ht : t = stps (M rr) := h
      refine ⟨v, some (.int (Int32.ofNat t)), yL.fr (e139_20 hr) ?_, hv, fun z => ⟨z, fun u h1 h2 => by omega⟩, fun z => z.1⟩
      rw [s2, if_neg (by rw [ofN_lt (by omega) (by omega)]; omega)]
    | succ d ih =>
      intro t v h hv
      by_cases h0 : v = 0
      · refine ⟨v, some (.int (Int32.ofNat t)), yL.fr (e139_20 hr) ?_, hv, fun z => by rw [h0] at z; exact absurd z (by decide), fun z => z.1⟩
        rw [s2, if_pos ((ofN_lt (by omega) (by omega)).mpr (by omega)), if_pos h0]
      · have hv1 : v = 1 := hv.resolve_left h0
        have hy : yinB (Int32.ofNat t) 14 = true := yin_ofN (by omega) (by omega)
        have hstep : ∀ v2 : Int32, (v2 = 0 ∨ v2 = 1) → (v2 = 1 ↔ (nd (M rr) s t → dn (M 197) (M 198) t m)) → yL (yX 139 20 [some (.ref 190), some (.ref rr), some (.int (Int32.ofNat s)), some (.int m), some (.int v2), some (.int (Int32.ofNat (t + 1)))] [] M 0 0) (yX 139 20 [some (.ref 190), some (.ref rr), some (.int (Int32.ofNat s)), some (.int m), some (.int v), some (.int (Int32.ofNat t))] [] M 0 0) := by
          intro v2 hv2 hp
          refine yL.fr (e139_20 hr) ?_
          rw [s2, if_pos ((ofN_lt (by omega) (by omega)).mpr (by omega)), if_neg h0, if_pos g1, g2, c110, yCi_I, if_pos hy, if_pos hy, yx_ofN (by omega), ofN_succ]
          simp only [yb_0]
          by_cases hn : nd (M rr) s t
          · rw [if_neg (not_not_intro hn)]
            by_cases h1 : M 197 t = -1
            · have : v2 = 0 := hv2.resolve_right (fun z => (hp.mp z hn).1 h1)
              rw [if_pos h1, this]
            · by_cases h2 : M 198 t ≤ m
              · have : v2 = 1 := hp.mpr (fun _ => ⟨h1, h2⟩)
                rw [if_neg h1, if_pos h2, this]
              · have : v2 = 0 := hv2.resolve_right (fun z => h2 (hp.mp z hn).2)
                rw [if_neg h1, if_neg h2, this]
          · have : v2 = 1 := hp.mpr (fun z => absurd z hn)
            rw [if_pos hn, this]
        by_cases hq : nd (M rr) s t → dn (M 197) (M 198) t m
        · obtain ⟨v', o5, a1, a2, a3⟩ := ih (t + 1) 1 (by omega) (Or.inr rfl)
          refine ⟨v', o5, fun q hq2 => hstep 1 (Or.inr rfl) ⟨fun _ => hq, fun _ => rfl⟩ q (a1 q hq2), a2, ?_⟩
          rw [a3]
          refine ⟨fun z => ⟨hv1, fun u h1 h2 h3 => ?_⟩, fun z => ⟨rfl, fun u h1 h2 h3 => z.2 u (by omega) h2 h3⟩⟩
          by_cases e : u = t
          · subst e; exact hq h3
          · exact z.2 u (by omega) h2 h3
        · obtain ⟨v', o5, a1, a2, a3⟩ := ih (t + 1) 0 (by omega) (Or.inl rfl)
          refine ⟨v', o5, fun q hq2 => hstep 0 (Or.inl rfl) ⟨fun z => absurd z (by decide), fun z => absurd z hq⟩ q (a1 q hq2), a2, ?_⟩
          rw [a3]
          refine ⟨fun z => absurd z.1 (by decide), fun z => absurd (z.2 t (Nat.le_refl _) (by omega)) hq⟩
  refine yL.I (e139 hr) ?_
  rw [if_pos (yin_ofN (by omega) (by omega)), yx_ofN (by omega)]
  have e1 : (if M 197 s = -1 then yX 139 20 [some (.ref 190), some (.ref rr), some (.int (Int32.ofNat s)), some (.int m), some (.int 1), some (.int 0)] [] M 0 0 else yX 139 20 [some (.ref 190), some (.ref rr), some (.int (Int32.ofNat s)), some (.int m), some (.int 0), some (.int 0)] [] M 0 0) = yX 139 20 [some (.ref 190), some (.ref rr), some (.int (Int32.ofNat s)), some (.int m), some (.int (yb (M 197 s = -1))), some (.int 0)] [] M 0 0 := by
    by_cases h : M 197 s = -1
    · rw [if_pos h, yb_pos h]
    · rw [if_neg h, yb_neg h]
  rw [e1]
  have hv0 : yb (M 197 s = -1) = 0 ∨ yb (M 197 s = -1) = 1 := by
    by_cases h : M 197 s = -1
    · rw [yb_pos h]; exact Or.inr rfl
    · rw [yb_neg h]; exact Or.inl rfl
  obtain ⟨v', o5, a1, a2, a3⟩ := loop (stps (M rr)) 0 (yb (M 197 s = -1)) (by omega) hv0
  refine yL.I a1 (yL.I (e139_83 hr) ?_)
  rw [if_pos g3, g4, if_pos g5, g6]
  rw [yb_1] at a3
  by_cases hA : M 197 s = -1 ∧ ∀ u, 0 ≤ u → u < stps (M rr) → nd (M rr) s u → dn (M 197) (M 198) u m
  · have hv1 : v' = 1 := a3.mpr hA
    have hnz : ¬ v' = 0 := by rw [hv1]; decide
    rw [if_neg hnz, c135 hr ok, yCi_I]
    have h118 : yX 139 118 [some (.ref 190), some (.ref rr), some (.int (Int32.ofNat s)), some (.int m), some (.int v'), some (.int (M rr (30 + s)))] [] M 0 0 = yI (yb (M rr (30 + s) = -1 ∨ Int32.ofNat (Siu (M rr) (M 197) (M 198) (M rr (30 + s)) m + Swa (M rr) (M 197) (M 198) (M rr (30 + s)) m) < M rr (86 + yx (M rr (30 + s))))) M := by
      refine yL.I (e139_118 hr) ?_
      by_cases hp : M rr (30 + s) = -1
      · rw [if_pos hp, yb_pos (Or.inl hp)]
      · obtain ⟨k1, k2⟩ := ix_kd ok hs0 hp
        obtain ⟨g7, g8⟩ := rofs (c := 86) (n := yx (M rr (30 + s))) (v := 86) (by omega) rfl
        rw [← k2] at g7 g8
        rw [if_neg hp, c136 hr ok, yCi_I, c137 hr ok, yCi_I, if_pos g7, g8, ofN_add]
        by_cases hq : Int32.ofNat (Siu (M rr) (M 197) (M 198) (M rr (30 + s)) m + Swa (M rr) (M 197) (M 198) (M rr (30 + s)) m) < M rr (86 + yx (M rr (30 + s)))
        · rw [if_pos hq, yb_pos (Or.inr hq)]
        · rw [if_neg hq, yb_neg (fun z => z.elim hp hq)]
    have h122 : yX 139 122 [some (.ref 190), some (.ref rr), some (.int (Int32.ofNat s)), some (.int m), some (.int v'), some (.int (M rr (30 + s)))] [] M 0 0 = yI 0 M := yL.I (e139_122 hr) rfl
    have hA2 : ∀ t, t < stps (M rr) → nd (M rr) s t → dn (M 197) (M 198) t m := fun t h1 h2 => hA.2 t (Nat.zero_le _) h1 h2
    rw [h118, h122]
    by_cases hc1 : M rr (44 + s) = 0
    · rw [if_pos hc1]
      congr 1
      exact yb_iff ⟨fun z => ⟨hA.1, hA2, Or.inl hc1, z⟩, fun z => z.2.2.2⟩
    · rw [if_neg hc1]
      by_cases hc2 : Int32.ofNat (Sbz (M rr) (M 197) (M 198) m) < M rr 93
      · rw [if_pos hc2]
        congr 1
        exact yb_iff ⟨fun z => ⟨hA.1, hA2, Or.inr hc2, z⟩, fun z => z.2.2.2⟩
      · rw [if_neg hc2, yb_neg (fun z => z.2.2.1.elim hc1 hc2)]
  · have hv0 : v' = 0 := a2.resolve_right (fun z => hA (a3.mp z))
    rw [if_pos hv0, yb_neg (fun z => hA ⟨z.1, fun u _ h1 h2 => z.2.1 u h1 h2⟩)]
    exact yL.I (e139_122 hr) rfl
theorem c140 {rr : Nat} (hr : yR rr) (ok : rok (M rr)) (hw : ∀ s, s < stps (M rr) → M 200 s = Int32.ofNat (Wf (M rr) s)) {s : Nat} (hs0 : s < stps (M rr)) : yX 140 0 [some (.ref 190), some (.ref rr), some (.int (Int32.ofNat s))] [] M 0 0 = yI (Srk (M rr) s) M := by
  obtain ⟨s1, s2⟩ := roks ok
  obtain ⟨g1, g2⟩ := rofs (c := 16) (n := s) (v := 16) (by omega) rfl
  have hb : ∀ v, yX 111 0 [some (.int v), some (.int (M rr 15)), none, none] [] M 0 0 = yI (bts v (stps (M rr))) M := fun v => by
    have h := c111 (s := v) (d := stps (M rr)) (M := M) (by omega)
    rw [← s2] at h
    exact h
  refine yL.I (e140 hr) ?_
  rw [if_pos g1, g2, if_pos (yin_ofN (by omega) (by omega)), yx_ofN (by omega), hw s hs0, c130 hr ok, yCi_I, hb, yCi_I]
  unfold Srk
  split
  · rfl
  · split
    · rfl
    · split <;> rfl
def ixn (a : Int32) (n : Nat) : Prop := a = -1 ∨ ∃ q, q < n ∧ a = Int32.ofNat q
theorem Snxf_ix {r b e : yRow} {m : Int32} {s : Nat} {a : Int32} {n : Nat} (hs0 : s < n) (h : ixn a n) : ixn (Snxf r b e m s a) n := by
  unfold Snxf
  split
  · exact Or.inr ⟨s, hs0, rfl⟩
  · exact h
theorem Snx_ix (r b e : yRow) (m : Int32) : ixn (Snx r b e m) (stps r) :=
  yfo_I (I := fun _ a => ixn a (stps r)) (stps r) 0 (-1) (fun s a _ h2 h3 => Snxf_ix (by omega) h3) (Or.inl rfl)
theorem c141 {rr : Nat} (hr : yR rr) (ok : rok (M rr)) (hw : ∀ s, s < stps (M rr) → M 200 s = Int32.ofNat (Wf (M rr) s)) {m : Int32} : yX 141 0 [some (.ref 190), some (.ref rr), some (.int m), none, none] [] M 0 0 = yI (Snx (M rr) (M 197) (M 198) m) M := by
  obtain ⟨s1, s2⟩ := roks ok
  refine yL.I (e141 hr) ?_
  refine yloopI (I := fun _ a => ixn a (stps (M rr))) (H := fun s a => yX 141 5 [some (.ref 190), some (.ref rr), some (.int m), some (.int a), some (.int (Int32.ofNat s))] [] M 0 0) (f := Snxf (M rr) (M 197) (M 198) m) (N := stps (M rr)) (res := fun a => (.inl (some (.int a)), M)) ?_ ?_ (stps (M rr)) 0 (-1) (by omega) (Or.inl rfl)
  · intro s a hs1 hi
    refine ⟨Snxf_ix hs1 hi, yL.fr (e141_5 hr) ?_⟩
    rw [s2, if_pos ((ofN_lt (by omega) (by omega)).mpr hs1), c139 hr ok hs1, yCi_I, ofN_succ]
    simp only [yb_0]
    unfold Snxf
    by_cases h1 : Scan (M rr) (M 197) (M 198) s m
    · rw [if_neg (not_not_intro h1)]
      by_cases h2 : a = -1
      · rw [if_pos h2, if_pos ⟨h1, Or.inl h2⟩]
      · obtain ⟨q, hq, e⟩ := hi.resolve_left h2
        rw [if_neg h2, c140 hr ok hw hs1, yCi_I]
        subst e
        rw [c140 hr ok hw hq, yCi_I, yx_ofN (by omega)]
        by_cases h3 : Srk (M rr) s ≤ Srk (M rr) q
        · rw [if_pos h3, if_neg (fun z => z.2.elim h2 (fun z => z h3))]
        · rw [if_neg h3, if_pos ⟨h1, Or.inr h3⟩]
    · rw [if_pos h1, if_neg (fun z => h1 z.1)]
  · intro a _
    refine yL.I (e141_5 hr) ?_
    rw [s2, if_neg (by rw [ofN_lt (by omega) (by omega)]; omega)]
theorem c142 {rr : Nat} (hr : yR rr) (ok : rok (M rr)) {m : Int32} : yX 142 0 [some (.ref 190), some (.ref rr), some (.int m), none, none, none, none] [] M 0 0 = yI (Slt (M rr) (M 197) (M 198) m) M := by
  obtain ⟨s1, s2⟩ := roks ok
  refine yL.I (e142 hr) ?_
  have key : ∀ d s (a : Int32) (o5 o6 : Option Value), s + d = stps (M rr) → yX 142 5 [some (.ref 190), some (.ref rr), some (.int m), some (.int a), some (.int (Int32.ofNat s)), o5, o6] [] M 0 0 = yI (yfo (Sltf (M rr) (M 197) (M 198) m) s d a) M := by
    intro d
    induction d with
    | zero =>
      intro s a o5 o6 h
      refine yL.I (e142_5 hr) ?_
      rw [s2, if_neg (by rw [ofN_lt (by omega) (by omega)]; omega)]
      rfl
    | succ d ih =>
      intro s a o5 o6 h
      have hy : yinB (Int32.ofNat s) 14 = true := yin_ofN (by omega) (by omega)
      refine yL.I (e142_5 hr) ?_
      simp only [s2, if_pos ((ofN_lt (n := s) (m := stps (M rr)) (by omega) (by omega)).mpr (by omega)), if_pos hy, yx_ofN (show s < 2147483648 by omega), ofN_succ, ih _ _ _ _ (show s + 1 + d = stps (M rr) by omega)]
      show _ = yI (yfo _ (s + 1) d (Sltf (M rr) (M 197) (M 198) m s a)) M
      by_cases h1 : M 197 s = -1
      · have e : Sltf (M rr) (M 197) (M 198) m s a = a := if_pos h1
        rw [if_pos h1, e]
      · by_cases h2 : M 198 s ≤ m
        · by_cases h3 : M 198 s + M rr 92 ≤ m
          · have e : Sltf (M rr) (M 197) (M 198) m s a = a := by
              unfold Sltf Sth
              rw [if_neg h1, if_pos h2, if_pos h3, if_pos rfl]
            rw [if_neg h1, if_pos h2, if_pos h3, e]
          · have e0 : Sth (M rr) (M 198 s) m = M 198 s + M rr 92 := by
              unfold Sth
              rw [if_pos h2, if_neg h3]
            rw [if_neg h1, if_pos h2, if_neg h3]
            by_cases h4 : M 198 s + M rr 92 = -1
            · have e : Sltf (M rr) (M 197) (M 198) m s a = a := by
                unfold Sltf
                rw [e0, if_neg h1, if_pos h4]
              rw [if_pos h4, e]
            · by_cases h5 : a = -1
              · have e : Sltf (M rr) (M 197) (M 198) m s a = M 198 s + M rr 92 := by
                  unfold Sltf
                  rw [e0, if_neg h1, if_neg h4, if_pos h5]
                rw [if_neg h4, if_pos h5, e]
              · by_cases h6 : M 198 s + M rr 92 < a
                · have e : Sltf (M rr) (M 197) (M 198) m s a = M 198 s + M rr 92 := by
                    unfold Sltf
                    rw [e0, if_neg h1, if_neg h4, if_neg h5, if_pos h6]
                  rw [if_neg h4, if_neg h5, if_pos h6, e]
                · have e : Sltf (M rr) (M 197) (M 198) m s a = a := by
                    unfold Sltf
                    rw [e0, if_neg h1, if_neg h4, if_neg h5, if_neg h6]
                  rw [if_neg h4, if_neg h5, if_neg h6, e]
        · have e0 : Sth (M rr) (M 198 s) m = M 198 s := by
            unfold Sth
            rw [if_neg h2]
          rw [if_neg h1, if_neg h2]
          by_cases h4 : M 198 s = -1
          · have e : Sltf (M rr) (M 197) (M 198) m s a = a := by
              unfold Sltf
              rw [e0, if_neg h1, if_pos h4]
            rw [if_pos h4, e]
          · by_cases h5 : a = -1
            · have e : Sltf (M rr) (M 197) (M 198) m s a = M 198 s := by
                unfold Sltf
                rw [e0, if_neg h1, if_neg h4, if_pos h5]
              rw [if_neg h4, if_pos h5, e]
            · by_cases h6 : M 198 s < a
              · have e : Sltf (M rr) (M 197) (M 198) m s a = M 198 s := by
                  unfold Sltf
                  rw [e0, if_neg h1, if_neg h4, if_neg h5, if_pos h6]
                rw [if_neg h4, if_neg h5, if_pos h6, e]
              · have e : Sltf (M rr) (M 197) (M 198) m s a = a := by
                  unfold Sltf
                  rw [e0, if_neg h1, if_neg h4, if_neg h5, if_neg h6]
                rw [if_neg h4, if_neg h5, if_neg h6, e]
  exact key _ 0 (-1) none none (by omega)
end PLANR
