/-! what a text tells: a reader goes from a place to a place, with a value or with a fault there -/
abbrev rA : Type := Nat → Nat × Option Int32
abbrev y4 : Type := Int32 × Int32 × Int32 × Int32
def gD (L : Nat) (T : Nat → Int32) (lo hi : Int32) : rA := fun p => if p < L ∧ bet (T p - 48) lo hi then (p + 1, some (T p - 48)) else (p, none)
def gC (L : Nat) (T : Nat → Int32) (c : Int32) : rA := fun p => if p < L ∧ T p = c then (p + 1, some 0) else (p, none)
def fI (q : Nat) (c : Int32) : Nat → Nat → Int32
  | 0, _ => -1
  | d + 1, j => if xsR0 q j = c then Int32.ofNat j else fI q c d (j + 1)
def gI (L : Nat) (T : Nat → Int32) (q n : Nat) : rA := fun p => if p < L ∧ ¬ fI q (T p) n 0 = -1 then (p + 1, some (fI q (T p) n 0)) else (p, none)
def gB {α : Type} (g : rA) (H : Int32 → Nat → Nat × Option α) : Nat → Nat × Option α := fun p => match g p with
  | (q, some v) => H v q
  | (q, none) => (q, none)
def gP {α : Type} (v : α) : Nat → Nat × Option α := fun p => (p, some v)
theorem gB_some {α : Type} {g : rA} {H : Int32 → Nat → Nat × Option α} {p q : Nat} {v : Int32} (h : g p = (q, some v)) : gB g H p = H v q := by unfold gB; rw [h]
theorem gB_none {α : Type} {g : rA} {H : Int32 → Nat → Nat × Option α} {p q : Nat} (h : g p = (q, none)) : gB g H p = (q, none) := by unfold gB; rw [h]
/-- a number of two digits -/
def gN (L : Nat) (T : Nat → Int32) (lo hi : Int32) : rA := gB (gD L T (lo / 10) (hi / 10)) fun v => if v = lo / 10 then (if v = hi / 10 then gB (gD L T (lo % 10) (hi % 10)) fun w => gP (10 * v + w) else gB (gD L T (lo % 10) 9) fun w => gP (10 * v + w)) else if v = hi / 10 then gB (gD L T 0 (hi % 10)) fun w => gP (10 * v + w) else gB (gD L T 0 9) fun w => gP (10 * v + w)
/-- an amount's measure, and what it tells -/
def gU (L : Nat) (T : Nat → Int32) (a b d : Int32) : rA := gB (gI L T 6 4) fun u => gP (xsR0 4 (yx u) * a + xsR0 4 (yx u) * b / d)
def gA (L : Nat) (T : Nat → Int32) : rA := gB (gN L T 0 99) fun a p => if p < L ∧ T p = 43 then gB (gD L T 1 7) (fun b => gB (gC L T 47) fun _ => gB (gD L T (b + 1) 8) fun d => gU L T a b d) (p + 1) else gU L T a 0 1 p
def gT (L : Nat) (T : Nat → Int32) (sv : Int32) : Nat → Nat × Option y4 := gB (gI L T 5 7) fun k => if k = 0 then gB (gA L T) fun a => gP (0, a, 0, 0) else if k = 1 then gB (gN L T 1 90) fun m => gB (gD L T 0 4) fun h => gB (gD L T 0 1) fun d => gP (1, m, (if bet h 0 3 then h else -1), d) else if k = 2 then gB (gN L T 0 13) fun a => gB (gN L T 0 11) fun b => gP (2, a, b, 1) else if k = 3 then gB (gN L T 0 13) fun a => gB (gN L T 0 13) fun b => gP (3, a, b, 1) else if k = 4 then gB (gD L T 0 3) fun a => gB (gD L T 0 3) fun b => gP (4, a, b, 0) else if k = 5 then gB (gN L T 1 24) fun b => gP (5, sv, b, 0) else gB (gD L T 0 3) fun b => gP (6, 4, b, 0)
-- contracts: V bears on the value also where there is a fault
section GEN
variable {P : yM → Nat → Bool → Prop} {Q : yM → Nat → y4 → Prop} {V V' W : Int32 → Prop} {X : yM → Option yRes} {F : Int32 → yM → Option yRes} {G : rA} {H : Int32 → rA} {H4 : Int32 → Nat → Nat × Option y4}
def RB (P : yM → Nat → Bool → Prop) (V : Int32 → Prop) (X : yM → Option yRes) : Prop := ∀ M p, P M p true → ∃ v M', X M = yI v M' ∧ V v ∧ P M' p true
def RG (P : yM → Nat → Bool → Prop) (V : Int32 → Prop) (X : yM → Option yRes) (G : rA) : Prop := ∀ M p, P M p false → ∃ v M', X M = yI v M' ∧ V v ∧ P M' (G p).1 (G p).2.isNone ∧ ∀ w, (G p).2 = some w → v = w
def TB (P : yM → Nat → Bool → Prop) (X : yM → Option yRes) : Prop := ∀ M p, P M p true → ∃ M', X M = yV M' ∧ P M' p true
def TG (P : yM → Nat → Bool → Prop) (Q : yM → Nat → y4 → Prop) (X : yM → Option yRes) (G : Nat → Nat × Option y4) : Prop := ∀ M p, P M p false → ∃ M', X M = yV M' ∧ (∀ q, G p = (q, none) → P M' q true) ∧ ∀ q t, G p = (q, some t) → Q M' q t
theorem RB.bind (h : RB P V X) (k : ∀ v, V v → RB P V' (F v)) : RB P V' (fun M => yCi false (X M) F) := by
  intro M p hp
  obtain ⟨v, M1, a1, a2, a3⟩ := h M p hp
  obtain ⟨v2, M2, b1, b2, b3⟩ := k v a2 M1 p a3
  exact ⟨v2, M2, by show yCi false (X M) F = _; rw [a1, yCi_I, b1], b2, b3⟩
theorem TB.bind (h : RB P V X) (k : ∀ v, V v → TB P (F v)) : TB P (fun M => yCi false (X M) F) := by
  intro M p hp
  obtain ⟨v, M1, a1, a2, a3⟩ := h M p hp
  obtain ⟨M2, b1, b3⟩ := k v a2 M1 p a3
  exact ⟨M2, by show yCi false (X M) F = _; rw [a1, yCi_I, b1], b3⟩
theorem RG.bind (h : RG P V X G) (hW : ∀ p v, (G p).2 = some v → W v) (kb : ∀ v, V v → RB P V' (F v)) (k : ∀ v, V v → W v → RG P V' (F v) (H v)) : RG P V' (fun M => yCi false (X M) F) (gB G H) := by
  intro M p hp
  obtain ⟨v, M1, a1, a2, a3, a4⟩ := h M p hp
  rcases hg : G p with ⟨q, o⟩
  rw [hg] at a3 a4
  cases o with
  | none =>
    obtain ⟨v2, M2, b1, b2, b3⟩ := kb v a2 M1 q a3
    refine ⟨v2, M2, by show yCi false (X M) F = _; rw [a1, yCi_I, b1], b2, ?_⟩
    rw [gB_none hg]
    exact ⟨b3, fun w z => by cases z⟩
  | some w =>
    have e := a4 w rfl
    subst e
    obtain ⟨v2, M2, b1, b2, b3, b4⟩ := k v a2 (hW p v (by rw [hg])) M1 q a3
    refine ⟨v2, M2, by show yCi false (X M) F = _; rw [a1, yCi_I, b1], b2, ?_⟩
    rw [gB_some hg]
    exact ⟨b3, b4⟩
theorem TG.bind (h : RG P V X G) (hW : ∀ p v, (G p).2 = some v → W v) (kb : ∀ v, V v → TB P (F v)) (k : ∀ v, V v → W v → TG P Q (F v) (H4 v)) : TG P Q (fun M => yCi false (X M) F) (gB G H4) := by
  intro M p hp
  obtain ⟨v, M1, a1, a2, a3, a4⟩ := h M p hp
  rcases hg : G p with ⟨q, o⟩
  rw [hg] at a3 a4
  cases o with
  | none =>
    obtain ⟨M2, b1, b3⟩ := kb v a2 M1 q a3
    refine ⟨M2, by show yCi false (X M) F = _; rw [a1, yCi_I, b1], ?_⟩
    rw [gB_none hg]
    exact ⟨fun q' z => by cases z; exact b3, fun q' t z => by cases z⟩
  | some w =>
    have e := a4 w rfl
    subst e
    obtain ⟨M2, b1, b3⟩ := k v a2 (hW p v (by rw [hg])) M1 q a3
    refine ⟨M2, by show yCi false (X M) F = _; rw [a1, yCi_I, b1], ?_⟩
    rw [gB_some hg]
    exact b3
theorem RB.pure {v : Int32} (h : V v) : RB P V (fun M => yI v M) := fun M p hp => ⟨v, M, rfl, h, hp⟩
theorem RG.pure {v : Int32} (h : V v) : RG P V (fun M => yI v M) (gP v) := fun M p hp => ⟨v, M, rfl, h, hp, fun w z => Option.some.inj z⟩
theorem RB.of {Y : yM → Option yRes} (h : RB P V X) (e : ∀ M, yL (X M) (Y M)) : RB P V Y := fun M p hp => by
  obtain ⟨v, M', a1, a2⟩ := h M p hp
  exact ⟨v, M', yL.I (e M) a1, a2⟩
theorem RG.of {Y : yM → Option yRes} (h : RG P V X G) (e : ∀ M, yL (X M) (Y M)) : RG P V Y G := fun M p hp => by
  obtain ⟨v, M', a1, a2⟩ := h M p hp
  exact ⟨v, M', yL.I (e M) a1, a2⟩
theorem TB.of {Y : yM → Option yRes} (h : TB P X) (e : ∀ M, yL (X M) (Y M)) : TB P Y := fun M p hp => by
  obtain ⟨M', a1, a2⟩ := h M p hp
  exact ⟨M', yL.V (e M) a1, a2⟩
theorem TG.of {Y : yM → Option yRes} {G4 : Nat → Nat × Option y4} (h : TG P Q X G4) (e : ∀ M, yL (X M) (Y M)) : TG P Q Y G4 := fun M p hp => by
  obtain ⟨M', a1, a2⟩ := h M p hp
  exact ⟨M', yL.V (e M) a1, a2⟩
theorem RB.mono (h : RB P V X) (hv : ∀ v, V v → V' v) : RB P V' X := fun M p hp => by
  obtain ⟨v, M', a1, a2, a3⟩ := h M p hp
  exact ⟨v, M', a1, hv v a2, a3⟩
theorem RG.mono (h : RG P V X G) (hv : ∀ v, V v → V' v) : RG P V' X G := fun M p hp => by
  obtain ⟨v, M', a1, a2, a3⟩ := h M p hp
  exact ⟨v, M', a1, hv v a2, a3⟩
end GEN
section GV
variable {L : Nat} {T : Nat → Int32}
theorem gD_v {lo hi : Int32} {p : Nat} {v : Int32} (h : (gD L T lo hi p).2 = some v) : bet v lo hi := by
  unfold gD at h
  by_cases q : p < L ∧ bet (T p - 48) lo hi
  · rw [if_pos q] at h
    rw [← Option.some.inj h]
    exact q.2
  · rw [if_neg q] at h
    cases h
theorem gD_le {lo hi : Int32} {p : Nat} (h : p ≤ L) : (gD L T lo hi p).1 ≤ L := by
  unfold gD
  split
  · next q => exact q.1
  · exact h
theorem gC_le {c : Int32} {p : Nat} (h : p ≤ L) : (gC L T c p).1 ≤ L := by
  unfold gC
  split
  · next q => exact q.1
  · exact h
theorem gI_le {q n p : Nat} (h : p ≤ L) : (gI L T q n p).1 ≤ L := by
  unfold gI
  split
  · next q => exact q.1
  · exact h
theorem gB_v {α : Type} {g : rA} {H : Int32 → Nat → Nat × Option α} {p : Nat} {v : α} (h : (gB g H p).2 = some v) : ∃ q w, g p = (q, some w) ∧ (H w q).2 = some v := by
  rcases hg : g p with ⟨q, o⟩
  cases o with
  | none => rw [gB_none hg] at h; cases h
  | some w => rw [gB_some hg] at h; exact ⟨q, w, rfl, h⟩
theorem gP_v {α : Type} {p : Nat} {v w : α} (h : (gP w p).2 = some v) : w = v := Option.some.inj h
theorem fI_v {q : Nat} {c : Int32} : ∀ d j, j + d < 100 → fI q c d j = -1 ∨ ∃ k, j ≤ k ∧ k < j + d ∧ fI q c d j = Int32.ofNat k := by
  intro d
  induction d with
  | zero => intro j _; exact Or.inl rfl
  | succ d ih =>
    intro j hj
    show (if xsR0 q j = c then Int32.ofNat j else fI q c d (j + 1)) = -1 ∨ ∃ k, j ≤ k ∧ k < j + (d + 1) ∧ (if xsR0 q j = c then Int32.ofNat j else fI q c d (j + 1)) = Int32.ofNat k
    by_cases e : xsR0 q j = c
    · rw [if_pos e]; exact Or.inr ⟨j, by omega, by omega, rfl⟩
    · rw [if_neg e]
      rcases ih (j + 1) (by omega) with h | ⟨k, h1, h2, h3⟩
      · exact Or.inl h
      · exact Or.inr ⟨k, by omega, by omega, h3⟩
theorem gI_v {q n p : Nat} (hn : n < 100) {v : Int32} (h : (gI L T q n p).2 = some v) : ∃ k, k < n ∧ v = Int32.ofNat k := by
  unfold gI at h
  by_cases z : p < L ∧ ¬ fI q (T p) n 0 = -1
  · rw [if_pos z] at h
    rcases fI_v (q := q) (c := T p) n 0 (by omega) with h2 | ⟨k, h1, h2, h3⟩
    · exact absurd h2 z.2
    · exact ⟨k, by omega, by rw [← Option.some.inj h]; exact h3⟩
  · rw [if_neg z] at h
    cases h
/-- the bounds of a number of two digits -/
theorem gN_v {p : Nat} {v lo hi : Int32} {a b c d : Int32} (e1 : lo / 10 = a) (e2 : hi / 10 = b) (e3 : lo % 10 = c) (e4 : hi % 10 = d) (ea : bet a 0 9) (eb : bet b 0 9) (ec : bet c 0 9) (ed : bet d 0 9) (hab : a ≤ b) (h : (gN L T lo hi p).2 = some v) : bet v (10 * a + c) (10 * b + d) := by
  unfold gN at h
  rw [e1, e2, e3, e4] at h
  obtain ⟨q, w, h1, h2⟩ := gB_v h
  have w1 := gD_v (L := L) (T := T) (lo := a) (hi := b) (p := p) (v := w) (by rw [h1])
  obtain ⟨w2, w3⟩ := w1
  obtain ⟨a1, a2⟩ := ea
  obtain ⟨b1, b2⟩ := eb
  obtain ⟨c1, c2⟩ := ec
  obtain ⟨d1, d2⟩ := ed
  have fin : ∀ {lo hi : Int32}, (gB (gD L T lo hi) (fun x => gP (10 * w + x)) q).2 = some v → ∃ x, bet x lo hi ∧ v = 10 * w + x := by
    intro lo hi h
    obtain ⟨q2, x, x1, x2⟩ := gB_v h
    exact ⟨x, gD_v (by rw [x1]), (gP_v x2).symm⟩
  by_cases z1 : w = a
  · rw [if_pos z1] at h2
    by_cases z2 : w = b
    · rw [if_pos z2] at h2
      obtain ⟨x, ⟨x1, x2⟩, x3⟩ := fin h2
      exact ⟨by grind, by grind⟩
    · rw [if_neg z2] at h2
      obtain ⟨x, ⟨x1, x2⟩, x3⟩ := fin h2
      exact ⟨by grind, by grind⟩
  · rw [if_neg z1] at h2
    by_cases z2 : w = b
    · rw [if_pos z2] at h2
      obtain ⟨x, ⟨x1, x2⟩, x3⟩ := fin h2
      exact ⟨by grind, by grind⟩
    · rw [if_neg z2] at h2
      obtain ⟨x, ⟨x1, x2⟩, x3⟩ := fin h2
      exact ⟨by grind, by grind⟩
end GV
