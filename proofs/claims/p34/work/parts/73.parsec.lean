/-! the class's readers -/
def CT (M0 : yM) (L : Nat) (T : Nat → Int32) (K : Int32) (M : yM) (p : Nat) (b : Bool) : Prop := p ≤ L ∧ L ≤ 120 ∧ (∀ a, a ≠ 8 → M a = M0 a) ∧ (∀ j, j < L → M0 9 j = T j) ∧ M 8 1 = Int32.ofNat L ∧ M 8 2 = K ∧ M 8 3 = Int32.ofNat p ∧ M 8 4 = (if b = true then 1 else 0)
def Vd (lo hi v : Int32) : Prop := bet v 0 9 ∧ (v = 0 ∨ bet v lo hi)
section CTS
variable {M0 : yM} {L : Nat} {T : Nat → Int32} {K : Int32} {M : yM} {p : Nat} {b : Bool}
theorem CT_bad (h : CT M0 L T K M p b) : CT M0 L T K (yU M 8 4 1) p true := by
  obtain ⟨h1, h2, h3, h4, h5, h6, h7, h8⟩ := h
  refine ⟨h1, h2, fun a ha => by rw [yU_ne ha]; exact h3 a ha, h4, ?_, ?_, ?_, ?_⟩
  · rw [yU_at, upd_eq, if_neg (by omega)]; exact h5
  · rw [yU_at, upd_eq, if_neg (by omega)]; exact h6
  · rw [yU_at, upd_eq, if_neg (by omega)]; exact h7
  · rw [yU_at, upd_eq, if_pos rfl, if_pos rfl]
theorem CT_go (h : CT M0 L T K M p false) (hp : p < L) : CT M0 L T K (yU M 8 3 (M 8 3 + 1)) (p + 1) false := by
  obtain ⟨h1, h2, h3, h4, h5, h6, h7, h8⟩ := h
  refine ⟨hp, h2, fun a ha => by rw [yU_ne ha]; exact h3 a ha, h4, ?_, ?_, ?_, ?_⟩
  · rw [yU_at, upd_eq, if_neg (by omega)]; exact h5
  · rw [yU_at, upd_eq, if_neg (by omega)]; exact h6
  · rw [yU_at, upd_eq, if_pos rfl, h7, ofN_succ]
  · rw [yU_at, upd_eq, if_neg (by omega)]; exact h8
theorem c34 (h : CT M0 L T K M p b) {c : Int32} : yX 34 0 [some (.ref 8), some (.int c)] [] M 0 0 = yI (yb (b = false ∧ p < L ∧ T p = c)) M := by
  obtain ⟨h1, h2, h3, h4, h5, h6, h7, h8⟩ := h
  refine yL.I e34 ?_
  rw [h7, h5]
  cases b with
  | true =>
    have h8 : M 8 4 = 1 := h8
    rw [h8, if_neg (by decide), yb_neg (fun z => by cases z.1)]
  | false =>
    have h8 : M 8 4 = 0 := h8
    have hlt : (Int32.ofNat p < Int32.ofNat L) = (p < L) := olt rfl (by omega) (by omega)
    rw [h8, if_pos rfl]
    by_cases q1 : p < L
    · rw [if_pos (hlt ▸ q1), if_pos (yin_ofN (show p < 120 by omega) (by omega)), yx_ofN (show p < 2147483648 by omega), h3 9 (by omega), h4 p q1]
      by_cases q2 : T p = c
      · rw [if_pos q2, yb_pos ⟨rfl, q1, q2⟩]
      · rw [if_neg q2, yb_neg (fun z => q2 z.2.2)]
    · rw [if_neg (hlt ▸ q1), yb_neg (fun z => q1 z.2.1)]
theorem c33 (h : CT M0 L T K M p b) {c : Int32} : yX 33 0 [some (.ref 8), some (.int c)] [] M 0 0 = yV (if b = false ∧ p < L ∧ T p = c then yU M 8 3 (M 8 3 + 1) else yU M 8 4 1) := by
  refine yL.V e33 ?_
  rw [c34 h, yCi_I]
  simp only [yb_0]
  by_cases q : b = false ∧ p < L ∧ T p = c
  · rw [if_neg (not_not_intro q), if_pos q, yLet_eq]
  · rw [if_pos q, if_neg q, yLet_eq]
theorem dig48 : ∀ x, x < 10 → (((48 + Int32.ofNat x).toUInt32 % 65536).toInt32) = 48 + Int32.ofNat x := by decide +kernel
/-- a digit's loop: none before x was met -/
theorem c31_l {l h : Nat} (hh : h ≤ 9) {o1 : Option Value} (hc : CT M0 L T K M p b) : ∀ d x, x + d = h + 1 → l ≤ x → (b = false → p < L → ∀ y, l ≤ y → y < x → ¬ T p - 48 = Int32.ofNat y) → ∃ v M', yX 31 2 [some (.ref 8), o1, some (.int (Int32.ofNat h)), some (.int (Int32.ofNat x))] [] M 0 0 = yI v M' ∧ Vd (Int32.ofNat l) (Int32.ofNat h) v ∧ (b = true → v = 0 ∧ CT M0 L T K M' p true) ∧ (b = false → CT M0 L T K M' (gD L T (Int32.ofNat l) (Int32.ofNat h) p).1 (gD L T (Int32.ofNat l) (Int32.ofNat h) p).2.isNone ∧ ∀ w, (gD L T (Int32.ofNat l) (Int32.ofNat h) p).2 = some w → v = w) := by
  intro d
  induction d with
  | zero =>
    intro x hx hl hno
    refine ⟨0, yU M 8 4 1, yL.I e31_2 ?_, ⟨⟨by decide, by decide⟩, Or.inl rfl⟩, fun _ => ⟨rfl, CT_bad hc⟩, fun hb => ?_⟩
    · rw [if_neg (by rw [ofN_leI (by omega) (by omega)]; omega), yLet_eq]
    · have hn : ¬ (p < L ∧ bet (T p - 48) (Int32.ofNat l) (Int32.ofNat h)) := by
        intro z
        obtain ⟨z1, z2, z3⟩ := z
        have hb0 := ofN_bd (n := l) (N := 10) (v := 10) rfl (by omega) (by omega)
        obtain ⟨g1, g2⟩ := bet_nat (x := T p - 48) (m := Int32.ofNat h) (N := h) ⟨by have := hb0.1; grind, z3⟩ rfl (by omega)
        rw [g2, ofN_leI (by omega) (by omega)] at z2
        exact hno hb z1 _ z2 (by omega) g2
      unfold gD
      rw [if_neg hn]
      exact ⟨CT_bad hc, fun w z => by cases z⟩
  | succ d ih =>
    intro x hx hl hno
    by_cases q : b = false ∧ p < L ∧ T p = 48 + Int32.ofNat x
    · have hb := q.1
      subst hb
      have hb9 := ofN_bd (n := x) (N := 9) (v := 9) rfl (by omega) (by omega)
      refine ⟨Int32.ofNat x, yU M 8 3 (M 8 3 + 1), yL.I e31_2 ?_, ⟨hb9, Or.inr ⟨by rw [ofN_leI (by omega) (by omega)]; omega, by rw [ofN_leI (by omega) (by omega)]; omega⟩⟩, (fun z => by cases z), fun _ => ?_⟩
      · rw [if_pos (by rw [ofN_leI (by omega) (by omega)]; omega), dig48 x (by omega), c34 hc, yCi_I, yb_pos q, if_neg (by decide), yLet_eq]
      · have e : T p - 48 = Int32.ofNat x := by rw [q.2.2]; grind
        have hy : p < L ∧ bet (T p - 48) (Int32.ofNat l) (Int32.ofNat h) := ⟨q.2.1, by rw [e, ofN_leI (by omega) (by omega)]; omega, by rw [e, ofN_leI (by omega) (by omega)]; omega⟩
        unfold gD
        rw [if_pos hy]
        exact ⟨CT_go hc q.2.1, fun w z => by rw [← Option.some.inj z, e]⟩
    · obtain ⟨v, M', a1, a2⟩ := ih (x + 1) (by omega) (by omega) (fun hb hp y y1 y2 z => by
        by_cases e : y = x
        · subst e
          exact q ⟨hb, hp, by grind⟩
        · exact hno hb hp y y1 (by omega) z)
      refine ⟨v, M', yL.I e31_2 ?_, a2⟩
      rw [if_pos (by rw [ofN_leI (by omega) (by omega)]; omega), dig48 x (by omega), c34 hc, yCi_I]
      simp only [yb_0]
      rw [if_pos q, ofN_succ]
      exact a1
theorem c31 {l h : Nat} (hl : l ≤ h + 1) (hh : h ≤ 9) (hc : CT M0 L T K M p b) : ∃ v M', yX 31 0 [some (.ref 8), some (.int (Int32.ofNat l)), some (.int (Int32.ofNat h)), none] [] M 0 0 = yI v M' ∧ Vd (Int32.ofNat l) (Int32.ofNat h) v ∧ (b = true → v = 0 ∧ CT M0 L T K M' p true) ∧ (b = false → CT M0 L T K M' (gD L T (Int32.ofNat l) (Int32.ofNat h) p).1 (gD L T (Int32.ofNat l) (Int32.ofNat h) p).2.isNone ∧ ∀ w, (gD L T (Int32.ofNat l) (Int32.ofNat h) p).2 = some w → v = w) := by
  obtain ⟨v, M', a1, a2⟩ := c31_l hh (l := l) (o1 := some (.int (Int32.ofNat l))) hc (h + 1 - l) l (by omega) (Nat.le_refl _) (fun _ _ y y1 y2 => absurd y2 (by omega))
  exact ⟨v, M', yL.I e31 a1, a2⟩
theorem RB31 {l h : Nat} {lo hi : Int32} (el : Int32.ofNat l = lo) (eh : Int32.ofNat h = hi) (hl : l ≤ h + 1) (hh : h ≤ 9) : RB (CT M0 L T K) (Vd lo hi) (fun M => yX 31 0 [some (.ref 8), some (.int lo), some (.int hi), none] [] M 0 0) := by
  intro M p hp
  subst el eh
  obtain ⟨v, M', a1, a2, a3, a4⟩ := c31 hl hh hp
  exact ⟨v, M', a1, a2, (a3 rfl).2⟩
theorem RG31 {l h : Nat} {lo hi : Int32} (el : Int32.ofNat l = lo) (eh : Int32.ofNat h = hi) (hl : l ≤ h + 1) (hh : h ≤ 9) : RG (CT M0 L T K) (Vd lo hi) (fun M => yX 31 0 [some (.ref 8), some (.int lo), some (.int hi), none] [] M 0 0) (gD L T lo hi) := by
  intro M p hp
  subst el eh
  obtain ⟨v, M', a1, a2, a3, a4⟩ := c31 hl hh hp
  exact ⟨v, M', a1, a2, a4 rfl⟩
/-- an index into a row of letters -/
theorem c32_l {q n : Nat} (hq : ySg q 11 n) (hn : n < 100) (hc : CT M0 L T K M p b) : ∀ d x, x + d = n → (b = false → p < L → fI q (T p) n 0 = fI q (T p) d x) → ∃ v M', yX 32 2 [some (.ref 8), some (.ref q), some (.int (Int32.ofNat x))] [] M 0 0 = yI v M' ∧ (b = true → v = -1 ∧ CT M0 L T K M' p true) ∧ (b = false → CT M0 L T K M' (gI L T q n p).1 (gI L T q n p).2.isNone ∧ (∀ w, (gI L T q n p).2 = some w → v = w) ∧ ((gI L T q n p).2 = none → v = -1)) := by
  intro d
  induction d with
  | zero =>
    intro x hx hf
    refine ⟨-1, yU M 8 4 1, yL.I (e32_2 hq) ?_, fun _ => ⟨rfl, CT_bad hc⟩, fun hb => ?_⟩
    · rw [if_neg (by rw [ofN_lt (by omega) (by omega)]; omega), yLet_eq]
    · have hno : ¬ (p < L ∧ ¬ fI q (T p) n 0 = -1) := fun z => z.2 (hf hb z.1)
      unfold gI
      rw [if_neg hno]
      exact ⟨CT_bad hc, (fun w z => by cases z), fun _ => rfl⟩
  | succ d ih =>
    intro x hx hf
    by_cases z : b = false ∧ p < L ∧ T p = xsR0 q x
    · have hb := z.1
      subst hb
      have e : fI q (T p) n 0 = Int32.ofNat x := by
        rw [hf rfl z.2.1]
        show (if xsR0 q x = T p then Int32.ofNat x else _) = _
        rw [if_pos z.2.2.symm]
      refine ⟨Int32.ofNat x, yU M 8 3 (M 8 3 + 1), yL.I (e32_2 hq) ?_, (fun y => by cases y), fun _ => ?_⟩
      · rw [if_pos (by rw [ofN_lt (by omega) (by omega)]; omega), if_pos (yin_ofN (by omega) (by omega)), yx_ofN (show x < 2147483648 by omega), c34 hc, yCi_I, yb_pos z, if_neg (by decide), yLet_eq]
      · unfold gI
        rw [if_pos ⟨z.2.1, by rw [e]; exact m1_ofN (by omega)⟩, e]
        exact ⟨CT_go hc z.2.1, (fun w y => Option.some.inj y), fun y => by cases y⟩
    · obtain ⟨v, M', a1, a2⟩ := ih (x + 1) (by omega) (fun hb hp => by
        rw [hf hb hp]
        show (if xsR0 q x = T p then Int32.ofNat x else _) = _
        rw [if_neg (fun y => z ⟨hb, hp, y.symm⟩)])
      refine ⟨v, M', yL.I (e32_2 hq) ?_, a2⟩
      rw [if_pos (by rw [ofN_lt (by omega) (by omega)]; omega), if_pos (yin_ofN (by omega) (by omega)), yx_ofN (show x < 2147483648 by omega), c34 hc, yCi_I]
      simp only [yb_0]
      rw [if_pos z, ofN_succ]
      exact a1
theorem c32 {q n : Nat} (hq : ySg q 11 n) (hn : n < 100) (hc : CT M0 L T K M p b) : ∃ v M', yX 32 0 [some (.ref 8), some (.ref q), none] [] M 0 0 = yI v M' ∧ (b = true → v = -1 ∧ CT M0 L T K M' p true) ∧ (b = false → CT M0 L T K M' (gI L T q n p).1 (gI L T q n p).2.isNone ∧ (∀ w, (gI L T q n p).2 = some w → v = w) ∧ ((gI L T q n p).2 = none → v = -1)) := by
  obtain ⟨v, M', a1, a2⟩ := c32_l hq hn hc n 0 (Nat.zero_add _) (fun _ _ => rfl)
  exact ⟨v, M', yL.I (e32 hq) a1, a2⟩
end CTS
abbrev Vt (_ : Int32) : Prop := True
section NUM
variable {P : yM → Nat → Bool → Prop} {L : Nat} {T : Nat → Int32} {D : Int32 → Int32 → yM → Option yRes} {V : Int32 → Prop}
/-- a number of two digits, whatever reads its digits -/
theorem RBnum {lo hi a b c d : Int32} (h1 : RB P V (D a b)) (h2 : RB P V (D c d)) (h3 : RB P V (D c 9)) (h4 : RB P V (D 0 d)) (h5 : RB P V (D 0 9)) (e1 : lo / 10 = a) (e2 : hi / 10 = b) (e3 : lo % 10 = c) (e4 : hi % 10 = d) : RB P Vt (fun M => yCi false (D (lo / 10) (hi / 10) M) fun v2 M1 => if v2 = lo / 10 then if v2 = hi / 10 then yCi false (D (lo % 10) (hi % 10) M1) fun v6 M5 => yI (10 * v2 + v6) M5 else yCi false (D (lo % 10) 9 M1) fun v8 M7 => yI (10 * v2 + v8) M7 else if v2 = hi / 10 then yCi false (D 0 (hi % 10) M1) fun v11 M10 => yI (10 * v2 + v11) M10 else yCi false (D 0 9 M1) fun v13 M12 => yI (10 * v2 + v13) M12) := by
  rw [e1, e2, e3, e4]
  refine RB.bind h1 (fun v _ => ?_)
  by_cases z1 : v = a
  · by_cases z2 : v = b
    · simp only [if_pos z1, if_pos z2]; exact RB.bind h2 (fun w _ => RB.pure trivial)
    · simp only [if_pos z1, if_neg z2]; exact RB.bind h3 (fun w _ => RB.pure trivial)
  · by_cases z2 : v = b
    · simp only [if_neg z1, if_pos z2]; exact RB.bind h4 (fun w _ => RB.pure trivial)
    · simp only [if_neg z1, if_neg z2]; exact RB.bind h5 (fun w _ => RB.pure trivial)
theorem RGnum {lo hi a b c d : Int32} (g1 : RG P V (D a b) (gD L T a b)) (g2 : RG P V (D c d) (gD L T c d)) (g3 : RG P V (D c 9) (gD L T c 9)) (g4 : RG P V (D 0 d) (gD L T 0 d)) (g5 : RG P V (D 0 9) (gD L T 0 9)) (h2 : RB P V (D c d)) (h3 : RB P V (D c 9)) (h4 : RB P V (D 0 d)) (h5 : RB P V (D 0 9)) (e1 : lo / 10 = a) (e2 : hi / 10 = b) (e3 : lo % 10 = c) (e4 : hi % 10 = d) : RG P Vt (fun M => yCi false (D (lo / 10) (hi / 10) M) fun v2 M1 => if v2 = lo / 10 then if v2 = hi / 10 then yCi false (D (lo % 10) (hi % 10) M1) fun v6 M5 => yI (10 * v2 + v6) M5 else yCi false (D (lo % 10) 9 M1) fun v8 M7 => yI (10 * v2 + v8) M7 else if v2 = hi / 10 then yCi false (D 0 (hi % 10) M1) fun v11 M10 => yI (10 * v2 + v11) M10 else yCi false (D 0 9 M1) fun v13 M12 => yI (10 * v2 + v13) M12) (gN L T lo hi) := by
  unfold gN
  rw [e1, e2, e3, e4]
  refine RG.bind (W := Vt) g1 (fun _ _ _ => trivial) (fun v _ => ?_) (fun v _ _ => ?_)
  · by_cases z1 : v = a
    · by_cases z2 : v = b
      · simp only [if_pos z1, if_pos z2]; exact RB.bind h2 (fun w _ => RB.pure trivial)
      · simp only [if_pos z1, if_neg z2]; exact RB.bind h3 (fun w _ => RB.pure trivial)
    · by_cases z2 : v = b
      · simp only [if_neg z1, if_pos z2]; exact RB.bind h4 (fun w _ => RB.pure trivial)
      · simp only [if_neg z1, if_neg z2]; exact RB.bind h5 (fun w _ => RB.pure trivial)
  · by_cases z1 : v = a
    · by_cases z2 : v = b
      · simp only [if_pos z1, if_pos z2]; exact RG.bind (W := Vt) g2 (fun _ _ _ => trivial) (fun w _ => RB.pure trivial) (fun w _ _ => RG.pure trivial)
      · simp only [if_pos z1, if_neg z2]; exact RG.bind (W := Vt) g3 (fun _ _ _ => trivial) (fun w _ => RB.pure trivial) (fun w _ _ => RG.pure trivial)
    · by_cases z2 : v = b
      · simp only [if_neg z1, if_pos z2]; exact RG.bind (W := Vt) g4 (fun _ _ _ => trivial) (fun w _ => RB.pure trivial) (fun w _ _ => RG.pure trivial)
      · simp only [if_neg z1, if_neg z2]; exact RG.bind (W := Vt) g5 (fun _ _ _ => trivial) (fun w _ => RB.pure trivial) (fun w _ _ => RG.pure trivial)
end NUM
