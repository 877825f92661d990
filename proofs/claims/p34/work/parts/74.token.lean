/-! a token in the class -/
theorem gB_map {α : Type} (g : rA) (f : Int32 → Int32) (K : Int32 → Nat → Nat × Option α) : gB (gB g fun h => gP (f h)) K = gB g fun h => K (f h) := by
  funext p
  rcases hg : g p with ⟨q, o⟩
  cases o with
  | none => rw [gB_none hg, gB_none (gB_none hg)]
  | some w => rw [gB_some hg, gB_some (v := f w) (q := q) (by rw [gB_some hg]; rfl)]
section TOK
variable {M0 : yM} {L : Nat} {T : Nat → Int32} {K : Int32}
theorem RB31t {l h : Nat} {lo hi : Int32} (el : Int32.ofNat l = lo) (eh : Int32.ofNat h = hi) (hl : l ≤ h + 1) (hh : h ≤ 9) : RB (CT M0 L T K) Vt (fun M => yX 31 0 [some (.ref 8), some (.int lo), some (.int hi), none] [] M 0 0) := RB.mono (RB31 el eh hl hh) (fun _ _ => trivial)
theorem RG31t {l h : Nat} {lo hi : Int32} (el : Int32.ofNat l = lo) (eh : Int32.ofNat h = hi) (hl : l ≤ h + 1) (hh : h ≤ 9) : RG (CT M0 L T K) Vt (fun M => yX 31 0 [some (.ref 8), some (.int lo), some (.int hi), none] [] M 0 0) (gD L T lo hi) := RG.mono (RG31 el eh hl hh) (fun _ _ => trivial)
theorem RB30 {lo hi : Int32} {a b c d : Nat} (e1 : lo / 10 = Int32.ofNat a) (e2 : hi / 10 = Int32.ofNat b) (e3 : lo % 10 = Int32.ofNat c) (e4 : hi % 10 = Int32.ofNat d) (ha : a ≤ b + 1) (hb : b ≤ 9) (hc : c ≤ d + 1) (hc9 : c ≤ 9) (hd : d ≤ 9) : RB (CT M0 L T K) Vt (fun M => yX 30 0 [some (.ref 8), some (.int lo), some (.int hi), none, none, none] [] M 0 0) :=
  RB.of (RBnum (D := fun x y M => yX 31 0 [some (.ref 8), some (.int x), some (.int y), none] [] M 0 0) (RB31t rfl rfl ha hb) (RB31t rfl rfl hc hd) (RB31t (h := 9) rfl rfl (by omega) (by omega)) (RB31t (l := 0) rfl rfl (by omega) hd) (RB31t (l := 0) (h := 9) rfl rfl (by omega) (by omega)) e1 e2 e3 e4) (fun M => e30)
theorem RG30 {lo hi : Int32} {a b c d : Nat} (e1 : lo / 10 = Int32.ofNat a) (e2 : hi / 10 = Int32.ofNat b) (e3 : lo % 10 = Int32.ofNat c) (e4 : hi % 10 = Int32.ofNat d) (ha : a ≤ b + 1) (hb : b ≤ 9) (hc : c ≤ d + 1) (hc9 : c ≤ 9) (hd : d ≤ 9) : RG (CT M0 L T K) Vt (fun M => yX 30 0 [some (.ref 8), some (.int lo), some (.int hi), none, none, none] [] M 0 0) (gN L T lo hi) :=
  RG.of (RGnum (D := fun x y M => yX 31 0 [some (.ref 8), some (.int x), some (.int y), none] [] M 0 0) (RG31t rfl rfl ha hb) (RG31t rfl rfl hc hd) (RG31t (h := 9) rfl rfl (by omega) (by omega)) (RG31t (l := 0) rfl rfl (by omega) hd) (RG31t (l := 0) (h := 9) rfl rfl (by omega) (by omega)) (RB31t rfl rfl hc hd) (RB31t (h := 9) rfl rfl (by omega) (by omega)) (RB31t (l := 0) rfl rfl (by omega) hd) (RB31t (l := 0) (h := 9) rfl rfl (by omega) (by omega)) e1 e2 e3 e4) (fun M => e30)
theorem n99 : RB (CT M0 L T K) Vt (fun M => yX 30 0 [some (.ref 8), some (.int 0), some (.int 99), none, none, none] [] M 0 0) ∧ RG (CT M0 L T K) Vt (fun M => yX 30 0 [some (.ref 8), some (.int 0), some (.int 99), none, none, none] [] M 0 0) (gN L T 0 99) := ⟨RB30 (a := 0) (b := 9) (c := 0) (d := 9) (by decide) (by decide) (by decide) (by decide) (by omega) (by omega) (by omega) (by omega) (by omega), RG30 (a := 0) (b := 9) (c := 0) (d := 9) (by decide) (by decide) (by decide) (by decide) (by omega) (by omega) (by omega) (by omega) (by omega)⟩
theorem n90 : RB (CT M0 L T K) Vt (fun M => yX 30 0 [some (.ref 8), some (.int 1), some (.int 90), none, none, none] [] M 0 0) ∧ RG (CT M0 L T K) Vt (fun M => yX 30 0 [some (.ref 8), some (.int 1), some (.int 90), none, none, none] [] M 0 0) (gN L T 1 90) := ⟨RB30 (a := 0) (b := 9) (c := 1) (d := 0) (by decide) (by decide) (by decide) (by decide) (by omega) (by omega) (by omega) (by omega) (by omega), RG30 (a := 0) (b := 9) (c := 1) (d := 0) (by decide) (by decide) (by decide) (by decide) (by omega) (by omega) (by omega) (by omega) (by omega)⟩
theorem n13 : RB (CT M0 L T K) Vt (fun M => yX 30 0 [some (.ref 8), some (.int 0), some (.int 13), none, none, none] [] M 0 0) ∧ RG (CT M0 L T K) Vt (fun M => yX 30 0 [some (.ref 8), some (.int 0), some (.int 13), none, none, none] [] M 0 0) (gN L T 0 13) := ⟨RB30 (a := 0) (b := 1) (c := 0) (d := 3) (by decide) (by decide) (by decide) (by decide) (by omega) (by omega) (by omega) (by omega) (by omega), RG30 (a := 0) (b := 1) (c := 0) (d := 3) (by decide) (by decide) (by decide) (by decide) (by omega) (by omega) (by omega) (by omega) (by omega)⟩
theorem n11 : RB (CT M0 L T K) Vt (fun M => yX 30 0 [some (.ref 8), some (.int 0), some (.int 11), none, none, none] [] M 0 0) ∧ RG (CT M0 L T K) Vt (fun M => yX 30 0 [some (.ref 8), some (.int 0), some (.int 11), none, none, none] [] M 0 0) (gN L T 0 11) := ⟨RB30 (a := 0) (b := 1) (c := 0) (d := 1) (by decide) (by decide) (by decide) (by decide) (by omega) (by omega) (by omega) (by omega) (by omega), RG30 (a := 0) (b := 1) (c := 0) (d := 1) (by decide) (by decide) (by decide) (by decide) (by omega) (by omega) (by omega) (by omega) (by omega)⟩
theorem n24 : RB (CT M0 L T K) Vt (fun M => yX 30 0 [some (.ref 8), some (.int 1), some (.int 24), none, none, none] [] M 0 0) ∧ RG (CT M0 L T K) Vt (fun M => yX 30 0 [some (.ref 8), some (.int 1), some (.int 24), none, none, none] [] M 0 0) (gN L T 1 24) := ⟨RB30 (a := 0) (b := 2) (c := 1) (d := 4) (by decide) (by decide) (by decide) (by decide) (by omega) (by omega) (by omega) (by omega) (by omega), RG30 (a := 0) (b := 2) (c := 1) (d := 4) (by decide) (by decide) (by decide) (by decide) (by omega) (by omega) (by omega) (by omega) (by omega)⟩
theorem n27 : RB (CT M0 L T K) Vt (fun M => yX 27 0 [some (.ref 8)] [] M 0 0) ∧ RG (CT M0 L T K) Vt (fun M => yX 27 0 [some (.ref 8)] [] M 0 0) (gN L T 0 13) := by
  constructor
  · exact RB.of (RB.bind n13.1 (fun v _ => RB.pure trivial)) (fun M => e27)
  · intro M p hp
    obtain ⟨v, M', a1, a2⟩ := n13.2 M p hp
    have a1 : yX 30 0 [some (.ref 8), some (.int 0), some (.int 13), none, none, none] [] M 0 0 = yI v M' := a1
    exact ⟨v, M', yL.I e27 (by rw [a1, yCi_I]), a2⟩
theorem n28 : RB (CT M0 L T K) Vt (fun M => yX 28 0 [some (.ref 8), none] [] M 0 0) ∧ RG (CT M0 L T K) Vt (fun M => yX 28 0 [some (.ref 8), none] [] M 0 0) (gB (gD L T 0 4) fun h => gP (if bet h 0 3 then h else -1)) := by
  have e : ∀ v : Int32, (fun M => yCi false (yX 95 0 [some (.int v)] [] M 0 0) fun v4 M3 => if v4 = 0 then yI (-1) M3 else yI v M3) = fun M => yI (if bet v 0 3 then v else -1) M := by
    intro v
    funext M
    rw [c95, yCi_I]
    simp only [yb_0]
    by_cases q : bet v 0 3
    · rw [if_neg (not_not_intro q), if_pos q]
    · rw [if_pos q, if_neg q]
  constructor
  · exact RB.of (RB.bind (RB31t (l := 0) (h := 4) rfl rfl (by omega) (by omega)) (fun v _ => by rw [e v]; exact RB.pure trivial)) (fun M => e28)
  · exact RG.of (RG.bind (W := Vt) (RG31t (l := 0) (h := 4) rfl rfl (by omega) (by omega)) (fun _ _ _ => trivial) (fun v _ => by rw [e v]; exact RB.pure trivial) (fun v _ _ => by rw [e v]; exact RG.pure trivial)) (fun M => e28)
theorem n33B {c : Int32} {V : Int32 → Prop} {F : yM → Option yRes} (h : RB (CT M0 L T K) V F) : RB (CT M0 L T K) V (fun M => yCv false (yX 33 0 [some (.ref 8), some (.int c)] [] M 0 0) F) := by
  intro M p hp
  obtain ⟨v, M', a1, a2⟩ := h _ p (CT_bad hp)
  refine ⟨v, M', ?_, a2⟩
  show yCv false (yX 33 0 [some (.ref 8), some (.int c)] [] M 0 0) F = _
  rw [c33 hp, if_neg (fun z => by cases z.1), yCv_V]
  exact a1
theorem n33G {c : Int32} {V : Int32 → Prop} {F : yM → Option yRes} {H : rA} (hb : RB (CT M0 L T K) V F) (h : RG (CT M0 L T K) V F H) : RG (CT M0 L T K) V (fun M => yCv false (yX 33 0 [some (.ref 8), some (.int c)] [] M 0 0) F) (gB (gC L T c) fun _ => H) := by
  intro M p hp
  by_cases q : p < L ∧ T p = c
  · obtain ⟨v, M', a1, a2, a3⟩ := h _ (p + 1) (CT_go hp q.1)
    refine ⟨v, M', ?_, a2, ?_⟩
    · show yCv false (yX 33 0 [some (.ref 8), some (.int c)] [] M 0 0) F = _
      rw [c33 hp, if_pos ⟨rfl, q⟩, yCv_V]
      exact a1
    · rw [gB_some (v := 0) (q := p + 1) (by unfold gC; rw [if_pos q])]
      exact a3
  · obtain ⟨v, M', a1, a2, a3⟩ := hb _ p (CT_bad hp)
    refine ⟨v, M', ?_, a2, ?_⟩
    · show yCv false (yX 33 0 [some (.ref 8), some (.int c)] [] M 0 0) F = _
      rw [c33 hp, if_neg (fun z => q z.2), yCv_V]
      exact a1
    · rw [gB_none (q := p) (by unfold gC; rw [if_neg q])]
      exact ⟨a3, fun w z => by cases z⟩
theorem n55 {a b d : Int32} {o4 : Option Value} : RB (CT M0 L T K) Vt (fun M => yX 29 55 [some (.ref 8), some (.int a), some (.int b), some (.int d), o4] [] M 0 0) ∧ (¬ d < 1 → RG (CT M0 L T K) Vt (fun M => yX 29 55 [some (.ref 8), some (.int a), some (.int b), some (.int d), o4] [] M 0 0) (gU L T a b d)) := by
  constructor
  · intro M p hp
    obtain ⟨v, M', a1, a2, a3⟩ := c32 s_g_6 (by omega) hp
    obtain ⟨b1, b2⟩ := a2 rfl
    refine ⟨0, M', yL.I e29_55 ?_, trivial, b2⟩
    have h4 : M' 8 4 = 1 := b2.2.2.2.2.2.2.2
    rw [a1, yCi_I, h4, if_neg (by decide)]
  · intro hd M p hp
    obtain ⟨v, M', a1, a2, a3⟩ := c32 s_g_6 (by omega) hp
    obtain ⟨b1, b2, b3⟩ := a3 rfl
    rcases hg : gI L T 6 4 p with ⟨q, o⟩
    rw [hg] at b1 b2 b3
    unfold gU
    cases o with
    | none =>
      refine ⟨0, M', yL.I e29_55 ?_, trivial, ?_⟩
      · have h4 : M' 8 4 = 1 := b1.2.2.2.2.2.2.2
        rw [a1, yCi_I, h4, if_neg (by decide)]
      · rw [gB_none hg]
        exact ⟨b1, fun w z => by cases z⟩
    | some w =>
      have e := b2 w rfl
      subst e
      obtain ⟨k, k1, k2⟩ := gI_v (L := L) (T := T) (q := 6) (n := 4) (p := p) (by omega) (v := v) (by rw [hg])
      refine ⟨xsR0 4 (yx v) * a + xsR0 4 (yx v) * b / d, M', yL.I e29_55 ?_, trivial, ?_⟩
      · have h4 : M' 8 4 = 0 := b1.2.2.2.2.2.2.2
        have hv : ¬ v < 0 := by
          rw [k2, olt (b := 0) (V := 0) rfl (by omega) (by omega)]
          omega
        have hd0 : ¬ d = 0 := by grind
        have hy : yinB v 4 = true := by rw [k2]; exact yin_ofN k1 (by omega)
        rw [a1, yCi_I, h4, if_pos rfl, if_neg hv, if_neg hd, if_pos hy, if_pos hy, if_neg hd0]
      · rw [gB_some hg]
        exact ⟨b1, fun w z => gP_v z⟩
theorem n29 : RB (CT M0 L T K) Vt (fun M => yX 29 0 [some (.ref 8), none, none, none, none] [] M 0 0) ∧ RG (CT M0 L T K) Vt (fun M => yX 29 0 [some (.ref 8), none, none, none, none] [] M 0 0) (gA L T) := by
  -- behind the whole
  have l8 : ∀ v : Int32, Vd 1 7 v → ∃ l, Int32.ofNat l = v + 1 ∧ l ≤ 9 := by
    intro v hv
    obtain ⟨⟨h1, h2⟩, h3⟩ := hv
    have h7 : bet v 0 7 := by
      rcases h3 with h3 | h3
      · rw [h3]; exact ⟨by decide, by decide⟩
      · exact ⟨h1, h3.2⟩
    obtain ⟨g1, g2⟩ := bet_nat h7 (N := 7) rfl (by omega)
    exact ⟨yx v + 1, by rw [← ofN_succ, ← g2], by omega⟩
  have bad : ∀ a : Int32, RB (CT M0 L T K) Vt (fun M => yCi false (yX 31 0 [some (.ref 8), some (.int 1), some (.int 7), none] [] M 0 0) fun v8 M7 => yCv false (yX 33 0 [some (.ref 8), some (.int 47)] [] M7 0 0) fun M9 => yCi false (yX 31 0 [some (.ref 8), some (.int (v8 + 1)), some (.int 8), none] [] M9 0 0) fun v11 M10 => yX 29 55 [some (.ref 8), some (.int a), some (.int v8), some (.int v11), none] [] M10 0 0) := by
    intro a
    refine RB.bind (RB31 (l := 1) (h := 7) rfl rfl (by omega) (by omega)) (fun v hv => ?_)
    obtain ⟨l, l1, l2⟩ := l8 v hv
    exact n33B (RB.bind (RB31t (h := 8) l1 rfl (by omega) (by omega)) (fun w _ => n55.1))
  have good : ∀ a : Int32, RG (CT M0 L T K) Vt (fun M => yCi false (yX 31 0 [some (.ref 8), some (.int 1), some (.int 7), none] [] M 0 0) fun v8 M7 => yCv false (yX 33 0 [some (.ref 8), some (.int 47)] [] M7 0 0) fun M9 => yCi false (yX 31 0 [some (.ref 8), some (.int (v8 + 1)), some (.int 8), none] [] M9 0 0) fun v11 M10 => yX 29 55 [some (.ref 8), some (.int a), some (.int v8), some (.int v11), none] [] M10 0 0) (gB (gD L T 1 7) fun b => gB (gC L T 47) fun _ => gB (gD L T (b + 1) 8) fun d => gU L T a b d) := by
    intro a
    refine RG.bind (W := fun v => bet v 1 7) (RG31 (l := 1) (h := 7) rfl rfl (by omega) (by omega)) (fun p v z => gD_v z) (fun v hv => ?_) (fun v hv hw => ?_)
    · obtain ⟨l, l1, l2⟩ := l8 v hv
      exact n33B (RB.bind (RB31t (h := 8) l1 rfl (by omega) (by omega)) (fun w _ => n55.1))
    · obtain ⟨l, l1, l2⟩ := l8 v hv
      refine n33G (RB.bind (RB31t (h := 8) l1 rfl (by omega) (by omega)) (fun w _ => n55.1)) ?_
      refine RG.bind (W := fun w => bet w (v + 1) 8) (RG31t (h := 8) l1 rfl (by omega) (by omega)) (fun p w z => gD_v z) (fun w _ => n55.1) (fun w _ z => n55.2 ?_)
      have := z.1
      have := hw.1
      have := hw.2
      grind
  constructor
  · refine RB.of (RB.bind n99.1 (fun a _ => ?_)) (fun M => e29)
    intro M p hp
    obtain ⟨v, M', a1, a2⟩ := (n55 (a := a) (b := 0) (d := 1) (o4 := none)).1 M p hp
    refine ⟨v, M', ?_, a2⟩
    dsimp only at a1 ⊢
    rw [c34 hp, yCi_I, yb_neg (fun z => by cases z.1), if_pos rfl]
    exact a1
  · refine RG.of (RG.bind (W := Vt) n99.2 (fun _ _ _ => trivial) (fun a _ => ?_) (fun a _ _ => ?_)) (fun M => e29)
    · intro M p hp
      obtain ⟨v, M', a1, a2⟩ := (n55 (a := a) (b := 0) (d := 1) (o4 := none)).1 M p hp
      refine ⟨v, M', ?_, a2⟩
      dsimp only at a1 ⊢
      rw [c34 hp, yCi_I, yb_neg (fun z => by cases z.1), if_pos rfl]
      exact a1
    · intro M p hp
      show ∃ v M', _ = yI v M' ∧ Vt v ∧ CT M0 L T K M' (if p < L ∧ T p = 43 then gB (gD L T 1 7) (fun b => gB (gC L T 47) fun _ => gB (gD L T (b + 1) 8) fun d => gU L T a b d) (p + 1) else gU L T a 0 1 p).1 (if p < L ∧ T p = 43 then gB (gD L T 1 7) (fun b => gB (gC L T 47) fun _ => gB (gD L T (b + 1) 8) fun d => gU L T a b d) (p + 1) else gU L T a 0 1 p).2.isNone ∧ ∀ w, (if p < L ∧ T p = 43 then gB (gD L T 1 7) (fun b => gB (gC L T 47) fun _ => gB (gD L T (b + 1) 8) fun d => gU L T a b d) (p + 1) else gU L T a 0 1 p).2 = some w → v = w
      by_cases q : p < L ∧ T p = 43
      · obtain ⟨v, M', a1, a2, a3⟩ := good a _ (p + 1) (CT_go hp q.1)
        refine ⟨v, M', ?_, a2, ?_⟩
        · dsimp only at a1 ⊢
          rw [c34 hp, yCi_I, yb_pos ⟨rfl, q⟩, if_neg (by decide), yLet_eq]
          exact a1
        · rw [if_pos q]
          exact a3
      · obtain ⟨v, M', a1, a2, a3⟩ := (n55 (a := a) (b := 0) (d := 1) (o4 := none)).2 (by decide) M p hp
        refine ⟨v, M', ?_, a2, ?_⟩
        · dsimp only at a1 ⊢
          rw [c34 hp, yCi_I, yb_neg (fun z => q z.2), if_pos rfl]
          exact a1
        · rw [if_neg q]
          exact a3
end TOK
