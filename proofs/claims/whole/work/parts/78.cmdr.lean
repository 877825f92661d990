/-! a command in the reference -/
theorem gB_assoc {α : Type} (g : rA) (H : Int32 → rA) (K : Int32 → Nat → Nat × Option α) : gB (gB g H) K = gB g fun v => gB (H v) K := by
  funext p
  rcases hg : g p with ⟨q, o⟩
  cases o with
  | none => rw [gB_none hg, gB_none (gB_none hg)]
  | some w =>
    rw [gB_some hg]
    unfold gB
    rw [hg]
theorem ltr6 : xsR0 6 0 = 112 ∧ xsR0 6 1 = 116 ∧ xsR0 6 2 = 84 ∧ xsR0 6 3 = 99 := by decide +kernel
theorem ltr5 : xsR0 5 0 = 105 ∧ xsR0 5 1 = 115 ∧ xsR0 5 2 = 117 ∧ xsR0 5 3 = 110 ∧ xsR0 5 4 = 107 ∧ xsR0 5 5 = 118 ∧ xsR0 5 6 = 114 := by decide +kernel
theorem fI_go {q : Nat} {c x : Int32} {d j : Nat} (h : xsR0 q j = x) : fI q c (d + 1) j = if c = x then Int32.ofNat j else fI q c d (j + 1) := by
  show (if xsR0 q j = c then _ else _) = _
  rw [h]
  by_cases e : c = x
  · rw [if_pos e, if_pos e.symm]
  · rw [if_neg e, if_neg (fun z => e z.symm)]
theorem fI6 (c : Int32) : fI 6 c 4 0 = if c = 112 then 0 else if c = 116 then 1 else if c = 84 then 2 else if c = 99 then 3 else -1 := by
  obtain ⟨l0, l1, l2, l3⟩ := ltr6
  rw [fI_go l0, fI_go l1, fI_go l2, fI_go l3]
  rfl
theorem fI5 (c : Int32) : fI 5 c 7 0 = if c = 105 then 0 else if c = 115 then 1 else if c = 117 then 2 else if c = 110 then 3 else if c = 107 then 4 else if c = 118 then 5 else if c = 114 then 6 else -1 := by
  obtain ⟨l0, l1, l2, l3, l4, l5, l6⟩ := ltr5
  rw [fI_go l0, fI_go l1, fI_go l2, fI_go l3, fI_go l4, fI_go l5, fI_go l6]
  rfl
theorem c162 {c : Int32} {M : yM} : yX 162 0 [some (.int c)] [] M 0 0 = yI (fI 6 c 4 0) M := by
  refine yL.I e162 ?_
  rw [fI6]
  by_cases h0 : c = 112
  · rw [if_pos h0, if_pos h0]
  rw [if_neg h0, if_neg h0]
  by_cases h1 : c = 116
  · rw [if_pos h1, if_pos h1]
  rw [if_neg h1, if_neg h1]
  by_cases h2 : c = 84
  · rw [if_pos h2, if_pos h2]
  rw [if_neg h2, if_neg h2]
  by_cases h3 : c = 99
  · rw [if_pos h3, if_pos h3]
  rw [if_neg h3, if_neg h3]
section CMR
variable {M0 : yM} {L : Nat} {T : Nat → Int32} {K : Int32}
theorem gI_none {q n p : Nat} (z : fI q (hre L T p) n 0 = -1) : gI L T q n p = (p, none) := by
  unfold gI
  refine if_neg (fun y => y.2 ?_)
  have e : hre L T p = T p := if_pos y.1
  rw [e] at z
  exact z
theorem gI_some {q n p : Nat} (h : fI q (-1) n 0 = -1) (z : ¬ fI q (hre L T p) n 0 = -1) : p < L ∧ gI L T q n p = (p + 1, some (fI q (hre L T p) n 0)) := by
  by_cases y : p < L
  · have e : hre L T p = T p := if_pos y
    rw [e] at z ⊢
    unfold gI
    exact ⟨y, if_pos ⟨y, z⟩⟩
  · have e : hre L T p = -1 := if_neg y
    rw [e] at z
    exact absurd h z
theorem n83B {x1 x2 x3 : Int32} {o4 o5 : Option Value} : TB (RT M0 L T K) (fun M => yX 163 83 [some (.ref 190), some (.int x1), some (.int x2), some (.int x3), o4, o5] [] M 0 0) := by
  intro M p hp
  have e := e163_83 (x1 := x1) (x2 := x2) (x3 := x3) (o4 := o4) (o5 := o5) (M := M)
  rw [c157 hp, yCi_I, c162, yCi_I] at e
  by_cases z : fI 6 (hre L T p) 4 0 = -1
  · obtain ⟨M', a1, a2⟩ := c158_b hp 0
    rw [if_pos z, a1, yCv_V, if_pos (by rw [RT_g a2])] at e
    exact ⟨M', yL.V e rfl, a2⟩
  · obtain ⟨M', a1, a2⟩ := c158_b hp 1
    rw [if_neg z, a1, yCv_V, if_pos (by rw [RT_g a2])] at e
    exact ⟨M', yL.V e rfl, a2⟩
theorem flt_0 (r : yRow) (g : Int32) : flt r 0 g 0 0 = if bet g 1 50000 then if r 0 < 12 then 0 else 3 else 2 := by
  unfold flt
  rw [if_pos rfl]
theorem n83G (ok : rok (M0 193)) {x1 x2 x3 : Int32} {o4 o5 : Option Value} (h3 : ¬ x3 = 0) : TG (RT M0 L T K) (QR M0 L T K) (fun M => yX 163 83 [some (.ref 190), some (.int x1), some (.int x2), some (.int x3), o4, o5] [] M 0 0) (gB (gU L T x1 x2 x3) fun a => gP (0, a, 0, 0)) := by
  intro M p hp
  have e := e163_83 (x1 := x1) (x2 := x2) (x3 := x3) (o4 := o4) (o5 := o5) (M := M)
  rw [c157 hp, yCi_I, c162, yCi_I] at e
  by_cases z : fI 6 (hre L T p) 4 0 = -1
  · obtain ⟨M', a1, a2⟩ := c158_0 hp
    rw [if_pos z, a1, yCv_V, if_pos (by rw [RT_g a2])] at e
    have hG : gB (gU L T x1 x2 x3) (fun a => gP ((0, a, 0, 0) : y4)) p = (p, none) := gB_none (gB_none (gI_none z))
    refine ⟨M', yL.V e rfl, fun q y => ?_, fun q t y => ?_⟩
    · rw [hG] at y
      cases y
      exact a2
    · rw [hG] at y
      cases y
  · obtain ⟨q1, q3⟩ := gI_some (L := L) (T := T) (p := p) (q := 6) (n := 4) (by rw [fI6]; decide) z
    obtain ⟨M2, a1, a2⟩ := c158_1 hp q1
    rw [if_neg z, a1, yCv_V, if_neg (by rw [RT_g a2]; intro y; cases y)] at e
    obtain ⟨k, k1, k2⟩ : ∃ k, k < 4 ∧ fI 6 (hre L T p) 4 0 = Int32.ofNat k := by
      rcases fI_v (q := 6) (c := hre L T p) 4 0 (by omega) with y | ⟨k, _, y2, y3⟩
      · exact absurd y z
      · exact ⟨k, by omega, y3⟩
    rw [k2, c122 k1, yCi_I, c122 k1, yCi_I, if_neg h3, c117, yCi_I] at e
    simp only [yb_0] at e
    have hG : gB (gU L T x1 x2 x3) (fun a => gP ((0, a, 0, 0) : y4)) p = (p + 1, some (0, xsR0 4 k * x1 + xsR0 4 k * x2 / x3, 0, 0)) := by
      have : gU L T x1 x2 x3 p = (p + 1, some (xsR0 4 k * x1 + xsR0 4 k * x2 / x3)) := by
        unfold gU
        rw [gB_some q3, k2, yx_ofN (by omega)]
        rfl
      rw [gB_some this]
      rfl
    rw [hG]
    generalize xsR0 4 k * x1 + xsR0 4 k * x2 / x3 = g at e ⊢
    have fin : ∀ {M'}, yX 163 83 [some (.ref 190), some (.int x1), some (.int x2), some (.int x3), o4, o5] [] M 0 0 = yV M' → QR M0 L T K M' (p + 1) (0, g, 0, 0) → ∃ M', yX 163 83 [some (.ref 190), some (.int x1), some (.int x2), some (.int x3), o4, o5] [] M 0 0 = yV M' ∧ (∀ q, ((p + 1, some ((0, g, 0, 0) : y4)) : Nat × Option y4) = (q, none) → RT M0 L T K M' q true) ∧ ∀ q t, ((p + 1, some ((0, g, 0, 0) : y4)) : Nat × Option y4) = (q, some t) → QR M0 L T K M' q t := by
      intro M' y1 y2
      exact ⟨M', y1, (fun q y => by cases y), fun q t y => by cases y; exact y2⟩
    have r2 : M2 193 = M0 193 := a2.2.2.1 193 (by omega)
    have hf := flt_0 (M0 193) g
    by_cases b1 : 1 ≤ g ∧ g ≤ 50000
    · rw [if_neg (not_not_intro b1), r2] at e
      rw [if_pos b1] at hf
      by_cases b2 : M0 193 0 < 12
      · obtain ⟨M3, c1, c2⟩ := c161_1 a2
        have r3 : M3 193 = M0 193 := c2.2.2.1 193 (by omega)
        rw [if_pos b2, c1, yCi_I, if_neg (by decide), c147 yR193 (by rw [r3]; exact ok) (by rw [r3]; exact b2), yCi_I, r3] at e
        rw [if_pos b2] at hf
        exact fin (yL.V e rfl) (QR_y c2 hf)
      · obtain ⟨M3, c1, c2⟩ := c161_0 a2
        rw [if_neg b2, c1, yCi_I, if_pos rfl] at e
        rw [if_neg b2] at hf
        exact fin (yL.V e rfl) (QR_n c2 (by show ¬ flt (M0 193) 0 g 0 0 = 0; rw [hf]; decide))
    · obtain ⟨M3, c1, c2⟩ := c161_0 a2
      rw [if_pos b1, c1, yCi_I, if_pos rfl] at e
      rw [if_neg b1] at hf
      exact fin (yL.V e rfl) (QR_n c2 (by show ¬ flt (M0 193) 0 g 0 0 = 0; rw [hf]; decide))
/-- behind the stroke of a part of a measure -/
theorem n8B {a v : Int32} (hv : Ve 1 7 v) : TB (RT M0 L T K) (fun M13 => if v < 1 then yCi false (yX 159 0 [some (.ref 190), some (.int 2), some (.int 8), none] [] M13 0 0) fun v16 M15 => yX 163 83 [some (.ref 190), some (.int a), some (.int v), some (.int v16), none, none] [] M15 0 0 else yCi false (yX 159 0 [some (.ref 190), some (.int (v + 1)), some (.int 8), none] [] M13 0 0) fun v18 M17 => yX 163 83 [some (.ref 190), some (.int a), some (.int v), some (.int v18), none, none] [] M17 0 0) := by
  have h1 : 1 ≤ v ∧ v ≤ 7 := by
    rcases hv with h | h
    · rw [h]; decide
    · exact h
  have h2 : ¬ v < 1 := by have := h1.1; grind
  have h3 : 0 ≤ v + 1 := by have := h1.1; have := h1.2; grind
  simp only [if_neg h2]
  exact TB.bind (RB159t h3) (fun _ _ => n83B)
theorem n8G (ok : rok (M0 193)) {a v : Int32} (h1 : bet v 1 7) : TG (RT M0 L T K) (QR M0 L T K) (fun M13 => if v < 1 then yCi false (yX 159 0 [some (.ref 190), some (.int 2), some (.int 8), none] [] M13 0 0) fun v16 M15 => yX 163 83 [some (.ref 190), some (.int a), some (.int v), some (.int v16), none, none] [] M15 0 0 else yCi false (yX 159 0 [some (.ref 190), some (.int (v + 1)), some (.int 8), none] [] M13 0 0) fun v18 M17 => yX 163 83 [some (.ref 190), some (.int a), some (.int v), some (.int v18), none, none] [] M17 0 0) (gB (gD L T (v + 1) 8) fun d => gB (gU L T a v d) fun a => gP (0, a, 0, 0)) := by
  have h2 : ¬ v < 1 := by have := h1.1; grind
  have h3 : 0 ≤ v + 1 := by have := h1.1; have := h1.2; grind
  simp only [if_neg h2]
  exact TG.bind (W := fun d => bet d (v + 1) 8) (RG159t h3) (fun p d z => gD_v z) (fun _ _ => n83B) (fun d _ hd => n83G ok (by have := hd.1; have := h1.1; have := h1.2; grind))
/-- a part of a measure -/
theorem n7B {a v : Int32} (hv : Ve 1 7 v) : TB (RT M0 L T K) (fun M8 => yCi false (yX 157 0 [some (.ref 190)] [] M8 0 0) fun v11 M10 => if v11 = 47 then yCv false (yX 158 0 [some (.ref 190), some (.int 1)] [] M10 0 0) fun M13 => if v < 1 then yCi false (yX 159 0 [some (.ref 190), some (.int 2), some (.int 8), none] [] M13 0 0) fun v16 M15 => yX 163 83 [some (.ref 190), some (.int a), some (.int v), some (.int v16), none, none] [] M15 0 0 else yCi false (yX 159 0 [some (.ref 190), some (.int (v + 1)), some (.int 8), none] [] M13 0 0) fun v18 M17 => yX 163 83 [some (.ref 190), some (.int a), some (.int v), some (.int v18), none, none] [] M17 0 0 else yCv false (yX 158 0 [some (.ref 190), some (.int 0)] [] M10 0 0) fun M19 => if v < 1 then yCi false (yX 159 0 [some (.ref 190), some (.int 2), some (.int 8), none] [] M19 0 0) fun v22 M21 => yX 163 83 [some (.ref 190), some (.int a), some (.int v), some (.int v22), none, none] [] M21 0 0 else yCi false (yX 159 0 [some (.ref 190), some (.int (v + 1)), some (.int 8), none] [] M19 0 0) fun v24 M23 => yX 163 83 [some (.ref 190), some (.int a), some (.int v), some (.int v24), none, none] [] M23 0 0) := by
  intro M p hp
  dsimp only
  rw [c157 hp, yCi_I]
  by_cases z : hre L T p = 47
  · obtain ⟨M2, a1, a2⟩ := c158_b hp 1
    rw [if_pos z, a1, yCv_V]
    exact n8B hv M2 p a2
  · obtain ⟨M2, a1, a2⟩ := c158_b hp 0
    rw [if_neg z, a1, yCv_V]
    exact n8B hv M2 p a2
theorem n7G (ok : rok (M0 193)) {a v : Int32} (h1 : bet v 1 7) : TG (RT M0 L T K) (QR M0 L T K) (fun M8 => yCi false (yX 157 0 [some (.ref 190)] [] M8 0 0) fun v11 M10 => if v11 = 47 then yCv false (yX 158 0 [some (.ref 190), some (.int 1)] [] M10 0 0) fun M13 => if v < 1 then yCi false (yX 159 0 [some (.ref 190), some (.int 2), some (.int 8), none] [] M13 0 0) fun v16 M15 => yX 163 83 [some (.ref 190), some (.int a), some (.int v), some (.int v16), none, none] [] M15 0 0 else yCi false (yX 159 0 [some (.ref 190), some (.int (v + 1)), some (.int 8), none] [] M13 0 0) fun v18 M17 => yX 163 83 [some (.ref 190), some (.int a), some (.int v), some (.int v18), none, none] [] M17 0 0 else yCv false (yX 158 0 [some (.ref 190), some (.int 0)] [] M10 0 0) fun M19 => if v < 1 then yCi false (yX 159 0 [some (.ref 190), some (.int 2), some (.int 8), none] [] M19 0 0) fun v22 M21 => yX 163 83 [some (.ref 190), some (.int a), some (.int v), some (.int v22), none, none] [] M21 0 0 else yCi false (yX 159 0 [some (.ref 190), some (.int (v + 1)), some (.int 8), none] [] M19 0 0) fun v24 M23 => yX 163 83 [some (.ref 190), some (.int a), some (.int v), some (.int v24), none, none] [] M23 0 0) (gB (gC L T 47) fun _ => gB (gD L T (v + 1) 8) fun d => gB (gU L T a v d) fun a => gP (0, a, 0, 0)) := by
  intro M p hp
  dsimp only
  rw [c157 hp, yCi_I]
  by_cases q : p < L ∧ T p = 47
  · have z : hre L T p = 47 := (if_pos q.1).trans q.2
    obtain ⟨M2, a1, a2⟩ := c158_1 hp q.1
    rw [if_pos z, a1, yCv_V, gB_some (v := 0) (q := p + 1) (by unfold gC; rw [if_pos q])]
    exact n8G ok h1 M2 (p + 1) a2
  · have z : ¬ hre L T p = 47 := by
      intro z
      by_cases q1 : p < L
      · have eh : hre L T p = T p := if_pos q1
        exact q ⟨q1, eh.symm.trans z⟩
      · have eh : hre L T p = -1 := if_neg q1
        rw [eh] at z
        exact absurd z (by decide)
    obtain ⟨M2, a1, a2⟩ := c158_0 hp
    obtain ⟨M3, b1, b2⟩ := n8B (a := a) (Or.inr h1) M2 p a2
    rw [if_neg z, a1, yCv_V, gB_none (q := p) (by unfold gC; rw [if_neg q])]
    exact ⟨M3, b1, fun q y => by cases y; exact b2, fun q t y => by cases y⟩
theorem n163 (ok : rok (M0 193)) : TG (RT M0 L T K) (QR M0 L T K) (fun M => yX 163 0 [some (.ref 190), none, none, none, none, none] [] M 0 0) (gB (gA L T) fun a => gP (0, a, 0, 0)) := by
  unfold gA
  rw [gB_assoc]
  refine TG.of (TG.bind (W := Vt) m99.2 (fun _ _ _ => trivial) (fun a _ => ?_) (fun a _ _ => ?_)) (fun M => e163)
  · intro M p hp
    obtain ⟨M', a1, a2⟩ := n83B (x1 := a) (x2 := 0) (x3 := 1) (o4 := none) (o5 := none) M p hp
    refine ⟨M', ?_, a2⟩
    dsimp only at a1 ⊢
    rw [if_pos (by rw [RT_g hp]), a1]
  · intro M p hp
    dsimp only
    rw [if_neg (by rw [RT_g hp]; intro y; cases y), c157 hp, yCi_I]
    by_cases q : p < L ∧ T p = 43
    · have z : hre L T p = 43 := (if_pos q.1).trans q.2
      have eG : gB (fun p => if p < L ∧ T p = 43 then gB (gD L T 1 7) (fun b => gB (gC L T 47) fun _ => gB (gD L T (b + 1) 8) fun d => gU L T a b d) (p + 1) else gU L T a 0 1 p) (fun a => gP ((0, a, 0, 0) : y4)) p = gB (gD L T 1 7) (fun b => gB (gC L T 47) fun _ => gB (gD L T (b + 1) 8) fun d => gB (gU L T a b d) fun a => gP (0, a, 0, 0)) (p + 1) := by
        have this : gB (gB (gD L T 1 7) (fun b => gB (gC L T 47) fun _ => gB (gD L T (b + 1) 8) fun d => gU L T a b d)) (fun a => gP ((0, a, 0, 0) : y4)) = gB (gD L T 1 7) (fun b => gB (gC L T 47) fun _ => gB (gD L T (b + 1) 8) fun d => gB (gU L T a b d) fun a => gP (0, a, 0, 0)) := by simp only [gB_assoc]
        rw [← this]
        unfold gB
        simp only [if_pos q]
      rw [if_pos z, yLet_eq, eG]
      exact TG.bind (W := fun v => bet v 1 7) (RG159 (lo := 1) (hi := 7) (by decide)) (fun p v z => gD_v z) (fun v hv => n7B hv) (fun v _ hw => n7G ok hw) _ (p + 1) (RT_15 hp q.1)
    · have z : ¬ hre L T p = 43 := by
        intro z
        by_cases q1 : p < L
        · have eh : hre L T p = T p := if_pos q1
          exact q ⟨q1, eh.symm.trans z⟩
        · have eh : hre L T p = -1 := if_neg q1
          rw [eh] at z
          exact absurd z (by decide)
      have eG : gB (fun p => if p < L ∧ T p = 43 then gB (gD L T 1 7) (fun b => gB (gC L T 47) fun _ => gB (gD L T (b + 1) 8) fun d => gU L T a b d) (p + 1) else gU L T a 0 1 p) (fun a => gP ((0, a, 0, 0) : y4)) p = gB (gU L T a 0 1) (fun a => gP (0, a, 0, 0)) p := by
        unfold gB
        simp only [if_neg q]
      rw [if_neg z, eG]
      exact n83G ok (by decide) M p hp
end CMR
