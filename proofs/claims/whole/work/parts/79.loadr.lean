/-! the further commands in the reference, and a whole text -/
section CM2
variable {M0 : yM} {L : Nat} {T : Nat → Int32} {K : Int32}
theorem bit_01 {d : Int32} (h : bet d 0 1) : d = 0 ∨ d = 1 := by
  obtain ⟨h1, h2⟩ := h
  by_cases e : d = 0
  · exact Or.inl e
  · exact Or.inr (by grind)
theorem flt_1 {r : yRow} {a b d : Int32} (h : bet a 1 90 ∧ bet b (-1) 3) : flt r 1 a b d = if r 15 < 14 then 0 else 3 := by
  unfold flt
  rw [if_neg (by decide), if_pos rfl, if_pos h]
theorem n164 (ok : rok (M0 193)) : TG (RT M0 L T K) (QR M0 L T K) (fun M => yX 164 0 [some (.ref 190), none, none, none] [] M 0 0) (gB (gN L T 1 90) fun m => gB (gD L T 0 4) fun h => gB (gD L T 0 1) fun d => gP (1, m, (if bet h 0 3 then h else -1), d)) := by
  refine TG.of (TG.bind (W := fun v => bet v 1 90) m90.2 (fun p v z => gN_v (a := 0) (b := 9) (c := 1) (d := 0) (by decide) (by decide) (by decide) (by decide) ⟨by decide, by decide⟩ ⟨by decide, by decide⟩ ⟨by decide, by decide⟩ ⟨by decide, by decide⟩ (by decide) z) (fun m _ => TB.bind (RB159t (by decide)) (fun h _ => TB.bind (RB159t (by decide)) (fun d _ => ?_))) (fun m _ hm => TG.bind (W := fun v => bet v 0 4) (RG159t (by decide)) (fun p v z => gD_v z) (fun h _ => TB.bind (RB159t (by decide)) (fun d _ => ?_)) (fun h _ hh => TG.bind (W := fun v => bet v 0 1) (RG159t (by decide)) (fun p v z => gD_v z) (fun d _ => ?_) (fun d _ hd => ?_)))) (fun M => e164)
  · intro M p hp
    dsimp only
    by_cases z : M 193 15 < 14
    · obtain ⟨M2, a1, a2⟩ := c161_b hp 1
      rw [if_pos z, a1, yCi_I, if_pos rfl]
      exact ⟨M2, rfl, a2⟩
    · obtain ⟨M2, a1, a2⟩ := c161_b hp 0
      rw [if_neg z, a1, yCi_I, if_pos rfl]
      exact ⟨M2, rfl, a2⟩
  · intro M p hp
    dsimp only
    by_cases z : M 193 15 < 14
    · obtain ⟨M2, a1, a2⟩ := c161_b hp 1
      rw [if_pos z, a1, yCi_I, if_pos rfl]
      exact ⟨M2, rfl, a2⟩
    · obtain ⟨M2, a1, a2⟩ := c161_b hp 0
      rw [if_neg z, a1, yCi_I, if_pos rfl]
      exact ⟨M2, rfl, a2⟩
  · intro M p hp
    dsimp only
    by_cases z : M 193 15 < 14
    · obtain ⟨M2, a1, a2⟩ := c161_b hp 1
      rw [if_pos z, a1, yCi_I, if_pos rfl]
      exact ⟨M2, rfl, a2⟩
    · obtain ⟨M2, a1, a2⟩ := c161_b hp 0
      rw [if_neg z, a1, yCi_I, if_pos rfl]
      exact ⟨M2, rfl, a2⟩
  · refine TG.here (fun M p hp => ?_)
    have r1 : M 193 = M0 193 := hp.2.2.1 193 (by omega)
    rw [r1]
    obtain ⟨b, hb⟩ : ∃ b, b = (if bet h 0 3 then h else -1) := ⟨_, rfl⟩
    rw [← hb]
    have hb3 : bet b (-1) 3 := by
      rw [hb]
      split
      · next y => exact ⟨by have := y.1; grind, y.2⟩
      · exact ⟨by decide, by decide⟩
    have hf := flt_1 (r := M0 193) (d := d) ⟨hm, hb3⟩
    by_cases z : M0 193 15 < 14
    · obtain ⟨M2, a1, a2⟩ := c161_1 hp
      have r2 : M2 193 = M0 193 := a2.2.2.1 193 (by omega)
      rw [if_pos z] at hf
      rw [if_pos z, a1, yCi_I, if_neg (by decide)]
      have k : ∀ x : Int32, bet x 0 1 → yX 150 0 [some (.ref 193), some (.int m), some (.int b), some (.int x), none] [] M2 0 0 = yI (M2 193 15) (yUa M2 193 (rStp (M2 193) m b x)) := fun x hx => c150 yR193 (by rw [r2]; exact ok) (by rw [r2]; exact z) hx
      rw [r2] at k
      have fin : ∀ x : Int32, x = d → ∃ M', (yCi false (yX 150 0 [some (.ref 193), some (.int m), some (.int b), some (.int x), none] [] M2 0 0) fun _ M => yV M) = yV M' ∧ QR M0 L T K M' p (1, m, b, d) := by
        intro x hx
        subst hx
        rw [k x hd, yCi_I]
        exact ⟨_, rfl, QR_y a2 hf⟩
      by_cases h4 : h = 4
      · have eb : b = -1 := by rw [hb, h4]; decide
        rw [if_pos h4]
        rw [eb] at fin ⊢
        rcases bit_01 hd with e | e
        · rw [if_neg (by rw [e]; decide)]; exact fin 0 e.symm
        · rw [if_pos e]; exact fin 1 e.symm
      · have eb : b = h := by rw [hb, if_pos ⟨hh.1, by have := hh.2; grind⟩]
        rw [if_neg h4]
        rw [eb] at fin ⊢
        rcases bit_01 hd with e | e
        · rw [if_neg (by rw [e]; decide)]; exact fin 0 e.symm
        · rw [if_pos e]; exact fin 1 e.symm
    · obtain ⟨M2, a1, a2⟩ := c161_0 hp
      rw [if_neg z] at hf
      rw [if_neg z, a1, yCi_I, if_pos rfl]
      exact ⟨M2, rfl, QR_n a2 (by show ¬ flt (M0 193) 1 m b d = 0; rw [hf]; decide)⟩
theorem n165 (ok : rok (M0 193)) : TG (RT M0 L T K) (QR M0 L T K) (fun M => yX 165 0 [some (.ref 190), none, none] [] M 0 0) (gB (gN L T 0 13) fun a => gB (gN L T 0 11) fun b => gP (2, a, b, 1)) := by
  have bad : ∀ (M : yM) (p : Nat) (a b : Int32), RT M0 L T K M p true → ∃ M', (yCi false (yX 115 0 [some (.ref 193), some (.int a)] [] M 0 0) fun v6 M5 => if v6 = 0 then yCi false (yX 161 0 [some (.ref 190), some (.int 0)] [] M5 0 0) fun v9 M8 => if v9 = 0 then yV M8 else yCi false (yX 151 0 [some (.ref 193), some (.int a), some (.int b), some (.int 1), none] [] M8 0 0) fun v12 M11 => yV M11 else yCi false (yX 114 0 [some (.ref 193), some (.int b)] [] M5 0 0) fun v14 M13 => if v14 = 0 then yCi false (yX 161 0 [some (.ref 190), some (.int 0)] [] M13 0 0) fun v17 M16 => if v17 = 0 then yV M16 else yCi false (yX 151 0 [some (.ref 193), some (.int a), some (.int b), some (.int 1), none] [] M16 0 0) fun v20 M19 => yV M19 else yCi false (yX 161 0 [some (.ref 190), some (.int 1)] [] M13 0 0) fun v22 M21 => if v22 = 0 then yV M21 else yCi false (yX 151 0 [some (.ref 193), some (.int a), some (.int b), some (.int 1), none] [] M21 0 0) fun v25 M24 => yV M24) = yV M' ∧ RT M0 L T K M' p true := by
    intro M p a b hp
    obtain ⟨M2, a1, a2⟩ := c161_b hp 0
    obtain ⟨M3, b1, b2⟩ := c161_b hp 1
    rw [c115 yR193, yCi_I]
    simp only [yb_0]
    by_cases z : 0 ≤ a ∧ a ≤ M 193 15 - 1
    · rw [if_neg (not_not_intro z), c114 yR193, yCi_I]
      simp only [yb_0]
      by_cases z2 : 0 ≤ b ∧ b ≤ M 193 0 - 1
      · rw [if_neg (not_not_intro z2), b1, yCi_I, if_pos rfl]
        exact ⟨M3, rfl, b2⟩
      · rw [if_pos z2, a1, yCi_I, if_pos rfl]
        exact ⟨M2, rfl, a2⟩
    · rw [if_pos z, a1, yCi_I, if_pos rfl]
      exact ⟨M2, rfl, a2⟩
  refine TG.of (TG.bind (W := Vt) m13.2 (fun _ _ _ => trivial) (fun a _ => TB.bind m11.1 (fun b _ M p hp => bad M p a b hp)) (fun a _ _ => TG.bind (W := Vt) m11.2 (fun _ _ _ => trivial) (fun b _ M p hp => bad M p a b hp) (fun b _ _ => TG.here (fun M p hp => ?_)))) (fun M => e165)
  have r1 : M 193 = M0 193 := hp.2.2.1 193 (by omega)
  have hf : flt (M0 193) 2 a b 1 = if bet a 0 (M0 193 15 - 1) ∧ bet b 0 (M0 193 0 - 1) then 0 else 1 := by
    unfold flt
    rw [if_neg (by decide), if_neg (by decide), if_pos rfl]
  obtain ⟨M2, a1, a2⟩ := c161_0 hp
  obtain ⟨M3, b1, b2⟩ := c161_1 hp
  have r3 : M3 193 = M0 193 := b2.2.2.1 193 (by omega)
  rw [c115 yR193, yCi_I, r1]
  simp only [yb_0]
  by_cases z : 0 ≤ a ∧ a ≤ M0 193 15 - 1
  · rw [if_neg (not_not_intro z), c114 yR193, yCi_I, r1]
    simp only [yb_0]
    by_cases z2 : 0 ≤ b ∧ b ≤ M0 193 0 - 1
    · rw [if_neg (not_not_intro z2), b1, yCi_I, if_neg (by decide), c151 yR193 (by rw [r3]; exact ok) ⟨by decide, by decide⟩ (by rw [r3]; exact z), yCi_I, r3]
      rw [if_pos ⟨z, z2⟩] at hf
      exact ⟨_, rfl, QR_y b2 hf⟩
    · rw [if_pos z2, a1, yCi_I, if_pos rfl]
      rw [if_neg (fun y => z2 y.2)] at hf
      exact ⟨_, rfl, QR_n a2 (by show ¬ flt (M0 193) 2 a b 1 = 0; rw [hf]; decide)⟩
  · rw [if_pos z, a1, yCi_I, if_pos rfl]
    rw [if_neg (fun y => z y.1)] at hf
    exact ⟨_, rfl, QR_n a2 (by show ¬ flt (M0 193) 2 a b 1 = 0; rw [hf]; decide)⟩
theorem n42B {a b : Int32} {o : Option Value} {M : yM} {p : Nat} (hp : RT M0 L T K M p true) : ∃ M', yX 166 42 [some (.ref 190), some (.int a), some (.int b), o] [] M 0 0 = yV M' ∧ RT M0 L T K M' p true := by
  obtain ⟨M2, a1, a2⟩ := c161_b hp 0
  exact ⟨M2, yL.V e166_42 (by rw [a1, yCi_I, if_pos rfl]), a2⟩
theorem n42G {a b : Int32} {o : Option Value} {M : yM} {p : Nat} (hp : RT M0 L T K M p false) : ∃ M', yX 166 42 [some (.ref 190), some (.int a), some (.int b), o] [] M 0 0 = yV M' ∧ RT M0 L T (K + 1) M' p false := by
  obtain ⟨M2, a1, a2⟩ := c161_0 hp
  exact ⟨M2, yL.V e166_42 (by rw [a1, yCi_I, if_pos rfl]), a2⟩
theorem n166 (ok : rok (M0 193)) : TG (RT M0 L T K) (QR M0 L T K) (fun M => yX 166 0 [some (.ref 190), none, none, none] [] M 0 0) (gB (gN L T 0 13) fun a => gB (gN L T 0 13) fun b => gP (3, a, b, 1)) := by
  have bad : ∀ (M : yM) (p : Nat) (a b : Int32), RT M0 L T K M p true → ∃ M', (yCi false (yX 115 0 [some (.ref 193), some (.int a)] [] M 0 0) fun v6 M5 => if v6 = 0 then yX 166 42 [some (.ref 190), some (.int a), some (.int b), none] [] M5 0 0 else yCi false (yX 115 0 [some (.ref 193), some (.int b)] [] M5 0 0) fun v9 M8 => if v9 = 0 then yX 166 42 [some (.ref 190), some (.int a), some (.int b), none] [] M8 0 0 else yCi false (yX 152 0 [some (.ref 193), some (.int a), some (.int b), some (.int 1)] [] M8 0 0) fun v12 M11 => if v12 = 0 then yCi false (yX 161 0 [some (.ref 190), some (.int 0)] [] M11 0 0) fun v15 M14 => if v15 = 0 then yV M14 else yCi false (yX 153 0 [some (.ref 193), some (.int a), some (.int b), some (.int 1), none] [] M14 0 0) fun v18 M17 => yV M17 else yCi false (yX 161 0 [some (.ref 190), some (.int 1)] [] M11 0 0) fun v20 M19 => if v20 = 0 then yV M19 else yCi false (yX 153 0 [some (.ref 193), some (.int a), some (.int b), some (.int 1), none] [] M19 0 0) fun v23 M22 => yV M22) = yV M' ∧ RT M0 L T K M' p true := by
    intro M p a b hp
    have r1 : M 193 = M0 193 := hp.2.2.1 193 (by omega)
    obtain ⟨M2, a1, a2⟩ := c161_b hp 0
    obtain ⟨M3, b1, b2⟩ := c161_b hp 1
    obtain ⟨M4, d1, d2⟩ := n42B (a := a) (b := b) (o := none) hp
    rw [c115 yR193, yCi_I]
    simp only [yb_0]
    by_cases z : 0 ≤ a ∧ a ≤ M 193 15 - 1
    · rw [if_neg (not_not_intro z), c115 yR193, yCi_I]
      simp only [yb_0]
      by_cases z2 : 0 ≤ b ∧ b ≤ M 193 15 - 1
      · rw [if_neg (not_not_intro z2), c152 yR193 (by rw [r1]; exact ok) ⟨by decide, by decide⟩ z2, yCi_I]
        by_cases z3 : ¬ ((1 : Int32) = 1 ∧ (a = b ∨ hs (San (M 193) (yx b)) a))
        · rw [yb_pos z3, if_neg (by decide), b1, yCi_I, if_pos rfl]
          exact ⟨M3, rfl, b2⟩
        · rw [yb_neg z3, if_pos rfl, a1, yCi_I, if_pos rfl]
          exact ⟨M2, rfl, a2⟩
      · rw [if_pos z2, d1]
        exact ⟨M4, rfl, d2⟩
    · rw [if_pos z, d1]
      exact ⟨M4, rfl, d2⟩
  refine TG.of (TG.bind (W := Vt) m13.2 (fun _ _ _ => trivial) (fun a _ => TB.bind m13.1 (fun b _ M p hp => bad M p a b hp)) (fun a _ _ => TG.bind (W := Vt) m13.2 (fun _ _ _ => trivial) (fun b _ M p hp => bad M p a b hp) (fun b _ _ => TG.here (fun M p hp => ?_)))) (fun M => e166)
  have r1 : M 193 = M0 193 := hp.2.2.1 193 (by omega)
  have hf : flt (M0 193) 3 a b 1 = if bet a 0 (M0 193 15 - 1) ∧ bet b 0 (M0 193 15 - 1) then if (1 : Int32) = 1 ∧ (a = b ∨ hs (San (M0 193) (yx b)) a) then 3 else 0 else 1 := by
    unfold flt
    rw [if_neg (by decide), if_neg (by decide), if_neg (by decide), if_pos rfl]
  obtain ⟨M2, a1, a2⟩ := c161_0 hp
  obtain ⟨M3, b1, b2⟩ := c161_1 hp
  obtain ⟨M4, d1, d2⟩ := n42G (a := a) (b := b) (o := none) hp
  have r3 : M3 193 = M0 193 := b2.2.2.1 193 (by omega)
  rw [c115 yR193, yCi_I, r1]
  simp only [yb_0]
  by_cases z : 0 ≤ a ∧ a ≤ M0 193 15 - 1
  · rw [if_neg (not_not_intro z), c115 yR193, yCi_I, r1]
    simp only [yb_0]
    by_cases z2 : 0 ≤ b ∧ b ≤ M0 193 15 - 1
    · rw [if_neg (not_not_intro z2), c152 yR193 (by rw [r1]; exact ok) ⟨by decide, by decide⟩ (by rw [r1]; exact z2), yCi_I, r1]
      rw [if_pos ⟨z, z2⟩] at hf
      by_cases z3 : (1 : Int32) = 1 ∧ (a = b ∨ hs (San (M0 193) (yx b)) a)
      · rw [yb_neg (not_not_intro z3), if_pos rfl, a1, yCi_I, if_pos rfl]
        rw [if_pos z3] at hf
        exact ⟨_, rfl, QR_n a2 (by show ¬ flt (M0 193) 3 a b 1 = 0; rw [hf]; decide)⟩
      · rw [yb_pos z3, if_neg (by decide), b1, yCi_I, if_neg (by decide), c153 yR193 (by rw [r3]; exact ok) ⟨by decide, by decide⟩ (by rw [r3]; exact z), yCi_I, r3]
        rw [if_neg z3] at hf
        exact ⟨_, rfl, QR_y b2 hf⟩
    · rw [if_pos z2, d1]
      rw [if_neg (fun y => z2 y.2)] at hf
      exact ⟨_, rfl, QR_n d2 (by show ¬ flt (M0 193) 3 a b 1 = 0; rw [hf]; decide)⟩
  · rw [if_pos z, d1]
    rw [if_neg (fun y => z y.1)] at hf
    exact ⟨_, rfl, QR_n d2 (by show ¬ flt (M0 193) 3 a b 1 = 0; rw [hf]; decide)⟩
theorem n167k : TG (RT M0 L T K) (QR M0 L T K) (fun M => yX 167 0 [some (.ref 190), some (.int 107), none, none] [] M 0 0) (gB (gD L T 0 3) fun a => gB (gD L T 0 3) fun b => gP (4, a, b, 0)) := by
  refine TG.of (X := fun M => yCi false (yX 159 0 [some (.ref 190), some (.int 0), some (.int 3), none] [] M 0 0) fun v3 M2 => yCi false (yX 159 0 [some (.ref 190), some (.int 0), some (.int 3), none] [] M2 0 0) fun v5 M4 => if (M4 190 16) = 0 then yV M4 else if yinB (86 + v3) 95 = true then yLet (yU M4 193 (yx (86 + v3)) v5) fun M7 => yV M7 else none) (TG.bind (W := fun v => bet v 0 3) (RG159t (by decide)) (fun p v z => gD_v z) (fun a _ => TB.bind (RB159t (by decide)) (fun b _ => ?_)) (fun a _ ha => TG.bind (W := fun v => bet v 0 3) (RG159t (by decide)) (fun p v z => gD_v z) (fun b _ => ?_) (fun b _ hb => TG.here (fun M p hp => ?_)))) (fun M => ?_)
  · intro M p hp
    dsimp only
    rw [if_pos (by rw [RT_g hp])]
    exact ⟨M, rfl, hp⟩
  · intro M p hp
    dsimp only
    rw [if_pos (by rw [RT_g hp])]
    exact ⟨M, rfl, hp⟩
  · have r1 : M 193 = M0 193 := hp.2.2.1 193 (by omega)
    obtain ⟨i1, i2⟩ := knd_ix ha
    obtain ⟨g1, g2⟩ := rofs (c := 86) (n := yx a) (v := 86) (by omega) rfl
    rw [← i2] at g1 g2
    have hf : flt (M0 193) 4 a b 0 = 0 := by
      unfold flt
      rw [if_neg (by decide), if_neg (by decide), if_neg (by decide), if_neg (by decide), if_pos rfl, if_pos ha, if_pos hb]
    rw [if_neg (by rw [RT_g hp]; intro y; cases y), if_pos g1, yLet_eq, g2, yU_row, r1]
    exact ⟨_, rfl, QR_y hp hf⟩
  · have e := e167 (a1 := 107) (M := M)
    rw [if_pos rfl] at e
    exact e
theorem n167v (ok : rok (M0 193)) : TG (RT M0 L T K) (QR M0 L T K) (fun M => yX 167 0 [some (.ref 190), some (.int 118), none, none] [] M 0 0) (gB (gN L T 1 24) fun b => gP (5, M0 193 13, b, 0)) := by
  refine TG.of (X := fun M => yCi false (yX 160 0 [some (.ref 190), some (.int 1), some (.int 24), none] [] M 0 0) fun v11 M10 => if (M10 190 16) = 0 then yV M10 else if yinB 14 95 = true then yLet (yU M10 193 (yx 14) v11) fun M13 => yV M13 else none) (TG.bind (W := fun v => bet v 1 24) m24.2 (fun p v z => gN_v (a := 0) (b := 2) (c := 1) (d := 4) (by decide) (by decide) (by decide) (by decide) ⟨by decide, by decide⟩ ⟨by decide, by decide⟩ ⟨by decide, by decide⟩ ⟨by decide, by decide⟩ (by decide) z) (fun b _ => ?_) (fun b _ hb => TG.here (fun M p hp => ?_))) (fun M => ?_)
  · intro M p hp
    dsimp only
    rw [if_pos (by rw [RT_g hp])]
    exact ⟨M, rfl, hp⟩
  · have r1 : M 193 = M0 193 := hp.2.2.1 193 (by omega)
    have hf : flt (M0 193) 5 (M0 193 13) b 0 = 0 := by
      unfold flt
      rw [if_neg (by decide), if_neg (by decide), if_neg (by decide), if_neg (by decide), if_neg (by decide), if_pos rfl, if_pos ⟨ok.2.2.1, hb⟩]
    rw [if_neg (by rw [RT_g hp]; intro y; cases y), if_pos in_lits.2.1, yLet_eq, yx_lits.2.1, yU_row, r1]
    refine ⟨_, rfl, ?_⟩
    have := QR_y (t := (5, M0 193 13, b, 0)) hp hf
    have e : prfR (M0 193) 5 (M0 193 13) b 0 = upd (M0 193) 14 b := by
      show upd (upd (M0 193) 13 (M0 193 13)) 14 b = _
      rw [upd_same]
    dsimp only at this
    rw [e] at this
    exact this
  · have e := e167 (a1 := 118) (M := M)
    rw [if_neg (by decide), if_pos rfl] at e
    exact e
theorem n167r : TG (RT M0 L T K) (QR M0 L T K) (fun M => yX 167 0 [some (.ref 190), some (.int 114), none, none] [] M 0 0) (gB (gD L T 0 3) fun b => gP (6, 4, b, 0)) := by
  refine TG.of (X := fun M => yCi false (yX 159 0 [some (.ref 190), some (.int 0), some (.int 3), none] [] M 0 0) fun v16 M15 => if (M15 190 16) = 0 then yV M15 else if yinB 94 95 = true then yLet (yU M15 193 (yx 94) v16) fun M18 => yV M18 else none) (TG.bind (W := fun v => bet v 0 3) (RG159t (by decide)) (fun p v z => gD_v z) (fun b _ => ?_) (fun b _ hb => TG.here (fun M p hp => ?_))) (fun M => ?_)
  · intro M p hp
    dsimp only
    rw [if_pos (by rw [RT_g hp])]
    exact ⟨M, rfl, hp⟩
  · have r1 : M 193 = M0 193 := hp.2.2.1 193 (by omega)
    have i4 : yx 4 = 4 ∧ yx 94 = 94 ∧ yinB 94 95 = true := by decide +kernel
    have hf : flt (M0 193) 6 4 b 0 = 0 := by
      unfold flt
      rw [if_neg (by decide), if_neg (by decide), if_neg (by decide), if_neg (by decide), if_neg (by decide), if_neg (by decide), if_pos rfl, i4.1, set_lims.2.2.2.2.2.2.2.2.1, set_lims.2.2.2.2.2.2.2.2.2, if_pos ⟨⟨by decide, by decide⟩, hb⟩]
    rw [if_neg (by rw [RT_g hp]; intro y; cases y), if_pos i4.2.2, yLet_eq, i4.2.1, yU_row, r1]
    refine ⟨_, rfl, ?_⟩
    have := QR_y (t := (6, 4, b, 0)) hp hf
    have e : prfR (M0 193) 6 4 b 0 = upd (M0 193) 94 b := by
      show upd (M0 193) (90 + yx 4) b = _
      rw [i4.1]
    dsimp only at this
    rw [e] at this
    exact this
  · have e := e167 (a1 := 114) (M := M)
    rw [if_neg (by decide), if_neg (by decide)] at e
    exact e
theorem n168 (ok : rok (M0 193)) : TG (RT M0 L T K) (QR M0 L T K) (fun M => yX 168 0 [some (.ref 190), none] [] M 0 0) (gT L T (M0 193 13)) := by
  intro M p hp
  have e := e168 (M := M)
  rw [c157 hp, yCi_I] at e
  by_cases z : fI 5 (hre L T p) 7 0 = -1
  · have hg := gI_none (L := L) (T := T) (p := p) z
    rw [fI5] at z
    have d1 : ¬ (0 : Int32) = -1 ∧ ¬ (1 : Int32) = -1 ∧ ¬ (2 : Int32) = -1 ∧ ¬ (3 : Int32) = -1 ∧ ¬ (4 : Int32) = -1 ∧ ¬ (5 : Int32) = -1 ∧ ¬ (6 : Int32) = -1 := by decide
    have z0 : ¬ hre L T p = 105 := fun y => by rw [if_pos y] at z; exact d1.1 z
    rw [if_neg z0] at z e
    have z1 : ¬ hre L T p = 115 := fun y => by rw [if_pos y] at z; exact d1.2.1 z
    rw [if_neg z1] at z e
    have z2 : ¬ hre L T p = 117 := fun y => by rw [if_pos y] at z; exact d1.2.2.1 z
    rw [if_neg z2] at z e
    have z3 : ¬ hre L T p = 110 := fun y => by rw [if_pos y] at z; exact d1.2.2.2.1 z
    rw [if_neg z3] at z e
    have z4 : ¬ hre L T p = 107 := fun y => by rw [if_pos y] at z; exact d1.2.2.2.2.1 z
    rw [if_neg z4] at z e
    have z5 : ¬ hre L T p = 118 := fun y => by rw [if_pos y] at z; exact d1.2.2.2.2.2.1 z
    rw [if_neg z5] at z e
    have z6 : ¬ hre L T p = 114 := fun y => by rw [if_pos y] at z; exact d1.2.2.2.2.2.2 z
    rw [if_neg z6] at e
    obtain ⟨M2, a1, a2⟩ := c158_0 hp
    rw [a1, yCv_V, if_pos (by rw [RT_g a2])] at e
    refine ⟨M2, yL.V e rfl, fun q y => ?_, fun q t y => ?_⟩
    · rw [gT_none hg] at y
      cases y
      exact a2
    · rw [gT_none hg] at y
      cases y
  · obtain ⟨q1, q3⟩ := gI_some (L := L) (T := T) (p := p) (q := 5) (n := 7) (by rw [fI5]; decide) z
    have g := gT_some (sv := M0 193 13) q3
    have kk := fI5 (hre L T p)
    rw [kk] at z
    obtain ⟨M2, a1, a2⟩ := c158_1 hp q1
    have ng : ¬ M2 190 16 = 0 := by rw [RT_g a2]; intro y; cases y
    have fin : ∀ {X : yM → Option yRes} {G : Nat → Nat × Option y4}, TG (RT M0 L T K) (QR M0 L T K) X G → yL (yCv false (X M2) fun M => yV M) (yX 168 0 [some (.ref 190), none] [] M 0 0) → gT L T (M0 193 13) p = G (p + 1) → ∃ M', yX 168 0 [some (.ref 190), none] [] M 0 0 = yV M' ∧ (∀ q', gT L T (M0 193 13) p = (q', none) → RT M0 L T K M' q' true) ∧ ∀ q' t, gT L T (M0 193 13) p = (q', some t) → QR M0 L T K M' q' t := by
      intro X G h e g
      obtain ⟨M3, d1, d2, d3⟩ := h M2 (p + 1) a2
      rw [d1, yCv_V] at e
      exact ⟨M3, yL.V e rfl, fun q' z => d2 q' (g.symm.trans z), fun q' t z => d3 q' t (g.symm.trans z)⟩
    by_cases z0 : hre L T p = 105
    · rw [if_pos z0] at e
      rw [a1, yCv_V, if_neg ng, if_pos z0] at e
      have k : fI 5 (hre L T p) 7 0 = 0 := by rw [kk, z0]; decide
      rw [k, if_pos rfl] at g
      exact fin (n163 ok) e g
    rw [if_neg z0] at e
    by_cases z1 : hre L T p = 115
    · rw [if_pos z1] at e
      rw [a1, yCv_V, if_neg ng, z1, if_neg (by decide), if_neg (by decide), if_pos rfl] at e
      have k : fI 5 (hre L T p) 7 0 = 1 := by rw [kk, z1]; decide
      rw [k, if_neg (by decide), if_pos rfl] at g
      exact fin (n164 ok) e g
    rw [if_neg z1] at e
    by_cases z2 : hre L T p = 117
    · rw [if_pos z2] at e
      rw [a1, yCv_V, if_neg ng, z2, if_neg (by decide), if_neg (by decide), if_neg (by decide), if_pos rfl] at e
      have k : fI 5 (hre L T p) 7 0 = 2 := by rw [kk, z2]; decide
      rw [k, if_neg (by decide), if_neg (by decide), if_pos rfl] at g
      exact fin (n165 ok) e g
    rw [if_neg z2] at e
    by_cases z3 : hre L T p = 110
    · rw [if_pos z3] at e
      rw [a1, yCv_V, if_neg ng, z3, if_neg (by decide), if_pos rfl] at e
      have k : fI 5 (hre L T p) 7 0 = 3 := by rw [kk, z3]; decide
      rw [k, if_neg (by decide), if_neg (by decide), if_neg (by decide), if_pos rfl] at g
      exact fin (n166 ok) e g
    rw [if_neg z3] at e
    by_cases z4 : hre L T p = 107
    · rw [if_pos z4] at e
      rw [a1, yCv_V, if_neg ng, z4, if_neg (by decide), if_neg (by decide), if_neg (by decide), if_neg (by decide)] at e
      have k : fI 5 (hre L T p) 7 0 = 4 := by rw [kk, z4]; decide
      rw [k, if_neg (by decide), if_neg (by decide), if_neg (by decide), if_neg (by decide), if_pos rfl] at g
      exact fin n167k e g
    rw [if_neg z4] at e
    by_cases z5 : hre L T p = 118
    · rw [if_pos z5] at e
      rw [a1, yCv_V, if_neg ng, z5, if_neg (by decide), if_neg (by decide), if_neg (by decide), if_neg (by decide)] at e
      have k : fI 5 (hre L T p) 7 0 = 5 := by rw [kk, z5]; decide
      rw [k, if_neg (by decide), if_neg (by decide), if_neg (by decide), if_neg (by decide), if_neg (by decide), if_pos rfl] at g
      exact fin (n167v ok) e g
    rw [if_neg z5] at e
    by_cases z6 : hre L T p = 114
    · rw [if_pos z6] at e
      rw [a1, yCv_V, if_neg ng, z6, if_neg (by decide), if_neg (by decide), if_neg (by decide), if_neg (by decide)] at e
      have k : fI 5 (hre L T p) 7 0 = 6 := by rw [kk, z6]; decide
      rw [k, if_neg (by decide), if_neg (by decide), if_neg (by decide), if_neg (by decide), if_neg (by decide), if_neg (by decide)] at g
      exact fin n167r e g
    · rw [if_neg z0, if_neg z1, if_neg z2, if_neg z3, if_neg z4, if_neg z5, if_neg z6] at z
      exact absurd rfl z
end CM2
section LDR
variable {L : Nat} {T : Nat → Int32} {M : yM} {A : yAb}
def PRr (M : yM) (R : yPr) (M' : yM) : Prop := M' 193 = R.2.1 ∧ M' 190 17 = R.2.2 ∧ (∀ a, a ≠ 190 → a ≠ 193 → M' a = M a) ∧ ∀ j, j ≠ 15 → j ≠ 16 → j ≠ 17 → M' 190 j = M 190 j
theorem c169_l : ∀ n p (r : yRow) (K : Int32) (M0 M : yM), L ≤ p + n → RT M0 L T K M p false → M 193 = r → pok r → ∃ M', yX 169 40 [some (.ref 190)] [] M 0 0 = yI (pV (pR L T n p r K)) M' ∧ PRr M (pR L T n p r K) M' := by
  intro n
  induction n with
  | zero =>
    intro p r K M0 M hn hc hr hp
    have g : ¬ M 190 16 = 0 := by rw [RT_g hc]; intro y; cases y
    have h15 := hc.2.2.2.2.2.2.2.1
    have h14 := hc.2.2.2.2.1
    have h1 := hc.1
    have h2 := hc.2.1
    refine ⟨M, yL.I e169_40 ?_, hr, hc.2.2.2.2.2.2.1, fun _ _ _ => rfl, fun _ _ _ _ => rfl⟩
    rw [if_neg g, h15, h14, if_neg (by rw [ofN_lt (by omega) (by omega)]; omega), if_neg g]
    rfl
  | succ n ih =>
    intro p r K M0 M hn hc hr hp
    have g : ¬ M 190 16 = 0 := by rw [RT_g hc]; intro y; cases y
    have h15 := hc.2.2.2.2.2.2.2.1
    have h14 := hc.2.2.2.2.1
    have h1 := hc.1
    have h2 := hc.2.1
    have e := e169_40 (M := M)
    rw [if_neg g, h15, h14] at e
    by_cases q : p < L
    · rw [if_pos (by rw [ofN_lt (by omega) (by omega)]; exact q)] at e
      have r0 : M0 193 = r := (hc.2.2.1 193 (by omega)).symm.trans hr
      obtain ⟨M4, a1, a2, a3⟩ := n168 (L := L) (T := T) (K := K) (M0 := M0) (by rw [r0]; exact hp.1) M p hc
      dsimp only at a1
      rw [r0] at a2 a3
      rw [a1, yCv_V] at e
      rcases hg : gT L T (r 13) p with ⟨p', o⟩
      cases o with
      | none =>
        have b1 := a2 p' hg
        have g4 : M4 190 16 = 0 := by rw [RT_g b1]
        rw [pR_bad q hg]
        refine ⟨M4, yL.I e (yL.I e169_40 ?_), ?_, b1.2.2.2.2.2.2.1, fun a c1 c2 => ?_, fun j j1 j2 j3 => ?_⟩
        · rw [if_pos g4, if_pos g4, b1.2.2.2.2.2.2.2.1]
          rfl
        · rw [b1.2.2.1 193 (by omega)]; exact r0
        · rw [b1.2.2.1 a c1, hc.2.2.1 a c1]
        · rw [b1.2.2.2.2.2.1 j j1 j2 j3, hc.2.2.2.2.2.1 j j1 j2 j3]
      | some t =>
        have b1 := a3 p' t hg
        unfold QR at b1
        rw [r0] at b1
        have lt := gT_lt hg
        have pk := pS_ok hp (gT_d (L := L) (T := T) (sv := r 13) (p := p) (t := t) (by rw [hg]))
        have r4 : M4 193 = pS r t := by rw [b1.2.2.1 193 (by omega), yUa_at]
        obtain ⟨M9, f1, f2, f3, f4, f5⟩ := ih p' (pS r t) (pK r K t) _ M4 (by omega) b1 r4 pk
        rw [pR_go q hg]
        refine ⟨M9, yL.I e f1, f2, f3, fun a c1 c2 => ?_, fun j j1 j2 j3 => ?_⟩
        · rw [f4 a c1 c2, b1.2.2.1 a c1, yUa_ne c2, hc.2.2.1 a c1]
        · rw [f5 j j1 j2 j3, b1.2.2.2.2.2.1 j j1 j2 j3, yUa_ne (by omega), hc.2.2.2.2.2.1 j j1 j2 j3]
    · rw [if_neg (by rw [ofN_lt (by omega) (by omega)]; exact q), if_neg g] at e
      rw [pR_end q]
      exact ⟨M, yL.I e rfl, hr, hc.2.2.2.2.2.2.1, fun _ _ _ => rfl, fun _ _ _ _ => rfl⟩
theorem c169 (hT : TxR M L T) (hL : L ≤ 120) : ∃ M', yX 169 0 [some (.ref 190)] [] M 0 0 = yI (pV (pAll L T (M 193))) M' ∧ PRr M (pAll L T (M 193)) M' := by
  have e := e169 (M := M)
  rw [yLet_eq, yLet_eq, yLet_eq] at e
  obtain ⟨M3, hM3⟩ : ∃ M3, M3 = yU (yU (yU M 190 15 0) 190 16 1) 190 17 0 := ⟨_, rfl⟩
  rw [← hM3, c112 yR193, yCv_V] at e
  have mo : ∀ a, a ≠ 190 → M3 a = M a := fun a ha => by rw [hM3, yU_ne ha, yU_ne ha, yU_ne ha]
  have m190 : ∀ j, M3 190 j = if j = 17 then 0 else if j = 16 then 1 else if j = 15 then 0 else M 190 j := fun j => by
    rw [hM3, yU_at, upd_eq, yU_at, upd_eq, yU_at, upd_eq]
  rw [mo 193 (by omega)] at e
  obtain ⟨M4, hM4⟩ : ∃ M4, M4 = yUa M3 193 (frs (M 193)) := ⟨_, rfl⟩
  rw [← hM4] at e
  have no : ∀ a, a ≠ 193 → M4 a = M3 a := fun a ha => by rw [hM4, yUa_ne ha]
  have n193 : M4 193 = frs (M 193) := by rw [hM4, yUa_at]
  have c0 : RT M4 L T 0 M4 0 false := by
    refine ⟨Nat.zero_le _, hL, fun _ _ => rfl, fun j hj => ?_, ?_, fun _ _ _ _ => rfl, ?_, ?_, ?_⟩
    · rw [no 201 (by omega), mo 201 (by omega)]; exact hT.2 j hj
    · rw [no 190 (by omega), m190]; exact hT.1
    · rw [no 190 (by omega), m190]; rfl
    · rw [no 190 (by omega), m190]; rfl
    · rw [no 190 (by omega), m190]; rfl
  have fo : ∀ a, a ≠ 190 → a ≠ 193 → M4 a = M a := fun a b1 b2 => by rw [no a b2, mo a b1]
  have f190 : ∀ j, j ≠ 15 → j ≠ 16 → j ≠ 17 → M4 190 j = M 190 j := fun j j1 j2 j3 => by rw [no 190 (by omega), m190, if_neg j3, if_neg j2, if_neg j1]
  rw [c157 c0, yCi_I] at e
  unfold pAll
  by_cases q : 0 < L ∧ T 0 = 67
  · have z : hre L T 0 = 67 := (if_pos q.1).trans q.2
    obtain ⟨M5, a1, a2⟩ := c158_1 c0 q.1
    rw [if_pos z, a1, yCv_V] at e
    rw [if_pos q]
    obtain ⟨M9, f1, f2, f3, f4, f5⟩ := c169_l 120 (0 + 1) (frs (M 193)) 0 M4 M5 (by omega) a2 (by rw [a2.2.2.1 193 (by omega)]; exact n193) (frs_ok _)
    exact ⟨M9, yL.I e f1, f2, f3, fun a g1 g2 => by rw [f4 a g1 g2, a2.2.2.1 a g1, fo a g1 g2], fun j j1 j2 j3 => by rw [f5 j j1 j2 j3, a2.2.2.2.2.2.1 j j1 j2 j3, f190 j j1 j2 j3]⟩
  · have z : ¬ hre L T 0 = 67 := by
      intro z
      by_cases q1 : 0 < L
      · have eh : hre L T 0 = T 0 := if_pos q1
        exact q ⟨q1, eh.symm.trans z⟩
      · have eh : hre L T 0 = -1 := if_neg q1
        rw [eh] at z
        exact absurd z (by decide)
    obtain ⟨M5, a1, a2⟩ := c158_0 c0
    have g5 : M5 190 16 = 0 := by rw [RT_g a2]
    rw [if_neg z, a1, yCv_V] at e
    rw [if_neg q]
    refine ⟨M5, yL.I e (yL.I e169_40 ?_), ?_, a2.2.2.2.2.2.2.1, fun a g1 g2 => by rw [a2.2.2.1 a g1, fo a g1 g2], fun j j1 j2 j3 => by rw [a2.2.2.2.2.2.1 j j1 j2 j3, f190 j j1 j2 j3]⟩
    · rw [if_pos g5, if_pos g5, a2.2.2.2.2.2.2.2.1]
      rfl
    · rw [a2.2.2.1 193 (by omega)]; exact n193
/-- what a reading leaves -/
theorem RelR_rd (h : RelR M A) {R : yPr} {M' : yM} (hp : PRr M R M') : RelR M' A := RelR_fr h (fun a b1 b2 b3 b4 => hp.2.2.1 a b1 b3) (hp.2.2.2 5 (by omega) (by omega) (by omega)) (hp.2.2.2 14 (by omega) (by omega) (by omega))
theorem c170 (h : RelR M A) (hA : Aok A) {cd : Nat → Int32} : RR (yX 170 0 [some (.ref 190)] [] M 0 0) M cd (oErr A (M 193)) A := by
  have hL := hA.2.2.2.2.2.1
  have h0 := RelR_0 h 0
  obtain ⟨M2, a1, a2⟩ := c169 h0.2.2.2 hL
  have e193 : (yU M 190 0 0) 193 = M 193 := yU_ne (by omega)
  rw [e193] at a1 a2
  refine RR.of ?_ e170
  rw [yLet_eq, a1, yCi_I]
  refine ⟨_, M2, rfl, ?_, fun v z => Sum.inr.inj z, RelR_rd h0 a2, fun a ha => by rw [a2.2.2.1 a (by omega) (by omega), yU_ne (by omega)]⟩
  rw [a2.2.2.2 0 (by omega) (by omega) (by omega), yU_at, upd_eq, if_pos rfl]
  rfl
theorem c171 (h : RelR M A) (hA : Aok A) : RR (yX 171 0 [some (.ref 190)] [] M 0 0) M cdU (oLd A (M 193)) (nLd A (M 193)) := by
  have hL := hA.2.2.2.2.2.1
  obtain ⟨M2, a1, a2⟩ := c169 h.2.2.2 hL
  have hv := pV_m1 (R := pAll A.2.2.2.1 A.2.2.2.2 (M 193)) (Nat.lt_of_le_of_lt (pAll_le _) (by omega))
  have hr2 := RelR_rd h a2
  refine RR.of ?_ e171
  unfold oLd nLd
  rw [a1, yCi_I]
  simp only [hv]
  by_cases q : (pAll A.2.2.2.1 A.2.2.2.2 (M 193)).1.2 = true
  · rw [if_neg (not_not_intro q), if_pos q, if_pos q, c107_1, yCi_I, if_neg (by decide)]
    refine ⟨_, _, rfl, ?_, (fun v z => by cases z), RelR_0 hr2 1, fun a ha => by rw [yU_ne (by omega), a2.2.2.1 a (by omega) (by omega)]⟩
    rw [yU_at, upd_eq, if_pos rfl]
    rfl
  · have ok := (pAll_ok (L := A.2.2.2.1) (T := A.2.2.2.2) (M 193)).1
    have e196 : yinB 0 2 = true ∧ yinB 1 2 = true ∧ yx 0 = 0 ∧ yx 1 = 1 := by decide +kernel
    rw [if_pos q, if_neg q, if_neg q, c107_0, yCi_I, if_pos rfl, c113 yR193 yR191 (by omega), yCv_V, yLet_eq, if_pos e196.1, yLet_eq, if_pos e196.2.1, yLet_eq, fls0, e196.2.2.1, e196.2.2.2]
    have f193 : (yU M2 190 0 0) 193 = (pAll A.2.2.2.1 A.2.2.2.2 (M 193)).2.1 := by rw [yU_ne (by omega)]; exact a2.1
    have f191 : (yU M2 190 0 0) 191 = A.1 := by rw [yU_ne (by omega)]; exact hr2.1
    rw [f193, f191]
    obtain ⟨M9, hM9⟩ : ∃ M9, M9 = yU (yU (yU (yUa (yU M2 190 0 0) 191 (ycp (pAll A.2.2.2.1 A.2.2.2.2 (M 193)).2.1 A.1 95)) 190 5 0) 196 0 0) 196 1 0 := ⟨_, rfl⟩
    rw [← hM9]
    have n190 : ∀ j, M9 190 j = if j = 5 then 0 else if j = 0 then 0 else M2 190 j := fun j => by
      rw [hM9, yU_ne (by omega), yU_ne (by omega), yU_at, upd_eq, yUa_ne (by omega), yU_at, upd_eq]
    have no : ∀ a, a ≠ 190 → a ≠ 191 → a ≠ 196 → M9 a = M2 a := fun a b1 b2 b3 => by
      rw [hM9, yU_ne b3, yU_ne b3, yU_ne b1, yUa_ne b2, yU_ne b1]
    have n191 : M9 191 = ycp (pAll A.2.2.2.1 A.2.2.2.2 (M 193)).2.1 A.1 95 := by
      rw [hM9, yU_ne (by omega), yU_ne (by omega), yU_ne (by omega), yUa_at]
    refine ⟨_, M9, rfl, ?_, fun v z => ?_, ⟨?_, ⟨?_, fun u hu => absurd hu (Nat.not_lt_zero u)⟩, fun s hs0 => ⟨?_, fun z => ?_⟩, ?_, fun j hj => ?_⟩, fun a ha => ?_⟩
    · rw [n190, if_neg (by omega), if_pos rfl]
      rfl
    · rw [n190, if_neg (by omega), if_neg (by omega), a2.2.1]
      exact Sum.inr.inj z
    · rw [n191, ycp_rj]
    · rw [n190, if_pos rfl]
      rfl
    · show M9 196 s = 0
      rw [hM9, yU_at, upd_eq, yU_at, upd_eq]
      by_cases e1 : s = 1
      · rw [if_pos e1]
      · rw [if_neg e1, if_pos (by omega)]
    · have z : false = true := z
      cases z
    · rw [n190, if_neg (by omega), if_neg (by omega)]
      exact hr2.2.2.2.1
    · rw [no 201 (by omega) (by omega) (by omega)]
      exact hr2.2.2.2.2 j hj
    · rw [no a (by omega) (by omega) (by omega), a2.2.2.1 a (by omega) (by omega)]
end LDR
