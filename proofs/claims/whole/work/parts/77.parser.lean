/-! the reference's readers -/
def RT (M0 : yM) (L : Nat) (T : Nat → Int32) (K : Int32) (M : yM) (p : Nat) (b : Bool) : Prop := p ≤ L ∧ L ≤ 120 ∧ (∀ a, a ≠ 190 → M a = M0 a) ∧ (∀ j, j < L → M0 201 j = T j) ∧ M 190 14 = Int32.ofNat L ∧ (∀ j, j ≠ 15 → j ≠ 16 → j ≠ 17 → M 190 j = M0 190 j) ∧ M 190 17 = K ∧ M 190 15 = Int32.ofNat p ∧ M 190 16 = (if b = true then 0 else 1)
def hre (L : Nat) (T : Nat → Int32) (p : Nat) : Int32 := if p < L then T p else -1
def Ve (lo hi v : Int32) : Prop := v = lo ∨ bet v lo hi
section RTS
variable {M0 : yM} {L : Nat} {T : Nat → Int32} {K : Int32} {M : yM} {p : Nat} {b : Bool}
theorem RT_put (h : RT M0 L T K M p b) {p' : Nat} {b' : Bool} {x y : Int32} (hp : p' ≤ L) (hx : x = if b' = true then 0 else 1) (hy : y = Int32.ofNat p') : RT M0 L T K (yU (yU M 190 16 x) 190 15 y) p' b' := by
  obtain ⟨h1, h2, h3, h4, h5, h6, h7, h8, h9⟩ := h
  refine ⟨hp, h2, fun a ha => by rw [yU_ne ha, yU_ne ha]; exact h3 a ha, h4, ?_, fun j j1 j2 j3 => ?_, ?_, ?_, ?_⟩
  · rw [yU_at, upd_eq, if_neg (by omega), yU_at, upd_eq, if_neg (by omega)]; exact h5
  · rw [yU_at, upd_eq, if_neg j1, yU_at, upd_eq, if_neg j2]; exact h6 j j1 j2 j3
  · rw [yU_at, upd_eq, if_neg (by omega), yU_at, upd_eq, if_neg (by omega)]; exact h7
  · rw [yU_at, upd_eq, if_pos rfl]; exact hy
  · rw [yU_at, upd_eq, if_neg (by omega), yU_at, upd_eq, if_pos rfl]; exact hx
theorem RT_17 (h : RT M0 L T K M p b) {x : Int32} : RT M0 L T x (yU M 190 17 x) p b := by
  obtain ⟨h1, h2, h3, h4, h5, h6, h7, h8, h9⟩ := h
  refine ⟨h1, h2, fun a ha => by rw [yU_ne ha]; exact h3 a ha, h4, ?_, fun j j1 j2 j3 => ?_, ?_, ?_, ?_⟩
  · rw [yU_at, upd_eq, if_neg (by omega)]; exact h5
  · rw [yU_at, upd_eq, if_neg j3]; exact h6 j j1 j2 j3
  · rw [yU_at, upd_eq, if_pos rfl]
  · rw [yU_at, upd_eq, if_neg (by omega)]; exact h8
  · rw [yU_at, upd_eq, if_neg (by omega)]; exact h9
theorem RT_15 (h : RT M0 L T K M p false) (hp : p < L) : RT M0 L T K (yU M 190 15 (M 190 15 + 1)) (p + 1) false := by
  obtain ⟨h1, h2, h3, h4, h5, h6, h7, h8, h9⟩ := h
  refine ⟨hp, h2, fun a ha => by rw [yU_ne ha]; exact h3 a ha, h4, ?_, fun j j1 j2 j3 => ?_, ?_, ?_, ?_⟩
  · rw [yU_at, upd_eq, if_neg (by omega)]; exact h5
  · rw [yU_at, upd_eq, if_neg j1]; exact h6 j j1 j2 j3
  · rw [yU_at, upd_eq, if_neg (by omega)]; exact h7
  · rw [yU_at, upd_eq, if_pos rfl, h8, ofN_succ]
  · rw [yU_at, upd_eq, if_neg (by omega)]; exact h9
theorem RT_row (h : RT M0 L T K M p b) (f : yRow) : RT (yUa M0 193 f) L T K (yUa M 193 f) p b := by
  obtain ⟨h1, h2, h3, h4, h5, h6, h7, h8, h9⟩ := h
  refine ⟨h1, h2, fun a ha => ?_, fun j hj => ?_, ?_, fun j j1 j2 j3 => ?_, ?_, ?_, ?_⟩
  · by_cases e : a = 193
    · rw [e, yUa_at, yUa_at]
    · rw [yUa_ne e, yUa_ne e]; exact h3 a ha
  · rw [yUa_ne (by omega)]; exact h4 j hj
  · rw [yUa_ne (by omega)]; exact h5
  · rw [yUa_ne (by omega), yUa_ne (by omega)]; exact h6 j j1 j2 j3
  · rw [yUa_ne (by omega)]; exact h7
  · rw [yUa_ne (by omega)]; exact h8
  · rw [yUa_ne (by omega)]; exact h9
theorem RT_g (h : RT M0 L T K M p b) : (M 190 16 = 0) = (b = true) := by
  rw [h.2.2.2.2.2.2.2.2]
  cases b with
  | true => exact propext ⟨fun _ => rfl, fun _ => rfl⟩
  | false => exact propext ⟨fun z => absurd (show (1 : Int32) = 0 from z) (by decide), fun z => by cases z⟩
theorem c157 (h : RT M0 L T K M p b) : yX 157 0 [some (.ref 190)] [] M 0 0 = yI (hre L T p) M := by
  obtain ⟨h1, h2, h3, h4, h5, h6, h7, h8, h9⟩ := h
  refine yL.I e157 ?_
  rw [h8, h5]
  unfold hre
  by_cases q : p < L
  · rw [if_pos (by rw [ofN_lt (by omega) (by omega)]; exact q), if_pos (yin_ofN (by omega) (by omega)), yx_ofN (by omega), if_pos q, h3 201 (by omega), h4 p q]
  · rw [if_neg (by rw [ofN_lt (by omega) (by omega)]; exact q), if_neg q]
theorem c158_b (h : RT M0 L T K M p true) (a : Int32) : ∃ M', yX 158 0 [some (.ref 190), some (.int a)] [] M 0 0 = yV M' ∧ RT M0 L T K M' p true := by
  have g := h.2.2.2.2.2.2.2.2
  have h8 := h.2.2.2.2.2.2.2.1
  have g : M 190 16 = 0 := g
  refine ⟨_, yL.V e158 ?_, RT_put h (p' := p) (b' := true) (x := 0) (y := M 190 15 + 0) h.1 rfl (by rw [h8]; grind)⟩
  have e1 : (yU M 190 16 0) 190 16 = 0 := by rw [yU_at, upd_eq, if_pos rfl]
  have e2 : (yU M 190 16 0) 190 15 = M 190 15 := by rw [yU_at, upd_eq, if_neg (by omega)]
  rw [if_pos g, yLet_eq, if_pos e1, yLet_eq, e2]
theorem c158_0 (h : RT M0 L T K M p b) : ∃ M', yX 158 0 [some (.ref 190), some (.int 0)] [] M 0 0 = yV M' ∧ RT M0 L T K M' p true := by
  cases b with
  | true => exact c158_b h 0
  | false =>
    have h8 := h.2.2.2.2.2.2.2.1
    have g : ¬ M 190 16 = 0 := by rw [RT_g h]; intro z; cases z
    refine ⟨_, yL.V e158 ?_, RT_put h (p' := p) (b' := true) (x := 0) (y := M 190 15 + 0) h.1 rfl (by rw [h8]; grind)⟩
    have e1 : (yU M 190 16 0) 190 16 = 0 := by rw [yU_at, upd_eq, if_pos rfl]
    have e2 : (yU M 190 16 0) 190 15 = M 190 15 := by rw [yU_at, upd_eq, if_neg (by omega)]
    rw [if_neg g, if_pos rfl, yLet_eq, if_pos e1, yLet_eq, e2]
theorem c158_1 (h : RT M0 L T K M p false) (hp : p < L) : ∃ M', yX 158 0 [some (.ref 190), some (.int 1)] [] M 0 0 = yV M' ∧ RT M0 L T K M' (p + 1) false := by
  have h8 := h.2.2.2.2.2.2.2.1
  have g : ¬ M 190 16 = 0 := by rw [RT_g h]; intro z; cases z
  refine ⟨_, yL.V e158 ?_, RT_put h (p' := p + 1) (b' := false) (x := 1) (y := M 190 15 + 1) hp rfl (by rw [h8, ofN_succ])⟩
  have e1 : ¬ (yU M 190 16 1) 190 16 = 0 := by rw [yU_at, upd_eq, if_pos rfl]; decide
  have e2 : (yU M 190 16 1) 190 15 = M 190 15 := by rw [yU_at, upd_eq, if_neg (by omega)]
  rw [if_neg g, if_neg (by decide), yLet_eq, if_neg e1, yLet_eq, e2]
theorem c161_b (h : RT M0 L T K M p true) (a : Int32) : ∃ M', yX 161 0 [some (.ref 190), some (.int a)] [] M 0 0 = yI 0 M' ∧ RT M0 L T K M' p true := by
  have g : M 190 16 = 0 := h.2.2.2.2.2.2.2.2
  have h7 := h.2.2.2.2.2.2.1
  have z := RT_17 h (x := M 190 17 + 0)
  rw [show M 190 17 + 0 = K by rw [h7]; grind] at z
  refine ⟨_, yL.I e161 ?_, z⟩
  have e1 : (yU M 190 17 K) 190 16 = 0 := by rw [yU_at, upd_eq, if_neg (by omega)]; exact g
  rw [if_pos g, show M 190 17 + 0 = K by rw [h7]; grind, yLet_eq, if_pos e1]
theorem c161_0 (h : RT M0 L T K M p false) : ∃ M', yX 161 0 [some (.ref 190), some (.int 0)] [] M 0 0 = yI 0 M' ∧ RT M0 L T (K + 1) M' p false := by
  have g : ¬ M 190 16 = 0 := by rw [RT_g h]; intro z; cases z
  have h7 := h.2.2.2.2.2.2.1
  have z := RT_17 h (x := K + 1)
  refine ⟨_, yL.I e161 ?_, z⟩
  have e1 : ¬ (yU M 190 17 (K + 1)) 190 16 = 0 := by rw [yU_at, upd_eq, if_neg (by omega)]; exact g
  rw [if_neg g, if_pos rfl, h7, yLet_eq, if_neg e1, if_pos rfl]
theorem c161_1 (h : RT M0 L T K M p false) : ∃ M', yX 161 0 [some (.ref 190), some (.int 1)] [] M 0 0 = yI 1 M' ∧ RT M0 L T K M' p false := by
  have g : ¬ M 190 16 = 0 := by rw [RT_g h]; intro z; cases z
  have h7 := h.2.2.2.2.2.2.1
  have z := RT_17 h (x := K)
  refine ⟨_, yL.I e161 ?_, z⟩
  have e1 : ¬ (yU M 190 17 K) 190 16 = 0 := by rw [yU_at, upd_eq, if_neg (by omega)]; exact g
  rw [if_neg g, if_neg (by decide), show M 190 17 + 0 = K by rw [h7]; grind, yLet_eq, if_neg e1, if_neg (by decide)]
theorem c159 (h : RT M0 L T K M p b) {lo hi : Int32} (hlo : 0 ≤ lo) : ∃ v M', yX 159 0 [some (.ref 190), some (.int lo), some (.int hi), none] [] M 0 0 = yI v M' ∧ Ve lo hi v ∧ (b = true → v = lo ∧ RT M0 L T K M' p true) ∧ (b = false → RT M0 L T K M' (gD L T lo hi p).1 (gD L T lo hi p).2.isNone ∧ ∀ w, (gD L T lo hi p).2 = some w → v = w) := by
  have e := e159 (a1 := lo) (a2 := hi) (M := M)
  rw [c157 h, yCi_I, r108 (v := hre L T p - 48) (l := lo) (m := hi) rfl rfl, yCi_I] at e
  by_cases q : p < L ∧ bet (T p - 48) lo hi
  · have eh : hre L T p = T p := if_pos q.1
    rw [eh, yb_pos q.2] at e
    cases b with
    | true =>
      obtain ⟨M', a1, a2⟩ := c158_b h 1
      rw [a1, yCv_V, if_pos (by rw [RT_g a2])] at e
      exact ⟨lo, M', yL.I e rfl, Or.inl rfl, fun _ => ⟨rfl, a2⟩, fun z => by cases z⟩
    | false =>
      obtain ⟨M', a1, a2⟩ := c158_1 h q.1
      rw [a1, yCv_V, if_neg (by rw [RT_g a2]; intro z; cases z)] at e
      refine ⟨T p - 48, M', yL.I e rfl, Or.inr q.2, (fun z => by cases z), fun _ => ?_⟩
      unfold gD
      rw [if_pos q]
      exact ⟨a2, fun w z => Option.some.inj z⟩
  · have nq : ¬ bet (hre L T p - 48) lo hi := by
      intro z
      by_cases q1 : p < L
      · have eh : hre L T p = T p := if_pos q1
        rw [eh] at z
        exact q ⟨q1, z⟩
      · have eh : hre L T p = -1 := if_neg q1
        rw [eh] at z
        have z1 := z.1
        have z2 : (-1 : Int32) - 48 < 0 := by decide
        grind
    rw [yb_neg nq] at e
    obtain ⟨M', a1, a2⟩ := c158_0 h
    rw [a1, yCv_V, if_pos (by rw [RT_g a2])] at e
    refine ⟨lo, M', yL.I e rfl, Or.inl rfl, fun _ => ⟨rfl, a2⟩, fun _ => ?_⟩
    unfold gD
    rw [if_neg q]
    exact ⟨a2, fun w z => by cases z⟩
theorem RB159 {lo hi : Int32} (hlo : 0 ≤ lo) : RB (RT M0 L T K) (Ve lo hi) (fun M => yX 159 0 [some (.ref 190), some (.int lo), some (.int hi), none] [] M 0 0) := by
  intro M p hp
  obtain ⟨v, M', a1, a2, a3, a4⟩ := c159 hp hlo
  exact ⟨v, M', a1, a2, (a3 rfl).2⟩
theorem RG159 {lo hi : Int32} (hlo : 0 ≤ lo) : RG (RT M0 L T K) (Ve lo hi) (fun M => yX 159 0 [some (.ref 190), some (.int lo), some (.int hi), none] [] M 0 0) (gD L T lo hi) := by
  intro M p hp
  obtain ⟨v, M', a1, a2, a3, a4⟩ := c159 hp hlo
  exact ⟨v, M', a1, a2, a4 rfl⟩
theorem RB159t {lo hi : Int32} (hlo : 0 ≤ lo) : RB (RT M0 L T K) Vt (fun M => yX 159 0 [some (.ref 190), some (.int lo), some (.int hi), none] [] M 0 0) := RB.mono (RB159 hlo) (fun _ _ => trivial)
theorem RG159t {lo hi : Int32} (hlo : 0 ≤ lo) : RG (RT M0 L T K) Vt (fun M => yX 159 0 [some (.ref 190), some (.int lo), some (.int hi), none] [] M 0 0) (gD L T lo hi) := RG.mono (RG159 hlo) (fun _ _ => trivial)
theorem n160 {lo hi a b c d : Int32} (e1 : lo / 10 = a) (e2 : hi / 10 = b) (e3 : lo % 10 = c) (e4 : hi % 10 = d) (ha : 0 ≤ a) (hc : 0 ≤ c) : RB (RT M0 L T K) Vt (fun M => yX 160 0 [some (.ref 190), some (.int lo), some (.int hi), none] [] M 0 0) ∧ RG (RT M0 L T K) Vt (fun M => yX 160 0 [some (.ref 190), some (.int lo), some (.int hi), none] [] M 0 0) (gN L T lo hi) :=
  ⟨RB.of (RBnum (D := fun x y M => yX 159 0 [some (.ref 190), some (.int x), some (.int y), none] [] M 0 0) (RB159t ha) (RB159t hc) (RB159t hc) (RB159t (by decide)) (RB159t (by decide)) e1 e2 e3 e4) (fun M => e160), RG.of (RGnum (D := fun x y M => yX 159 0 [some (.ref 190), some (.int x), some (.int y), none] [] M 0 0) (RG159t ha) (RG159t hc) (RG159t hc) (RG159t (by decide)) (RG159t (by decide)) (RB159t hc) (RB159t hc) (RB159t (by decide)) (RB159t (by decide)) e1 e2 e3 e4) (fun M => e160)⟩
theorem m99 : RB (RT M0 L T K) Vt (fun M => yX 160 0 [some (.ref 190), some (.int 0), some (.int 99), none] [] M 0 0) ∧ RG (RT M0 L T K) Vt (fun M => yX 160 0 [some (.ref 190), some (.int 0), some (.int 99), none] [] M 0 0) (gN L T 0 99) := n160 (a := 0) (b := 9) (c := 0) (d := 9) (by decide) (by decide) (by decide) (by decide) (by decide) (by decide)
theorem m90 : RB (RT M0 L T K) Vt (fun M => yX 160 0 [some (.ref 190), some (.int 1), some (.int 90), none] [] M 0 0) ∧ RG (RT M0 L T K) Vt (fun M => yX 160 0 [some (.ref 190), some (.int 1), some (.int 90), none] [] M 0 0) (gN L T 1 90) := n160 (a := 0) (b := 9) (c := 1) (d := 0) (by decide) (by decide) (by decide) (by decide) (by decide) (by decide)
theorem m13 : RB (RT M0 L T K) Vt (fun M => yX 160 0 [some (.ref 190), some (.int 0), some (.int 13), none] [] M 0 0) ∧ RG (RT M0 L T K) Vt (fun M => yX 160 0 [some (.ref 190), some (.int 0), some (.int 13), none] [] M 0 0) (gN L T 0 13) := n160 (a := 0) (b := 1) (c := 0) (d := 3) (by decide) (by decide) (by decide) (by decide) (by decide) (by decide)
theorem m11 : RB (RT M0 L T K) Vt (fun M => yX 160 0 [some (.ref 190), some (.int 0), some (.int 11), none] [] M 0 0) ∧ RG (RT M0 L T K) Vt (fun M => yX 160 0 [some (.ref 190), some (.int 0), some (.int 11), none] [] M 0 0) (gN L T 0 11) := n160 (a := 0) (b := 1) (c := 0) (d := 1) (by decide) (by decide) (by decide) (by decide) (by decide) (by decide)
theorem m24 : RB (RT M0 L T K) Vt (fun M => yX 160 0 [some (.ref 190), some (.int 1), some (.int 24), none] [] M 0 0) ∧ RG (RT M0 L T K) Vt (fun M => yX 160 0 [some (.ref 190), some (.int 1), some (.int 24), none] [] M 0 0) (gN L T 1 24) := n160 (a := 0) (b := 2) (c := 1) (d := 4) (by decide) (by decide) (by decide) (by decide) (by decide) (by decide)
end RTS
/-- a command told and done: the row is at 193 -/
def QR (M0 : yM) (L : Nat) (T : Nat → Int32) (K : Int32) (M : yM) (q : Nat) (t : y4) : Prop := RT (yUa M0 193 (pS (M0 193) t)) L T (pK (M0 193) K t) M q false
section QRS
variable {M0 : yM} {L : Nat} {T : Nat → Int32} {K : Int32} {M : yM} {p q : Nat} {t : y4}
theorem QR_n (h : RT M0 L T (K + 1) M q false) (hf : ¬ flt (M0 193) t.1 t.2.1 t.2.2.1 t.2.2.2 = 0) : QR M0 L T K M q t := by
  unfold QR pS pK
  rw [if_neg hf, if_neg hf, yUa_self]
  exact h
theorem QR_y (h : RT M0 L T K M q false) (hf : flt (M0 193) t.1 t.2.1 t.2.2.1 t.2.2.2 = 0) : QR M0 L T K (yUa M 193 (prfR (M0 193) t.1 t.2.1 t.2.2.1 t.2.2.2)) q t := by
  unfold QR pS pK
  rw [if_pos hf, if_pos hf]
  exact RT_row h _
/-- a reading that ends here: fault or not, as it goes on -/
theorem TG.here {X : yM → Option yRes} (h : ∀ M p, RT M0 L T K M p false → ∃ M', X M = yV M' ∧ QR M0 L T K M' p t) : TG (RT M0 L T K) (QR M0 L T K) X (gP t) := by
  intro M p hp
  obtain ⟨M', a1, a2⟩ := h M p hp
  refine ⟨M', a1, fun q z => ?_, fun q t' z => ?_⟩
  · have z : (p, some t) = (q, none) := z
    cases z
  · have z : (p, some t) = (q, some t') := z
    cases z
    exact a2
end QRS
