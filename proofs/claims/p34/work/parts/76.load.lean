/-! a whole text: what is told by it, and the class's reading -/
def pS (r : yRow) (t : y4) : yRow := if flt r t.1 t.2.1 t.2.2.1 t.2.2.2 = 0 then prfR r t.1 t.2.1 t.2.2.1 t.2.2.2 else r
def pK (r : yRow) (K : Int32) (t : y4) : Int32 := if flt r t.1 t.2.1 t.2.2.1 t.2.2.2 = 0 then K else K + 1
abbrev yPr : Type := (Nat × Bool) × (yRow × Int32)
def pR (L : Nat) (T : Nat → Int32) : Nat → Nat → yRow → Int32 → yPr
  | 0, p, r, K => ((p, false), (r, K))
  | n + 1, p, r, K => if p < L then match gT L T (r 13) p with
    | (q, none) => ((q, true), (r, K))
    | (q, some t) => pR L T n q (pS r t) (pK r K t)
    else ((p, false), (r, K))
def pAll (L : Nat) (T : Nat → Int32) (g : yRow) : yPr := if 0 < L ∧ T 0 = 67 then pR L T 120 1 (frs g) 0 else ((0, true), (frs g, 0))
section PAR
variable {L : Nat} {T : Nat → Int32}
theorem pR_end {n p : Nat} {r : yRow} {K : Int32} (h : ¬ p < L) : pR L T n p r K = ((p, false), (r, K)) := by
  cases n with
  | zero => rfl
  | succ n => exact if_neg h
theorem pR_bad {n p q : Nat} {r : yRow} {K : Int32} (h : p < L) (hg : gT L T (r 13) p = (q, none)) : pR L T (n + 1) p r K = ((q, true), (r, K)) := by
  show (if p < L then _ else _) = _
  rw [if_pos h, hg]
theorem pR_go {n p q : Nat} {r : yRow} {K : Int32} {t : y4} (h : p < L) (hg : gT L T (r 13) p = (q, some t)) : pR L T (n + 1) p r K = pR L T n q (pS r t) (pK r K t) := by
  conv => lhs; unfold pR
  rw [if_pos h, hg]
-- the last number of a command is a bit
def gO {α : Type} (Q : α → Prop) (G : Nat → Nat × Option α) : Prop := ∀ p v, (G p).2 = some v → Q v
theorem gO.bind {α : Type} {Q : α → Prop} {g : rA} {H : Int32 → Nat → Nat × Option α} (W : Int32 → Prop) (h1 : ∀ p v, (g p).2 = some v → W v) (h2 : ∀ v, W v → gO Q (H v)) : gO Q (gB g H) := fun p v h => by
  obtain ⟨q, w, z1, z2⟩ := gB_v h
  exact h2 w (h1 p w (by rw [z1])) q v z2
theorem gO.pure {α : Type} {Q : α → Prop} {v : α} (h : Q v) : gO Q (gP v) := fun p w z => gP_v z ▸ h
theorem gT_d {sv : Int32} {p : Nat} {t : y4} (h : (gT L T sv p).2 = some t) : bet t.2.2.2 0 1 := by
  have d0 : bet (0 : Int32) 0 1 := ⟨by decide, by decide⟩
  have d1 : bet (1 : Int32) 0 1 := ⟨by decide, by decide⟩
  have key : gO (fun t : y4 => bet t.2.2.2 0 1) (gT L T sv) := by
    refine gO.bind Vt (fun _ _ _ => trivial) (fun k _ => ?_)
    by_cases e0 : k = 0
    · rw [if_pos e0]; exact gO.bind Vt (fun _ _ _ => trivial) (fun _ _ => gO.pure d0)
    rw [if_neg e0]
    by_cases e1 : k = 1
    · rw [if_pos e1]; exact gO.bind Vt (fun _ _ _ => trivial) (fun _ _ => gO.bind Vt (fun _ _ _ => trivial) (fun _ _ => gO.bind (fun v => bet v 0 1) (fun p v z => gD_v z) (fun v hv => gO.pure hv)))
    rw [if_neg e1]
    by_cases e2 : k = 2
    · rw [if_pos e2]; exact gO.bind Vt (fun _ _ _ => trivial) (fun _ _ => gO.bind Vt (fun _ _ _ => trivial) (fun _ _ => gO.pure d1))
    rw [if_neg e2]
    by_cases e3 : k = 3
    · rw [if_pos e3]; exact gO.bind Vt (fun _ _ _ => trivial) (fun _ _ => gO.bind Vt (fun _ _ _ => trivial) (fun _ _ => gO.pure d1))
    rw [if_neg e3]
    by_cases e4 : k = 4
    · rw [if_pos e4]; exact gO.bind Vt (fun _ _ _ => trivial) (fun _ _ => gO.bind Vt (fun _ _ _ => trivial) (fun _ _ => gO.pure d0))
    rw [if_neg e4]
    by_cases e5 : k = 5
    · rw [if_pos e5]; exact gO.bind Vt (fun _ _ _ => trivial) (fun _ _ => gO.pure d0)
    rw [if_neg e5]; exact gO.bind Vt (fun _ _ _ => trivial) (fun _ _ => gO.pure d0)
  exact key p t h
-- each command takes a sign at least
def gM {α : Type} (G : Nat → Nat × Option α) : Prop := ∀ p, p ≤ (G p).1
theorem gM.bind {α : Type} {g : rA} {H : Int32 → Nat → Nat × Option α} (h1 : gM g) (h2 : ∀ v, gM (H v)) : gM (gB g H) := fun p => by
  have z := h1 p
  rcases hg : g p with ⟨q, o⟩
  rw [hg] at z
  cases o with
  | none => rw [gB_none hg]; exact z
  | some w => rw [gB_some hg]; exact Nat.le_trans z (h2 w q)
theorem gM.pure {α : Type} {v : α} : gM (gP v) := fun p => Nat.le_refl p
theorem gM_D {lo hi : Int32} : gM (gD L T lo hi) := fun p => by
  unfold gD
  split
  · exact Nat.le_succ p
  · exact Nat.le_refl p
theorem gM_C {c : Int32} : gM (gC L T c) := fun p => by
  unfold gC
  split
  · exact Nat.le_succ p
  · exact Nat.le_refl p
theorem gM_I {q n : Nat} : gM (gI L T q n) := fun p => by
  unfold gI
  split
  · exact Nat.le_succ p
  · exact Nat.le_refl p
theorem gM_ite {α : Type} {c : Prop} [Decidable c] {G H : Nat → Nat × Option α} (h1 : gM G) (h2 : gM H) : gM (if c then G else H) := by
  split
  · exact h1
  · exact h2
theorem gM_N {lo hi : Int32} : gM (gN L T lo hi) := gM.bind gM_D (fun v => gM_ite (gM_ite (gM.bind gM_D fun _ => gM.pure) (gM.bind gM_D fun _ => gM.pure)) (gM_ite (gM.bind gM_D fun _ => gM.pure) (gM.bind gM_D fun _ => gM.pure)))
theorem gM_U {a b d : Int32} : gM (gU L T a b d) := gM.bind gM_I fun _ => gM.pure
theorem gM_A : gM (gA L T) := gM.bind gM_N (fun a p => by
  split
  · exact Nat.le_trans (Nat.le_succ p) (gM.bind gM_D (fun b => gM.bind gM_C fun _ => gM.bind gM_D fun d => gM_U) (p + 1))
  · exact gM_U p)
theorem gT_lt {sv : Int32} {p q : Nat} {t : y4} (h : gT L T sv p = (q, some t)) : p < q := by
  have z : (gT L T sv p).2 = some t := by rw [h]
  obtain ⟨q1, k, z1, z2⟩ := gB_v z
  have e1 : q1 = p + 1 := by
    unfold gI at z1
    split at z1
    · cases z1; rfl
    · cases z1
  subst e1
  rw [gT_some z1] at h
  have m : gM (if k = 0 then gB (gA L T) fun a => gP ((0, a, 0, 0) : y4) else if k = 1 then gB (gN L T 1 90) fun m => gB (gD L T 0 4) fun h => gB (gD L T 0 1) fun d => gP (1, m, (if bet h 0 3 then h else -1), d) else if k = 2 then gB (gN L T 0 13) fun a => gB (gN L T 0 11) fun b => gP (2, a, b, 1) else if k = 3 then gB (gN L T 0 13) fun a => gB (gN L T 0 13) fun b => gP (3, a, b, 1) else if k = 4 then gB (gD L T 0 3) fun a => gB (gD L T 0 3) fun b => gP (4, a, b, 0) else if k = 5 then gB (gN L T 1 24) fun b => gP (5, sv, b, 0) else gB (gD L T 0 3) fun b => gP (6, 4, b, 0)) := gM_ite (gM.bind gM_A fun _ => gM.pure) (gM_ite (gM.bind gM_N fun _ => gM.bind gM_D fun _ => gM.bind gM_D fun _ => gM.pure) (gM_ite (gM.bind gM_N fun _ => gM.bind gM_N fun _ => gM.pure) (gM_ite (gM.bind gM_N fun _ => gM.bind gM_N fun _ => gM.pure) (gM_ite (gM.bind gM_D fun _ => gM.bind gM_D fun _ => gM.pure) (gM_ite (gM.bind gM_N fun _ => gM.pure) (gM.bind gM_D fun _ => gM.pure))))))
  have := m (p + 1)
  rw [h] at this
  exact this
-- no place behind the text
def gE {α : Type} (L : Nat) (G : Nat → Nat × Option α) : Prop := ∀ p, p ≤ L → (G p).1 ≤ L
theorem gE.bind {α : Type} {g : rA} {H : Int32 → Nat → Nat × Option α} (h1 : gE L g) (h2 : ∀ v, gE L (H v)) : gE L (gB g H) := fun p hp => by
  have z := h1 p hp
  rcases hg : g p with ⟨q, o⟩
  rw [hg] at z
  cases o with
  | none => rw [gB_none hg]; exact z
  | some w => rw [gB_some hg]; exact h2 w q z
theorem gE.pure {α : Type} {v : α} : gE L (gP v) := fun _ hp => hp
theorem gE_ite {α : Type} {c : Prop} [Decidable c] {G H : Nat → Nat × Option α} (h1 : gE L G) (h2 : gE L H) : gE L (if c then G else H) := by
  split
  · exact h1
  · exact h2
theorem gE_D {lo hi : Int32} : gE L (gD L T lo hi) := fun _ hp => gD_le hp
theorem gE_I {q n : Nat} : gE L (gI L T q n) := fun _ hp => gI_le hp
theorem gE_C {c : Int32} : gE L (gC L T c) := fun _ hp => gC_le hp
theorem gE_N {lo hi : Int32} : gE L (gN L T lo hi) := gE.bind gE_D (fun v => gE_ite (gE_ite (gE.bind gE_D fun _ => gE.pure) (gE.bind gE_D fun _ => gE.pure)) (gE_ite (gE.bind gE_D fun _ => gE.pure) (gE.bind gE_D fun _ => gE.pure)))
theorem gE_U {a b d : Int32} : gE L (gU L T a b d) := gE.bind gE_I fun _ => gE.pure
theorem gE_A : gE L (gA L T) := gE.bind gE_N (fun a p hp => by
  split
  · next q => exact gE.bind gE_D (fun b => gE.bind gE_C fun _ => gE.bind gE_D fun d => gE_U) (p + 1) q.1
  · exact gE_U p hp)
theorem gE_T {sv : Int32} : gE L (gT L T sv) := gE.bind gE_I (fun k => gE_ite (gE.bind gE_A fun _ => gE.pure) (gE_ite (gE.bind gE_N fun _ => gE.bind gE_D fun _ => gE.bind gE_D fun _ => gE.pure) (gE_ite (gE.bind gE_N fun _ => gE.bind gE_N fun _ => gE.pure) (gE_ite (gE.bind gE_N fun _ => gE.bind gE_N fun _ => gE.pure) (gE_ite (gE.bind gE_D fun _ => gE.bind gE_D fun _ => gE.pure) (gE_ite (gE.bind gE_N fun _ => gE.pure) (gE.bind gE_D fun _ => gE.pure)))))))
theorem pR_le : ∀ n p (r : yRow) (K : Int32), p ≤ L → (pR L T n p r K).1.1 ≤ L := by
  intro n
  induction n with
  | zero => intro p r K h; exact h
  | succ n ih =>
    intro p r K h
    by_cases q : p < L
    · have z := gE_T (L := L) (T := T) (sv := r 13) p h
      rcases hg : gT L T (r 13) p with ⟨p', o⟩
      rw [hg] at z
      cases o with
      | none => rw [pR_bad q hg]; exact z
      | some t => rw [pR_go q hg]; exact ih p' _ _ z
    · rw [pR_end q]; exact h
theorem pAll_le (g : yRow) : (pAll L T g).1.1 ≤ L := by
  unfold pAll
  split
  · next q => exact pR_le _ _ _ _ q.1
  · exact Nat.zero_le _
-- the bounds are kept
def pok (r : yRow) : Prop := rok r ∧ acy r ∧ tgt r
theorem pS_ok {r : yRow} (h : pok r) {t : y4} (hd : bet t.2.2.2 0 1) : pok (pS r t) := by
  unfold pS
  split
  · next hf => exact ⟨(prf_ok h.1 h.2.1 hd hf).1, (prf_ok h.1 h.2.1 hd hf).2, prf_tgt h.1 h.2.2 hf⟩
  · exact h
theorem pR_ok : ∀ n p (r : yRow) (K : Int32), pok r → pok (pR L T n p r K).2.1 := by
  intro n
  induction n with
  | zero => intro p r K h; exact h
  | succ n ih =>
    intro p r K h
    by_cases q : p < L
    · rcases hg : gT L T (r 13) p with ⟨p', o⟩
      cases o with
      | none => rw [pR_bad q hg]; exact h
      | some t => rw [pR_go q hg]; exact ih p' _ _ (pS_ok h (gT_d (by rw [hg])))
    · rw [pR_end q]; exact h
theorem pAll_ok (g : yRow) : pok (pAll L T g).2.1 := by
  unfold pAll
  split
  · exact pR_ok _ _ _ _ (frs_ok g)
  · exact frs_ok g
end PAR
section LDC
variable {L : Nat} {T : Nat → Int32} {K : Int32} {M M0 : yM} {p : Nat} {b : Bool}
theorem CT_self (h : CT M0 L T K M p b) : CT M L T K M p b := by
  obtain ⟨h1, h2, h3, h4, h5⟩ := h
  exact ⟨h1, h2, fun _ _ => rfl, fun j hj => by rw [h3 9 (by omega)]; exact h4 j hj, h5⟩
theorem CT_re (h : CT M0 L T K M p b) {M' : yM} (h8 : M' 8 = M 8) (h9 : M' 9 = M 9) : CT M' L T K M' p b := by
  obtain ⟨h1, h2, h3, h4, h5, h6, h7, h8'⟩ := h
  exact ⟨h1, h2, fun _ _ => rfl, fun j hj => by rw [h9, h3 9 (by omega)]; exact h4 j hj, by rw [h8]; exact h5, by rw [h8]; exact h6, by rw [h8]; exact h7, by rw [h8]; exact h8'⟩
theorem CT_K (h : CT M0 L T K M p b) : CT (yU M 8 2 (M 8 2 + 1)) L T (K + 1) (yU M 8 2 (M 8 2 + 1)) p b := by
  obtain ⟨h1, h2, h3, h4, h5, h6, h7, h8⟩ := h
  refine ⟨h1, h2, fun _ _ => rfl, fun j hj => ?_, ?_, ?_, ?_, ?_⟩
  · rw [yU_ne (by omega), h3 9 (by omega)]; exact h4 j hj
  · rw [yU_at, upd_eq, if_neg (by omega)]; exact h5
  · rw [yU_at, upd_eq, if_pos rfl, h6]
  · rw [yU_at, upd_eq, if_neg (by omega)]; exact h7
  · rw [yU_at, upd_eq, if_neg (by omega)]; exact h8
/-- the place that is answered -/
def pV (R : yPr) : Int32 := if R.1.2 = true then Int32.ofNat R.1.1 else -1
def PCx (M : yM) (L : Nat) (R : yPr) (M' : yM) : Prop := rc M' 27 R.2.1 ∧ M' 8 2 = R.2.2 ∧ M' 8 1 = Int32.ofNat L ∧ ∀ a, a ≠ 8 → (a < 27 ∨ 35 < a) → M' a = M a
theorem c24_b {x : Int32} (h : M 8 4 = 1) : yX 24 27 [some (.ref 8), some (.ref 27), some (.int x)] [] M 0 0 = yI (M 8 3) M := by
  refine yL.I (e24_27 yC27) ?_
  rw [h]
  simp only [if_neg (show ¬ (1 : Int32) = 0 by decide), ite_self]
theorem c24_l : ∀ n x p (r : yRow) (K : Int32) (M : yM), x + n = 120 → CT M L T K M p false → rc M 27 r → pok r → ∃ M', yX 24 27 [some (.ref 8), some (.ref 27), some (.int (Int32.ofNat x))] [] M 0 0 = yI (pV (pR L T n p r K)) M' ∧ PCx M L (pR L T n p r K) M' := by
  intro n
  induction n with
  | zero =>
    intro x p r K M hx hc hr hp
    have h4 : M 8 4 = 0 := hc.2.2.2.2.2.2.2
    refine ⟨M, yL.I (e24_27 yC27) ?_, hr, hc.2.2.2.2.2.1, hc.2.2.2.2.1, fun _ _ _ => rfl⟩
    rw [if_neg (by rw [olt (b := 120) (V := 120) rfl (by omega) (by omega)]; omega), if_pos h4]
    rfl
  | succ n ih =>
    intro x p r K M hx hc hr hp
    have h4 : M 8 4 = 0 := hc.2.2.2.2.2.2.2
    have h3 : M 8 3 = Int32.ofNat p := hc.2.2.2.2.2.2.1
    have h1 : M 8 1 = Int32.ofNat L := hc.2.2.2.2.1
    have hL := hc.2.1
    have hpL := hc.1
    have e := e24_27 (d := 27) (x2 := Int32.ofNat x) yC27 (M := M)
    rw [if_pos (by rw [olt (b := 120) (V := 120) rfl (by omega) (by omega)]; omega), if_pos h4, h3, h1] at e
    by_cases q : p < L
    · rw [if_pos (by rw [ofN_lt (by omega) (by omega)]; exact q)] at e
      have e13 : M 27 2 = r 13 := hr.2.2.1
      obtain ⟨M4, a1, a2, a3⟩ := n25 (L := L) (T := T) (K := K) (M0 := M) yC27 (by omega) M p hc
      dsimp only at a1
      rw [e13] at a2 a3
      rw [a1, yCv_V] at e
      rcases hg : gT L T (r 13) p with ⟨p', o⟩
      cases o with
      | none =>
        have b1 := a2 p' hg
        have b4 : M4 8 4 = 1 := b1.2.2.2.2.2.2.2
        have b3 : M4 8 3 = Int32.ofNat p' := b1.2.2.2.2.2.2.1
        rw [b4, if_neg (by decide), c24_b b4, b3] at e
        rw [pR_bad q hg]
        exact ⟨M4, yL.I e rfl, rc_fr hr (fun a c1 c2 => b1.2.2.1 a (by omega)), b1.2.2.2.2.2.1, b1.2.2.2.2.1, fun a c1 c2 => b1.2.2.1 a c1⟩
      | some t =>
        obtain ⟨b1, t1, t2, t3, t4⟩ := a3 p' t hg
        have b4 : M4 8 4 = 0 := b1.2.2.2.2.2.2.2
        have r4 : rc M4 27 r := rc_fr hr (fun a c1 c2 => b1.2.2.1 a (by omega))
        obtain ⟨M6, d1, d2, d3⟩ := c5 yC27 r4 hp.1 (act := t.1) (a := t.2.1) (b := t.2.2.1) (d := t.2.2.2)
        rw [if_pos b4, t1, t2, t3, t4, d1, yCi_I] at e
        simp only [yb_0] at e
        have c6' := CT_re b1 (M' := M6) (d3 8 (by omega)) (d3 9 (by omega))
        have pk := pS_ok hp (gT_d (L := L) (T := T) (sv := r 13) (p := p) (t := t) (by rw [hg]))
        have hd2 : rc M6 27 (pS r t) := d2
        rw [pR_go q hg]
        by_cases z : flt r t.1 t.2.1 t.2.2.1 t.2.2.2 = 0
        · have hk : pK r K t = K := if_pos z
          rw [if_neg (not_not_intro z), ofN_succ] at e
          rw [hk]
          obtain ⟨M9, f1, f2, f3, f4, f5⟩ := ih (x + 1) p' (pS r t) K M6 (by omega) c6' hd2 pk
          exact ⟨M9, yL.I e f1, f2, f3, f4, fun a g1 g2 => by rw [f5 a g1 g2, d3 a (by omega), b1.2.2.1 a g1]⟩
        · have hk : pK r K t = K + 1 := if_neg z
          rw [if_pos z, yLet_eq, ofN_succ] at e
          rw [hk]
          obtain ⟨M9, f1, f2, f3, f4, f5⟩ := ih (x + 1) p' (pS r t) (K + 1) _ (by omega) (CT_K c6') (rc_fr hd2 (fun a g1 g2 => yU_ne (by omega))) pk
          exact ⟨M9, yL.I e f1, f2, f3, f4, fun a g1 g2 => by rw [f5 a g1 g2, yU_ne g1, d3 a (by omega), b1.2.2.1 a g1]⟩
    · rw [if_neg (by rw [ofN_lt (by omega) (by omega)]; exact q), if_pos h4] at e
      rw [pR_end q]
      exact ⟨M, yL.I e rfl, hr, hc.2.2.2.2.2.1, h1, fun _ _ _ => rfl⟩
theorem c24 (hT : TxC M L T) (hL : L ≤ 120) (g : yRow) : ∃ M', yX 24 0 [some (.ref 8), some (.ref 27), none] [] M 0 0 = yI (pV (pAll L T g)) M' ∧ PCx M L (pAll L T g) M' := by
  obtain ⟨M1, a1, a2, a3⟩ := c1 (M := M) yC27 g
  have e := e24 (d := 27) yC27 (M := M)
  rw [a1, yCv_V, yLet_eq, yLet_eq, yLet_eq] at e
  obtain ⟨M4, hM4⟩ : ∃ M4, M4 = yU (yU (yU M1 8 2 0) 8 3 0) 8 4 0 := ⟨_, rfl⟩
  rw [← hM4] at e
  have m8 : ∀ j, M4 8 j = if j = 4 then 0 else if j = 3 then 0 else if j = 2 then 0 else M 8 j := fun j => by
    rw [hM4, yU_at, upd_eq, yU_at, upd_eq, yU_at, upd_eq, a3 8 (by omega)]
  have mo : ∀ a, a ≠ 8 → M4 a = M1 a := fun a ha => by rw [hM4, yU_ne ha, yU_ne ha, yU_ne ha]
  have c0 : CT M4 L T 0 M4 0 false := by
    refine ⟨Nat.zero_le _, hL, fun _ _ => rfl, fun j hj => ?_, ?_, ?_, ?_, ?_⟩
    · rw [mo 9 (by omega), a3 9 (by omega)]; exact hT.2 j hj
    · rw [m8]; exact hT.1
    · rw [m8]; rfl
    · rw [m8]; rfl
    · rw [m8]; rfl
  have r4 : rc M4 27 (frs g) := rc_fr a2 (fun a b1 b2 => mo a (by omega))
  have fr4 : ∀ a, a ≠ 8 → (a < 27 ∨ 35 < a) → M4 a = M a := fun a b1 b2 => by rw [mo a b1, a3 a (by omega)]
  rw [c33 c0, yCv_V] at e
  unfold pAll
  by_cases q : 0 < L ∧ T 0 = 67
  · rw [if_pos ⟨rfl, q⟩] at e
    rw [if_pos q]
    obtain ⟨M9, f1, f2, f3, f4, f5⟩ := c24_l (L := L) (T := T) 120 0 1 (frs g) 0 _ (by omega) (CT_self (CT_go c0 q.1)) (rc_fr r4 (fun a b1 b2 => yU_ne (by omega))) (frs_ok g)
    exact ⟨M9, yL.I e f1, f2, f3, f4, fun a g1 g2 => by rw [f5 a g1 g2, yU_ne g1, fr4 a g1 g2]⟩
  · rw [if_neg (fun z => q z.2)] at e
    rw [if_neg q]
    have cb := CT_bad c0
    have b4 : (yU M4 8 4 1) 8 4 = 1 := cb.2.2.2.2.2.2.2
    have b3 : (yU M4 8 4 1) 8 3 = Int32.ofNat 0 := cb.2.2.2.2.2.2.1
    rw [c24_b b4, b3] at e
    exact ⟨_, yL.I e rfl, rc_fr r4 (fun a b1 b2 => yU_ne (by omega)), cb.2.2.2.2.2.1, cb.2.2.2.2.1, fun a g1 g2 => by rw [yU_ne g1, fr4 a g1 g2]⟩
end LDC
-- error position and load
def oErr (A : yAb) (g : yRow) : yO := .inr (pV (pAll A.2.2.2.1 A.2.2.2.2 g))
def oLd (A : yAb) (g : yRow) : yO := if (pAll A.2.2.2.1 A.2.2.2.2 g).1.2 = true then .inl 2 else .inr (pAll A.2.2.2.1 A.2.2.2.2 g).2.2
def nLd (A : yAb) (g : yRow) : yAb := if (pAll A.2.2.2.1 A.2.2.2.2 g).1.2 = true then A else (rj (pAll A.2.2.2.1 A.2.2.2.2 g).2.1 A.1, (0, A.2.1.2), (fun _ => false, A.2.2.1.2), A.2.2.2)
theorem pV_m1 {R : yPr} (h : R.1.1 < 2147483648) : (pV R = -1) = (¬ R.1.2 = true) := by
  unfold pV
  by_cases q : R.1.2 = true
  · rw [if_pos q]
    exact propext ⟨fun z => absurd z (m1_ofN h), fun z => absurd q z⟩
  · rw [if_neg q]
    exact propext ⟨fun _ => q, fun _ => rfl⟩
theorem nLd_ok {A : yAb} (hA : Aok A) (hT : Atg A) (g : yRow) : Aok (nLd A g) ∧ Atg (nLd A g) := by
  unfold nLd
  split
  · exact ⟨hA, hT⟩
  · obtain ⟨h1, h2, h3, h4, h5, h6⟩ := hA
    obtain ⟨p1, p2, p3⟩ := pAll_ok (L := A.2.2.2.1) (T := A.2.2.2.2) g
    refine ⟨⟨rj_ok p1, rj_acy p1 p2, Nat.zero_le _, fun u hu => absurd hu (Nat.not_lt_zero u), fun s _ z => ?_, h6⟩, rj_tgt p1 p3, fun u hu => absurd hu (Nat.not_lt_zero u), fun s _ z => ?_⟩
    · have z : false = true := z
      cases z
    · have z : false = true := z
      cases z
section LDX
variable {M : yM} {A : yAb}
theorem c60 (h : RelC M A) (hA : Aok A) (g : yRow) : CR (yX 60 0 [some (.ref 7)] [] M 0 0) M (oErr A g) A := by
  obtain ⟨r1, r2, r3, r4⟩ := id h
  obtain ⟨M1, a1, a2, a3, a4, a5⟩ := c24 r4 hA.2.2.2.2.2.1 g
  refine CR.of ?_ e60
  rw [a1, yCi_I]
  exact ⟨M1, rfl, ⟨rc_fr r1 (fun a b1 b2 => a5 a (by omega) (by omega)), MemC_fr r2 (fun a b1 b2 => a5 a (by omega) (by omega)), SlC_fr r3 (fun a b1 b2 => a5 a (by omega) (by omega)), TxC_fr r4 (a4.trans r4.1.symm) (a5 9 (by omega) (by omega))⟩, fun a b1 => a5 a (by omega) (by omega)⟩
theorem fls0 : vp_nar .boolean 0 = 0 := by decide +kernel
theorem c61 (h : RelC M A) (hA : Aok A) (g : yRow) : CR (yX 61 0 [some (.ref 7), none] [] M 0 0) M (oLd A g) (nLd A g) := by
  obtain ⟨r1, r2, r3, r4⟩ := id h
  have hL := hA.2.2.2.2.2.1
  obtain ⟨M1, a1, a2, a3, a4, a5⟩ := c24 r4 hL g
  have hv := pV_m1 (R := pAll A.2.2.2.1 A.2.2.2.2 g) (Nat.lt_of_le_of_lt (pAll_le g) (by omega))
  refine CR.of ?_ e61
  unfold oLd nLd
  rw [a1, yCi_I]
  simp only [hv]
  by_cases q : (pAll A.2.2.2.1 A.2.2.2.2 g).1.2 = true
  · rw [if_neg (not_not_intro q), if_pos q, if_pos q, c93_0]
    exact ⟨M1, rfl, ⟨rc_fr r1 (fun a b1 b2 => a5 a (by omega) (by omega)), MemC_fr r2 (fun a b1 b2 => a5 a (by omega) (by omega)), SlC_fr r3 (fun a b1 b2 => a5 a (by omega) (by omega)), TxC_fr r4 (a4.trans r4.1.symm) (a5 9 (by omega) (by omega))⟩, fun a b1 => a5 a (by omega) (by omega)⟩
  · have ok := (pAll_ok (L := A.2.2.2.1) (T := A.2.2.2.2) g).1
    obtain ⟨M2, d1, d2, d3⟩ := c2 (M := M1) (c := 11) (d := 27) yC11 yC27 (by omega) ok a2
    have k38 : yX 38 0 [some (.ref 42)] [] M2 0 0 = yV (yU M2 42 2 0) := yL.V e38 (by rw [yLet_eq])
    rw [if_pos q, if_neg q, if_neg q, c93_1, yCv_V, d1, yCv_V, k38, yCv_V]
    obtain ⟨M3, hM3⟩ : ∃ M3, M3 = yU M2 42 2 0 := ⟨_, rfl⟩
    rw [← hM3]
    have k0 : yX 61 43 [some (.ref 7), some (.int 0)] [] M3 1 6 = yI (M3 8 2) (yU (yU M3 189 0 0) 189 1 0) := by
      refine yL.I e61_43 ?_
      rw [if_pos (by decide), if_pos (by decide), fls0, yLet_eq]
      refine yL.I e61_43 ?_
      rw [if_pos (by decide), if_pos (by decide), fls0, yLet_eq]
      refine yL.I e61_43 ?_
      rw [if_neg (by decide), yU_ne (by omega), yU_ne (by omega)]
      rfl
    have e82 : M3 8 2 = (pAll A.2.2.2.1 A.2.2.2.2 g).2.2 := by rw [hM3, yU_ne (by omega), d3 8 (by omega)]; exact a3
    rw [k0, e82]
    have fr : ∀ a, a ≠ 8 → a ≠ 42 → a ≠ 189 → (a < 11 ∨ (19 < a ∧ a < 27) ∨ 35 < a) → (yU (yU M3 189 0 0) 189 1 0) a = M a := fun a b1 b2 b3 b4 => by
      rw [yU_ne b3, yU_ne b3, hM3, yU_ne b2, d3 a (by omega), a5 a b1 (by omega)]
    obtain ⟨x, x1, x2, x3, x4⟩ := r2
    refine ⟨_, rfl, ⟨rj_rc ok (rc_fr d2 (fun a b1 b2 => by rw [yU_ne (by omega), yU_ne (by omega), hM3, yU_ne (by omega)])), ⟨x, x1, ?_, ?_, fun u hu => absurd hu (Nat.not_lt_zero u)⟩, fun s hs0 => ⟨?_, fun z => ?_⟩, TxC_fr r4 ?_ (fr 9 (by omega) (by omega) (by omega) (by omega))⟩, fun a b1 => fr a (by omega) (by omega) (by omega) (by omega)⟩
    · rw [yU_ne (by omega), yU_ne (by omega), hM3, yU_at, upd_eq, if_neg (by omega), d3 42 (by omega), a5 42 (by omega) (by omega)]; exact x2
    · rw [yU_ne (by omega), yU_ne (by omega), hM3, yU_at, upd_eq, if_pos rfl]; rfl
    · show (yU (yU M3 189 0 0) 189 1 0) 189 s = 0
      rw [yU_at, upd_eq, yU_at, upd_eq]
      by_cases e1 : s = 1
      · rw [if_pos e1]
      · rw [if_neg e1, if_pos (by omega)]
    · have z : false = true := z
      cases z
    · rw [yU_ne (by omega), yU_ne (by omega), hM3, yU_ne (by omega), d3 8 (by omega), a4]; exact r4.1.symm
end LDX
