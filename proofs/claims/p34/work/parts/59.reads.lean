/-! what is read: both sides' answers -/
def oPcs (r : yRow) (k : Int32) : yO := if bet k 0 3 then .inr (r (86 + yx k)) else .inl 0
def oSet (r : yRow) (w : Int32) : yO := if bet w 0 4 then .inr (r (90 + yx w)) else .inl 1
def Sabt (r : yRow) (w : Int32) : Int32 := if w = 0 then r 0 else if w = 1 then r 15 else if w = 2 then r 13 else if w = 3 then r 14 else if w = 4 then Sall r (r 14) else if w = 5 then Swh r (Spl r) else if w = 6 then Sstk r (Spl r) else if w = 7 then Slo r else if w = 8 then Smn r else Sunu r
def oAbt (r : yRow) (w : Int32) : yO := if bet w 0 9 then .inr (Sabt r w) else .inl 1
def oSpn (r : yRow) (i m : Int32) : yO := if bet i 0 (r 0 - 1) then if bet m 0 3 then .inr (Ssp (r 90) (yx m) (Sro r (yx i) (r 14))) else .inl 1 else .inl 0
def Sstp (r : yRow) (s : Nat) (w : Int32) : Int32 := if w = 0 then r (16 + s) else if w = 1 then r (30 + s) else if w = 2 then r (44 + s) else if w = 3 then r (58 + s) else if w = 4 then r (72 + s) else if w = 5 then Snb r (Int32.ofNat s) else if w = 6 then Int32.ofNat (Wf r s) else if w = 7 then (Spl r).1 s else if w = 8 then (Spl r).2.1 s else bct (San r s)
def oStp (r : yRow) (s w : Int32) : yO := if bet s 0 (r 15 - 1) then if bet w 0 9 then .inr (Sstp r (yx s) w) else .inl 1 else .inl 0
def oBgn (r : yRow) (q : Int32) : yO := if bet q 0 (Int32.ofNat (Spl r).2.2.2 - 1) then .inr ((Spl r).2.2.1 (yx q)) else .inl 0
def Sdur (r : yRow) (m w : Int32) : Int32 := if w = 0 then Int32.ofNat (Sbz r (Spl r).1 (Spl r).2.1 m) else if w = 9 then Int32.ofNat (Sdn r (Spl r).1 (Spl r).2.1 m) else if w < 5 then Int32.ofNat (Siu r (Spl r).1 (Spl r).2.1 (w - 1) m) else Int32.ofNat (Swa r (Spl r).1 (Spl r).2.1 (w - 5) m)
def oDur (r : yRow) (m w : Int32) : yO := if bet m 0 1500 ∧ bet w 0 9 then .inr (Sdur r m w) else .inl 1
/-- the first minute in which a step that uses an ingredient begins -/
def Sfuf (r : yRow) (i : Int32) (s : Nat) (a : Int32) : Int32 := if hs (r (58 + s)) i ∧ ¬ (Spl r).1 s = -1 ∧ (a = -1 ∨ (Spl r).1 s < a) then (Spl r).1 s else a
def Sfu (r : yRow) (i : Int32) : Int32 := yfo (Sfuf r i) 0 (stps r) (-1)
def Sing (r : yRow) (i w : Int32) : Int32 := if w = 0 then r (1 + yx i) else if w = 1 then Ssc r (yx i) (r 14) else if w = 2 then Sro r (yx i) (r 14) else if w = 3 then Ssa r (yx i) (r 14) else if w = 4 then Sro r (yx i) (r 14) - Ssc r (yx i) (r 14) else if w = 5 then Sus r i else Sfu r i
def oIng (r : yRow) (i w : Int32) : yO := if bet i 0 (r 0 - 1) then if bet w 0 6 then .inr (Sing r i w) else .inl 1 else .inl 0
-- the order is one of time
def Ord (st : yPl) : Prop := ∀ q q', q ≤ q' → q' < st.2.2.2 → st.1 (yx (st.2.2.1 q)) ≤ st.1 (yx (st.2.2.1 q'))
section ORD
variable {r : yRow}
theorem Ord_bg (ok : rok r) {m : Int32} {j : Nat} {st : yPl} (h : Pin r m j st) (hO : Ord st) {s : Nat} (hs0 : s < stps r) (hb : st.1 s = -1) : Ord (bg r m s st) := by
  have h14 := (roks ok).1
  have old : ∀ q, q < st.2.2.2 → yx (upd st.2.2.1 st.2.2.2 (Int32.ofNat s) q) = yx (st.2.2.1 q) ∧ upd st.1 s m (yx (st.2.2.1 q)) = st.1 (yx (st.2.2.1 q)) ∧ st.1 (yx (st.2.2.1 q)) ≤ m := by
    intro q hq
    obtain ⟨t, t1, t2, t3⟩ := h.2.1 q hq
    refine ⟨by rw [upd_eq, if_neg (by omega)], ?_, ?_⟩
    · rw [t2, yx_ofN (by omega), upd_eq, if_neg (fun e => by subst e; exact t3 hb)]
    · rw [t2, yx_ofN (by omega)]
      rcases h.1 t t1 with z | z
      · exact absurd z.1 t3
      · exact z.2.1
  intro q q' hqq hq'
  have hq' : q' < st.2.2.2 + 1 := hq'
  show upd st.1 s m (yx (upd st.2.2.1 st.2.2.2 (Int32.ofNat s) q)) ≤ upd st.1 s m (yx (upd st.2.2.1 st.2.2.2 (Int32.ofNat s) q'))
  have hnew : upd st.1 s m (yx (upd st.2.2.1 st.2.2.2 (Int32.ofNat s) st.2.2.2)) = m := by
    rw [upd_eq st.2.2.1, if_pos rfl, yx_ofN (by omega), upd_eq, if_pos rfl]
  by_cases e' : q' = st.2.2.2
  · rw [e', hnew]
    by_cases e : q = st.2.2.2
    · rw [e, hnew]; grind
    · obtain ⟨o1, o2, o3⟩ := old q (by omega)
      rw [o1, o2]; exact o3
  · obtain ⟨o1, o2, o3⟩ := old q' (by omega)
    obtain ⟨p1, p2, p3⟩ := old q (by omega)
    rw [o1, o2, p1, p2]
    exact hO q q' hqq (by omega)
theorem Ord_Sin (ok : rok r) {m : Int32} {j : Nat} (hj : j ≤ 29) : ∀ f st, Pin r m j st → Ord st → Ord (Sin r m f st) := by
  have h14 := (roks ok).1
  intro f
  induction f with
  | zero => intro st _ h; exact h
  | succ f ih =>
    intro st h hO
    show Ord (if Snx r st.1 st.2.1 m = -1 then st else Sin r m f (bg r m (yx (Snx r st.1 st.2.1 m)) st))
    by_cases h1 : Snx r st.1 st.2.1 m = -1
    · rw [if_pos h1]; exact hO
    · rw [if_neg h1]
      obtain ⟨s, h2, h3, h4⟩ := (Snx_can (r := r) (b := st.1) (e := st.2.1) (m := m)).resolve_left h1
      rw [h3, yx_ofN (by omega)]
      exact ih _ (Pin_bg ok h h2 h4 hj) (Ord_bg ok h hO h2 h4.1)
theorem Ord_Sou (ok : rok r) : ∀ f m j st, f + j ≤ 29 → Pin r m j st → Ord st → Ord (Sou r f m st) := by
  intro f
  induction f with
  | zero => intro m j st _ _ h; exact h
  | succ f ih =>
    intro m j st hj h hO
    have h1 := Pin_Sin ok (show j ≤ 29 by omega) (stps r) st h
    have h2 := Ord_Sin ok (show j ≤ 29 by omega) (stps r) st h hO
    show Ord (if Slt r (Sin r m (stps r) st).1 (Sin r m (stps r) st).2.1 m = -1 then Sin r m (stps r) st else Sou r f (Slt r (Sin r m (stps r) st).1 (Sin r m (stps r) st).2.1 m) (Sin r m (stps r) st))
    by_cases hv : Slt r (Sin r m (stps r) st).1 (Sin r m (stps r) st).2.1 m = -1
    · rw [if_pos hv]; exact h2
    · rw [if_neg hv]
      exact ih _ (j + 1) _ (by omega) (Pin_next ok h1 (by omega) hv).1 h2
theorem Ord_Spl (ok : rok r) : Ord (Spl r) := Ord_Sou ok 29 0 0 st0 (Nat.le_refl _) Pin_st0 (fun q q' _ h => absurd h (Nat.not_lt_zero q'))
/-- every step that has begun has a place -/
theorem Pin_place {m : Int32} {j : Nat} {st : yPl} (ok : rok r) (h : Pin r m j st) {s : Nat} (hs0 : s < stps r) (hb : ¬ st.1 s = -1) : ∃ q, q < st.2.2.2 ∧ st.2.2.1 q = Int32.ofNat s := by
  have h14 := (roks ok).1
  apply Classical.byContradiction
  intro hno
  have hc := h.2.2.1 (fun t => decide (t = s))
  have hz : cnt (fun q => (fun t => decide (t = s)) (yx (st.2.2.1 q)) = true) st.2.2.2 = 0 := (cnt_0 _ _).mpr (fun q hq z => by
    obtain ⟨t, ht0, hot, hbt⟩ := h.2.1 q hq
    have z : decide (yx (st.2.2.1 q) = s) = true := z
    rw [decide_eq_true_iff, hot, yx_ofN (by omega)] at z
    exact hno ⟨q, hq, by rw [hot, z]⟩)
  rw [hz] at hc
  exact (cnt_0 _ _).mp hc.symm s hs0 ⟨hb, decide_eq_true rfl⟩
/-- the least begin of those that use i -/
def isF (r : yRow) (i v : Int32) : Prop := (v = -1 ∧ ∀ s, s < stps r → hs (r (58 + s)) i → (Spl r).1 s = -1) ∨ (∃ s, s < stps r ∧ hs (r (58 + s)) i ∧ ¬ (Spl r).1 s = -1 ∧ v = (Spl r).1 s ∧ ∀ t, t < stps r → hs (r (58 + t)) i → ¬ (Spl r).1 t = -1 → v ≤ (Spl r).1 t)
theorem isF_uniq {i v v' : Int32} (h : isF r i v) (h' : isF r i v') : v = v' := by
  rcases h with ⟨h1, h2⟩ | ⟨s, h1, h2, h3, h4, h5⟩
  · rcases h' with ⟨h1', h2'⟩ | ⟨s', h1', h2', h3', h4', h5'⟩
    · rw [h1, h1']
    · exact absurd (h2 s' h1' h2') h3'
  · rcases h' with ⟨h1', h2'⟩ | ⟨s', h1', h2', h3', h4', h5'⟩
    · exact absurd (h2' s h1 h2) h3
    · have a1 := h5 s' h1' h2' h3'
      have a2 := h5' s h1 h2 h3
      grind
theorem Sfu_isF (ok : rok r) (i : Int32) : isF r i (Sfu r i) := by
  obtain ⟨m', hP⟩ := Pin_Spl ok
  have hnn : ∀ s, s < stps r → ¬ (Spl r).1 s = -1 → 0 ≤ (Spl r).1 s := fun s h1 h2 => (Pin_e ok hP (Nat.le_refl _) h1 h2).2.2.2.2.2.2.2
  have := yfo_I (f := Sfuf r i) (I := fun n a => n ≤ stps r → (a = -1 ∧ ∀ s, s < n → hs (r (58 + s)) i → (Spl r).1 s = -1) ∨ (∃ s, s < n ∧ hs (r (58 + s)) i ∧ ¬ (Spl r).1 s = -1 ∧ a = (Spl r).1 s ∧ ∀ t, t < n → hs (r (58 + t)) i → ¬ (Spl r).1 t = -1 → a ≤ (Spl r).1 t)) (stps r) 0 (-1) (fun n a _ _ h3 hn => by
    have h3 := h3 (by omega)
    unfold Sfuf
    by_cases hu : hs (r (58 + n)) i
    · by_cases hb : (Spl r).1 n = -1
      · rw [if_neg (fun z => z.2.1 hb)]
        rcases h3 with ⟨k1, k2⟩ | ⟨s, k1, k2, k3, k4, k5⟩
        · exact Or.inl ⟨k1, fun s q1 q2 => by
            by_cases e : s = n
            · rw [e]; exact hb
            · exact k2 s (by omega) q2⟩
        · exact Or.inr ⟨s, by omega, k2, k3, k4, fun t q1 q2 q3 => by
            by_cases e : t = n
            · subst e; exact absurd hb q3
            · exact k5 t (by omega) q2 q3⟩
      · rcases h3 with ⟨k1, k2⟩ | ⟨s, k1, k2, k3, k4, k5⟩
        · rw [if_pos ⟨hu, hb, Or.inl k1⟩]
          exact Or.inr ⟨n, by omega, hu, hb, rfl, fun t q1 q2 q3 => by
            by_cases e : t = n
            · rw [e]; grind
            · exact absurd (k2 t (by omega) q2) q3⟩
        · have ha : ¬ a = -1 := by rw [k4]; exact k3
          by_cases hlt : (Spl r).1 n < a
          · rw [if_pos ⟨hu, hb, Or.inr hlt⟩]
            exact Or.inr ⟨n, by omega, hu, hb, rfl, fun t q1 q2 q3 => by
              by_cases e : t = n
              · rw [e]; grind
              · have := k5 t (by omega) q2 q3; grind⟩
          · rw [if_neg (fun z => z.2.2.elim ha hlt)]
            exact Or.inr ⟨s, by omega, k2, k3, k4, fun t q1 q2 q3 => by
              by_cases e : t = n
              · rw [e]; grind
              · exact k5 t (by omega) q2 q3⟩
    · rw [if_neg (fun z => hu z.1)]
      rcases h3 with ⟨k1, k2⟩ | ⟨s, k1, k2, k3, k4, k5⟩
      · exact Or.inl ⟨k1, fun s q1 q2 => by
          by_cases e : s = n
          · subst e; exact absurd q2 hu
          · exact k2 s (by omega) q2⟩
      · exact Or.inr ⟨s, by omega, k2, k3, k4, fun t q1 q2 q3 => by
          by_cases e : t = n
          · subst e; exact absurd q2 hu
          · exact k5 t (by omega) q2 q3⟩) (fun _ => Or.inl ⟨rfl, fun s z => absurd z (Nat.not_lt_zero s)⟩)
  have := this (by omega)
  rw [Nat.zero_add] at this
  exact this
end ORD
-- the class
section RDC
variable {M : yM} {A : yAb}
theorem CR.rd (h : RelC M A) {v : Int32} {o : yO} (ho : o = .inr v) : CR (yI v M) M o A := ⟨M, by rw [ho]; rfl, h, fun _ _ => rfl⟩
theorem CR.rdf (h : RelC M A) {M' : yM} (hf : ∀ a, a ≠ 10 → (a < 20 ∨ 41 < a) → M' a = M a) {v : Int32} {o : yO} (ho : o = .inr v) : CR (yI v M') M o A := ⟨M', by rw [ho]; rfl, RelC_fr h (fun a b1 b2 _ => hf a b1 b2), fun a b1 => hf a (by omega) (by omega)⟩
theorem CR.th (h : RelC M A) {E : Nat} {o : yO} (ho : o = .inl E) : CR (yTw E M) M o A := ⟨M, by rw [ho]; rfl, h, fun _ _ => rfl⟩
theorem c67 (h : RelC M A) {k : Int32} : CR (yX 67 0 [some (.ref 7), some (.int k)] [] M 0 0) M (oPcs A.1 k) A := by
  refine CR.of ?_ e67
  unfold oPcs
  rw [c95, yCi_I, c91]
  by_cases q : bet k 0 3
  · obtain ⟨i1, i2⟩ := knd_ix q
    rw [if_pos q, if_pos q, yCv_V, if_pos (yin_of ⟨i1, i2⟩ (by omega))]
    have : M 18 (yx k) = A.1 (86 + yx k) := h.1.2.2.2.2.2.2.1 _ i1
    rw [this]
    exact CR.rd h rfl
  · rw [if_neg q, if_neg q]
    exact CR.th h rfl
theorem c68 (h : RelC M A) {w : Int32} : CR (yX 68 0 [some (.ref 7), some (.int w)] [] M 0 0) M (oSet A.1 w) A := by
  refine CR.of ?_ e68
  unfold oSet
  rw [c96, yCi_I, c92]
  by_cases q : bet w 0 4
  · obtain ⟨i1, i2⟩ := set_ix q
    rw [if_pos q, if_pos q, yCv_V, if_pos (yin_of ⟨i1, i2⟩ (by omega))]
    have : M 19 (yx w) = A.1 (90 + yx w) := h.1.2.2.2.2.2.2.2 _ i1
    rw [this]
    exact CR.rd h rfl
  · rw [if_neg q, if_neg q]
    exact CR.th h rfl
theorem CS_fr {M M' : yM} {r : yRow} {st : yPl} (h : CS 10 M M' r st) : ∀ a, a ≠ 10 → (a < 20 ∨ 41 < a) → M' a = M a := fun a b1 b2 => h.1 a b1 (by omega)
theorem c62 (h : RelC M A) (hA : Aok A) {w : Int32} : CR (yX 62 0 [some (.ref 7), some (.int w)] [] M 0 0) M (oAbt A.1 w) A := by
  have hc := h.1
  have ok := hA.1
  refine CR.of ?_ e62
  unfold oAbt
  rw [c94, yCi_I, c92]
  by_cases q : bet w 0 9
  · rw [if_pos q, if_pos q, yCv_V]
    obtain ⟨M1, p1, p2, p3, p4⟩ := c45 yP10 (M := M) hc ok hA.2.1
    obtain ⟨w7, l1⟩ := c40 yP10 (M := M) hc ok hA.2.1
    have e3 : M 11 3 = A.1 14 := hc.2.2.2.1
    rw [p1, yCv_V, yCv_V, l1, yCi_I, e3, c15 yC11 hc ok (rok14 ok), yCi_I, c19 yC11 hc ok, yCi_I, c18 yC11 hc ok, yCi_I, p3, p4]
    have e0 : M 11 0 = A.1 0 := hc.1
    have e1 : M 11 1 = A.1 15 := hc.2.1
    have e2 : M 11 2 = A.1 13 := hc.2.2.1
    rw [e0, e1, e2]
    unfold Sabt
    by_cases w0 : w = 0
    · rw [if_pos w0, if_pos w0]; exact CR.rd h rfl
    · by_cases w1 : w = 1
      · rw [if_neg w0, if_pos w1, if_neg w0, if_pos w1]; exact CR.rd h rfl
      · by_cases w2 : w = 2
        · rw [if_neg w0, if_neg w1, if_pos w2, if_neg w0, if_neg w1, if_pos w2]; exact CR.rd h rfl
        · by_cases w3 : w = 3
          · rw [if_neg w0, if_neg w1, if_neg w2, if_pos w3, if_neg w0, if_neg w1, if_neg w2, if_pos w3]; exact CR.rd h rfl
          · by_cases w4 : w = 4
            · rw [if_neg w0, if_neg w1, if_neg w2, if_neg w3, if_pos w4, if_neg w0, if_neg w1, if_neg w2, if_neg w3, if_pos w4]; exact CR.rd h rfl
            · by_cases w5 : w = 5
              · rw [if_neg w0, if_neg w1, if_neg w2, if_neg w3, if_neg w4, if_pos w5, if_neg w0, if_neg w1, if_neg w2, if_neg w3, if_neg w4, if_pos w5]; exact CR.rdf h (CS_fr p2) rfl
              · by_cases w6 : w = 6
                · rw [if_neg w0, if_neg w1, if_neg w2, if_neg w3, if_neg w4, if_neg w5, if_pos w6, if_neg w0, if_neg w1, if_neg w2, if_neg w3, if_neg w4, if_neg w5, if_pos w6]; exact CR.rdf h (CS_fr p2) rfl
                · by_cases w77 : w = 7
                  · rw [if_neg w0, if_neg w1, if_neg w2, if_neg w3, if_neg w4, if_neg w5, if_neg w6, if_pos w77, if_neg w0, if_neg w1, if_neg w2, if_neg w3, if_neg w4, if_neg w5, if_neg w6, if_pos w77]; exact CR.rdf h (fun a b1 b2 => yUa_ne (by omega)) rfl
                  · by_cases w8 : w = 8
                    · rw [if_neg w0, if_neg w1, if_neg w2, if_neg w3, if_neg w4, if_neg w5, if_neg w6, if_neg w77, if_pos w8, if_neg w0, if_neg w1, if_neg w2, if_neg w3, if_neg w4, if_neg w5, if_neg w6, if_neg w77, if_pos w8]; exact CR.rd h rfl
                    · rw [if_neg w0, if_neg w1, if_neg w2, if_neg w3, if_neg w4, if_neg w5, if_neg w6, if_neg w77, if_neg w8, if_neg w0, if_neg w1, if_neg w2, if_neg w3, if_neg w4, if_neg w5, if_neg w6, if_neg w77, if_neg w8]; exact CR.rd h rfl
  · rw [if_neg q, if_neg q]
    exact CR.th h rfl
theorem c64 (h : RelC M A) (hA : Aok A) {i m : Int32} : CR (yX 64 0 [some (.ref 7), some (.int i), some (.int m)] [] M 0 0) M (oSpn A.1 i m) A := by
  have hc := h.1
  have ok := hA.1
  refine CR.of ?_ e64
  unfold oSpn
  rw [c3 yC11 hc, yCi_I, c91]
  by_cases q1 : bet i 0 (A.1 0 - 1)
  · rw [if_pos q1, if_pos q1, yCv_V, c94, yCi_I, c92]
    by_cases q2 : bet m 0 3
    · obtain ⟨i1, i2⟩ := ing_ix ok q1
      obtain ⟨k1, k2⟩ := knd_ix q2
      have e3 : M 11 3 = A.1 14 := hc.2.2.2.1
      have := c14 (q := (1 : Int32) <<< (m &&& 31)) yC11 hc ok i1 (rok14 ok)
      rw [← i2] at this
      rw [if_pos q2, if_pos q2, yCv_V, e3, this, yCi_I]
      have hs := Scl_m (A.1 90) (Sro A.1 (yx i) (A.1 14)) k1
      rw [← k2] at hs
      rw [hs]
      exact CR.rd h rfl
    · rw [if_neg q2, if_neg q2]
      exact CR.th h rfl
  · rw [if_neg q1, if_neg q1]
    exact CR.th h rfl
theorem c65 (h : RelC M A) (hA : Aok A) {s w : Int32} : CR (yX 65 0 [some (.ref 7), some (.int s), some (.int w)] [] M 0 0) M (oStp A.1 s w) A := by
  have hc := h.1
  have ok := hA.1
  have h14 := (roks ok).1
  refine CR.of ?_ e65
  unfold oStp
  rw [c4 yC11 hc, yCi_I, c91]
  by_cases q1 : bet s 0 (A.1 15 - 1)
  · rw [if_pos q1, if_pos q1, yCv_V, c94, yCi_I, c92]
    by_cases q2 : bet w 0 9
    · obtain ⟨i1, i2⟩ := stp_ix ok q1
      have hy := yin_of (n := 14) ⟨show yx s < 14 by omega, i2⟩ (by omega)
      obtain ⟨M1, p1, p2, p3, p4⟩ := c45 yP10 (M := M) hc ok hA.2.1
      obtain ⟨w7, l1, l2⟩ := c48 yP10 (M := M) hc ok hA.2.1
      obtain ⟨v1, v2, v3, v4, v5⟩ := hc.2.2.2.2.2.1 _ i1
      have v1 : M 13 (yx s) = A.1 (16 + yx s) := v1
      have v2 : M 14 (yx s) = A.1 (30 + yx s) := v2
      have v3 : M 15 (yx s) = A.1 (44 + yx s) := v3
      have v4 : M 16 (yx s) = A.1 (58 + yx s) := v4
      have v5 : M 17 (yx s) = A.1 (72 + yx s) := v5
      have b1 : M1 20 (yx s) = (Spl A.1).1 (yx s) := (p2.2.2.1 _ i1).1
      have b2 : M1 21 (yx s) = (Spl A.1).2.1 (yx s) := (p2.2.2.1 _ i1).2
      have e21 : yX 21 0 [some (.ref 11), some (.int s), none, none, none] [] M 0 0 = yI (San A.1 (yx s)) M := by
        have := c21 yC11 hc ok i1
        rw [← i2] at this
        exact this
      have e22 : (yUa M (10 + 12) w7) 22 (yx s) = Int32.ofNat (Wf A.1 (yx s)) := by
        rw [show (22 : Nat) = 10 + 12 from rfl, yUa_at]
        exact l2 _ i1
      rw [if_pos q2, if_pos q2, yCv_V, if_pos hy, if_pos hy, if_pos hy, if_pos hy, if_pos hy, c20 yC11 hc ok, yCi_I, l1, yCv_V, if_pos hy, p1, yCv_V, yCv_V, if_pos hy, if_pos hy, e21, yCi_I, c144, yCi_I, v1, v2, v3, v4, v5, b1, b2, e22]
      unfold Sstp
      rw [← i2]
      by_cases w0 : w = 0
      · rw [if_pos w0, if_pos w0]; exact CR.rd h rfl
      · by_cases w1 : w = 1
        · rw [if_neg w0, if_pos w1, if_neg w0, if_pos w1]; exact CR.rd h rfl
        · by_cases w2 : w = 2
          · rw [if_neg w0, if_neg w1, if_pos w2, if_neg w0, if_neg w1, if_pos w2]; exact CR.rd h rfl
          · by_cases w3 : w = 3
            · rw [if_neg w0, if_neg w1, if_neg w2, if_pos w3, if_neg w0, if_neg w1, if_neg w2, if_pos w3]; exact CR.rd h rfl
            · by_cases w4 : w = 4
              · rw [if_neg w0, if_neg w1, if_neg w2, if_neg w3, if_pos w4, if_neg w0, if_neg w1, if_neg w2, if_neg w3, if_pos w4]; exact CR.rd h rfl
              · by_cases w5 : w = 5
                · rw [if_neg w0, if_neg w1, if_neg w2, if_neg w3, if_neg w4, if_pos w5, if_neg w0, if_neg w1, if_neg w2, if_neg w3, if_neg w4, if_pos w5]; exact CR.rd h rfl
                · by_cases w6 : w = 6
                  · rw [if_neg w0, if_neg w1, if_neg w2, if_neg w3, if_neg w4, if_neg w5, if_pos w6, if_neg w0, if_neg w1, if_neg w2, if_neg w3, if_neg w4, if_neg w5, if_pos w6]; exact CR.rdf h (fun a b1 b2 => yUa_ne (by omega)) rfl
                  · by_cases w77 : w = 7
                    · rw [if_neg w0, if_neg w1, if_neg w2, if_neg w3, if_neg w4, if_neg w5, if_neg w6, if_pos w77, if_neg w0, if_neg w1, if_neg w2, if_neg w3, if_neg w4, if_neg w5, if_neg w6, if_pos w77]; exact CR.rdf h (CS_fr p2) rfl
                    · by_cases w8 : w = 8
                      · rw [if_neg w0, if_neg w1, if_neg w2, if_neg w3, if_neg w4, if_neg w5, if_neg w6, if_neg w77, if_pos w8, if_neg w0, if_neg w1, if_neg w2, if_neg w3, if_neg w4, if_neg w5, if_neg w6, if_neg w77, if_pos w8]; exact CR.rdf h (CS_fr p2) rfl
                      · rw [if_neg w0, if_neg w1, if_neg w2, if_neg w3, if_neg w4, if_neg w5, if_neg w6, if_neg w77, if_neg w8, if_neg w0, if_neg w1, if_neg w2, if_neg w3, if_neg w4, if_neg w5, if_neg w6, if_neg w77, if_neg w8]; exact CR.rd h rfl
    · rw [if_neg q2, if_neg q2]
      exact CR.th h rfl
  · rw [if_neg q1, if_neg q1]
    exact CR.th h rfl
theorem c66 (h : RelC M A) (hA : Aok A) {q : Int32} : CR (yX 66 0 [some (.ref 7), some (.int q)] [] M 0 0) M (oBgn A.1 q) A := by
  have hc := h.1
  have ok := hA.1
  have h14 := (roks ok).1
  obtain ⟨m', hP⟩ := Pin_Spl ok
  have hk := Pin_kle hP
  refine CR.of ?_ e66
  unfold oBgn
  obtain ⟨M1, p1, p2, p3, p4⟩ := c45 yP10 (M := M) hc ok hA.2.1
  have e6 : M1 10 6 = Int32.ofNat (Spl A.1).2.2.2 := p2.2.1
  rw [p1, yCv_V, c94, yCi_I, c91, e6]
  by_cases q1 : bet q 0 (Int32.ofNat (Spl A.1).2.2.2 - 1)
  · have hq : yx q < (Spl A.1).2.2.2 ∧ q = Int32.ofNat (yx q) := by
      have hb := ofN_bd (n := (Spl A.1).2.2.2) (v := 14) (N := 14) rfl (by omega) (by omega)
      obtain ⟨g1, g2⟩ := bet_nat (x := q) (m := 13) ⟨q1.1, by have := q1.2; grind⟩ (N := 13) rfl (by omega)
      refine ⟨?_, g2⟩
      have h3 : q < Int32.ofNat (Spl A.1).2.2.2 := by have := q1.2; grind
      rw [g2, ofN_lt (by omega) (by omega)] at h3
      exact h3
    have e24 : M1 24 (yx q) = (Spl A.1).2.2.1 (yx q) := p2.2.2.2.1 _ hq.1
    rw [if_pos q1, if_pos q1, yCv_V, if_pos (yin_of ⟨show yx q < 14 by omega, hq.2⟩ (by omega)), e24]
    exact CR.rdf h (CS_fr p2) rfl
  · rw [if_neg q1, if_neg q1]
    exact ⟨M1, rfl, RelC_fr h (fun a b1 b2 _ => CS_fr p2 a b1 b2), fun a b1 => CS_fr p2 a (by omega) (by omega)⟩
theorem c43 {r : yRow} {M0 M1 : yM} (h0 : rc M0 11 r) (ok : rok r) {m' : Int32} (hP : Pin r m' 29 (Spl r)) (hC : CS 10 M0 M1 r (Spl r)) {s : Nat} (hs0 : s < stps r) (hb : ¬ (Spl r).1 s = -1) {m w : Int32} (hw : bet w 0 9) : yX 43 0 [some (.ref 10), some (.int m), some (.int w), some (.int (Int32.ofNat s)), none] [] M1 0 0 = yI (yb (if w = 0 then (r (44 + s) = 1 ∧ on (Spl r).1 (Spl r).2.1 s m) else if w = 9 then dn (Spl r).1 (Spl r).2.1 s m else if w < 5 then (r (30 + s) = w - 1 ∧ on (Spl r).1 (Spl r).2.1 s m) else (r (30 + s) = w - 5 ∧ wet r (Spl r).1 (Spl r).2.1 s m))) M1 := by
  have h14 := (roks ok).1
  have rc1 : rc M1 11 r := rc_fr h0 (fun a b1 b2 => CS_fr hC a (by omega) (by omega))
  have hy : yinB (Int32.ofNat s) 14 = true := yin_ofN (by omega) (by omega)
  have e20 : M1 (10 + 10) s = (Spl r).1 s := (hC.2.2.1 s hs0).1
  have e21 : M1 (10 + 11) s = (Spl r).2.1 s := (hC.2.2.1 s hs0).2
  obtain ⟨v1, v2, v3, v4, v5⟩ := rc1.2.2.2.2.2.1 _ hs0
  have e44 := c44 yP10 (M := M1) rc1 (show s < 14 by omega)
  rw [e21] at e44
  have hPe := Pin_e ok hP (Nat.le_refl _) hs0 hb
  have hy24 : ∀ o4, ¬ ((Spl r).1 s ≤ m ∧ m < (Spl r).2.1 s) → yX 43 24 [some (.ref 10), some (.int m), some (.int w), some (.int (Int32.ofNat s)), o4] [] M1 0 0 = yI (yb (if w = 0 then (r (44 + s) = 1 ∧ on (Spl r).1 (Spl r).2.1 s m) else if w = 9 then dn (Spl r).1 (Spl r).2.1 s m else if w < 5 then (r (30 + s) = w - 1 ∧ on (Spl r).1 (Spl r).2.1 s m) else (r (30 + s) = w - 5 ∧ wet r (Spl r).1 (Spl r).2.1 s m))) M1 := by
    intro o4 hn
    refine yL.I (e43_24 yP10) ?_
    rw [if_pos hy, if_pos hy, if_pos hy, yx_ofN (show s < 2147483648 by omega), e21, show M1 (10 + 1 + 3) s = r (30 + s) from v2, e44, yCi_I]
    by_cases w0 : w = 0
    · rw [if_pos w0, yb_neg (by rw [if_pos w0]; exact fun z => hn z.2.2)]
    · rw [if_neg w0]
      by_cases w4 : w ≤ 4
      · have w9 : ¬ w = 9 := by grind
        have w5 : w < 5 := by grind
        rw [if_pos w4, yb_neg (by rw [if_neg w0, if_neg w9, if_pos w5]; exact fun z => hn z.2.2)]
      · rw [if_neg w4]
        by_cases w8 : w ≤ 8
        · have w9 : ¬ w = 9 := by grind
          have w5 : ¬ w < 5 := by grind
          have ww : w - 1 - 4 = w - 5 := by grind
          rw [if_pos w8, ww]
          by_cases g1 : r (30 + s) = w - 5
          · rw [if_pos g1]
            by_cases g2 : (Spl r).2.1 s ≤ m
            · rw [if_pos g2]
              by_cases g3 : m < (Spl r).2.1 s + r 92
              · rw [if_pos g3, yb_pos (by rw [if_neg w0, if_neg w9, if_neg w5]; exact ⟨g1, hb, g2, g3⟩)]
              · rw [if_neg g3, yb_neg (by rw [if_neg w0, if_neg w9, if_neg w5]; exact fun z => g3 z.2.2.2)]
            · rw [if_neg g2, yb_neg (by rw [if_neg w0, if_neg w9, if_neg w5]; exact fun z => g2 z.2.2.1)]
          · rw [if_neg g1, yb_neg (by rw [if_neg w0, if_neg w9, if_neg w5]; exact fun z => g1 z.1)]
        · have w9 : w = 9 := by have := hw.2; grind
          rw [if_neg w8]
          by_cases g2 : (Spl r).2.1 s ≤ m
          · rw [if_pos g2, yb_pos (by rw [if_neg w0, if_pos w9]; exact ⟨hb, g2⟩)]
          · rw [if_neg g2, yb_neg (by rw [if_neg w0, if_pos w9]; exact fun z => g2 z.2)]
  refine yL.I (e43 yP10) ?_
  rw [if_pos hy, if_pos hy, if_pos hy, if_pos hy, if_pos hy, if_pos hy, if_pos hy, yx_ofN (show s < 2147483648 by omega), e20, e21, show M1 (10 + 1 + 3) s = r (30 + s) from v2, show M1 (10 + 1 + 4) s = r (44 + s) from v3, e44, yCi_I]
  by_cases g1 : (Spl r).1 s ≤ m
  · rw [if_pos g1]
    by_cases g2 : m < (Spl r).2.1 s
    · rw [if_pos g2]
      have hon : on (Spl r).1 (Spl r).2.1 s m := ⟨hb, g1, g2⟩
      have g3 : ¬ (Spl r).2.1 s ≤ m := by grind
      by_cases w0 : w = 0
      · rw [if_pos w0]
        by_cases g4 : r (44 + s) = 1
        · rw [if_pos g4, yb_pos (by rw [if_pos w0]; exact ⟨g4, hon⟩)]
        · rw [if_neg g4, yb_neg (by rw [if_pos w0]; exact fun z => g4 z.1)]
      · rw [if_neg w0]
        by_cases w4 : w ≤ 4
        · have w9 : ¬ w = 9 := by grind
          have w5 : w < 5 := by grind
          rw [if_pos w4]
          by_cases g4 : r (30 + s) = w - 1
          · rw [if_pos g4, yb_pos (by rw [if_neg w0, if_neg w9, if_pos w5]; exact ⟨g4, hon⟩)]
          · rw [if_neg g4, yb_neg (by rw [if_neg w0, if_neg w9, if_pos w5]; exact fun z => g4 z.1)]
        · rw [if_neg w4]
          by_cases w8 : w ≤ 8
          · have w9 : ¬ w = 9 := by grind
            have w5 : ¬ w < 5 := by grind
            rw [if_pos w8, if_neg g3, yb_neg (by rw [if_neg w0, if_neg w9, if_neg w5]; exact fun z => g3 z.2.2.1)]
            split <;> rfl
          · have w9 : w = 9 := by have := hw.2; grind
            rw [if_neg w8, if_neg g3, yb_neg (by rw [if_neg w0, if_pos w9]; exact fun z => g3 z.2)]
    · rw [if_neg g2]
      exact hy24 _ (fun z => g2 z.2)
  · rw [if_neg g1]
    exact hy24 _ (fun z => g1 z.1)
end RDC
