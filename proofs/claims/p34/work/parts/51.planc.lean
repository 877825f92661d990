/-! the class's plan: weights, what is free -/
theorem cnt_or (P Q R : Nat → Prop) [DecidablePred P] [DecidablePred Q] [DecidablePred R] : ∀ n, (∀ m, m < n → (R m ↔ P m ∨ Q m) ∧ ¬ (P m ∧ Q m)) → cnt P n + cnt Q n = cnt R n := by
  intro n
  induction n with
  | zero => intro _; rfl
  | succ n ih =>
    intro h
    show cnt P n + (if P n then 1 else 0) + (cnt Q n + if Q n then 1 else 0) = cnt R n + if R n then 1 else 0
    have h1 := ih (fun m hm => h m (by omega))
    obtain ⟨h2, h3⟩ := h n (by omega)
    by_cases hp : P n
    · have hq : ¬ Q n := fun z => h3 ⟨hp, z⟩
      rw [if_pos hp, if_neg hq, if_pos (h2.mpr (Or.inl hp))]
      omega
    · by_cases hq : Q n
      · rw [if_neg hp, if_pos hq, if_pos (h2.mpr (Or.inr hq))]
        omega
      · rw [if_neg hp, if_neg hq, if_neg (fun z => (h2.mp z).elim hp hq)]
        omega
theorem cnt_ext (P : Nat → Prop) [DecidablePred P] {n : Nat} : ∀ d, (∀ m, n ≤ m → m < n + d → ¬ P m) → cnt P (n + d) = cnt P n := by
  intro d
  induction d with
  | zero => intro _; rfl
  | succ d ih =>
    intro h
    show cnt P (n + d) + (if P (n + d) then 1 else 0) = cnt P n
    rw [if_neg (h (n + d) (by omega) (by omega)), ih (fun m h1 h2 => h m h1 (by omega)), Nat.add_zero]
theorem bts_blw {x : Int32} {n : Nat} (h : blw x n) (hn : n ≤ 14) : bct x = bts x n := by
  rw [bct_bts (blw_mono h hn), bts_cnt, bts_cnt]
  congr 1
  have := cnt_ext (fun k => hs x (Int32.ofNat k)) (n := n) (14 - n) (fun m h1 h2 => h m h1 (by omega))
  rw [show n + (14 - n) = 14 by omega] at this
  exact this
theorem Snb_blw {r : yRow} (ok : rok r) (s : Int32) : blw (Snb r s) (stps r) := by
  have h14 := (roks ok).1
  have := yfo_I (f := fun t a => if hs (r (72 + t)) s then a ||| msk (Int32.ofNat t) else a) (I := fun t a => blw a t) (stps r) 0 0 (fun t a _ h2 h3 => by
    show blw (if hs (r (72 + t)) s then a ||| msk (Int32.ofNat t) else a) (t + 1)
    split
    · exact blw_or (blw_mono h3 (by omega)) (blw_msk (by omega) (by omega))
    · exact blw_mono h3 (by omega)) (blw_0 0)
  rw [Nat.zero_add] at this
  exact this
theorem andn_0 {a d : Int32} {n : Nat} (ha : blw a n) (hn : n ≤ 32) : (a &&& (d ^^^ (-1))) = 0 ↔ ∀ t, t < n → hs a (Int32.ofNat t) → hs d (Int32.ofNat t) := by
  constructor
  · intro h t ht h1
    apply Classical.byContradiction
    intro h2
    have h3 : hs (a &&& (d ^^^ (-1))) (Int32.ofNat t) := by
      rw [hs_and (by omega), hs_not (by omega)]
      exact ⟨h1, h2⟩
    rw [h] at h3
    exact hs_0 (by omega) h3
  · intro h
    apply hs_ext
    intro k hk
    rw [hs_and hk, hs_not hk]
    refine ⟨fun z => ?_, fun z => absurd z (hs_0 hk)⟩
    by_cases hkn : k < n
    · exact absurd (h k hkn z.1) z.2
    · exact absurd z.1 (ha k (by omega) hk)
section PLC
variable {M : yM} {p : Nat} {r : yRow}
theorem c44 (hp : yP p) (h : rc M (p + 1) r) {s : Nat} (hs0 : s < 14) : yX 44 0 [some (.ref p), some (.int (Int32.ofNat s))] [] M 0 0 = yI (M (p + 11) s + r 92) M := by
  have e : M (p + 1 + 8) 2 = r 92 := h.2.2.2.2.2.2.2 2 (by omega)
  refine yL.I (e44 hp) ?_
  rw [if_pos (yin_ofN (by omega) (by omega)), yx_ofN (by omega), e]
theorem c47 (hp : yP p) (h : rc M (p + 1) r) (ok : rok r) (hw : r 94 = 2 → ∀ s, s < stps r → M (p + 12) s = Int32.ofNat (Wf r s)) {s : Nat} (hs0 : s < stps r) : yX 47 0 [some (.ref p), some (.int (r 94)), some (.int (Int32.ofNat s))] [] M 0 0 = yI (Srk r s) M := by
  have h14 := (roks ok).1
  have hy : yinB (Int32.ofNat s) 14 = true := yin_ofN (by omega) (by omega)
  refine yL.I (e47 hp) ?_
  unfold Srk
  rw [if_pos hy, if_pos hy, yx_ofN (by omega), (h.2.2.2.2.2.1 s hs0).1, c20 (yP_c hp) h ok, yCi_I, c144, yCi_I, bts_blw (Snb_blw ok _) h14]
  by_cases h1 : r 94 = 1
  · rw [if_pos h1, if_pos h1]
  · by_cases h2 : r 94 = 2
    · rw [if_neg h1, if_pos h2, if_neg h1, if_pos h2, hw h2 s hs0]
    · by_cases h3 : r 94 = 3
      · rw [if_neg h1, if_neg h2, if_pos h3, if_neg h1, if_neg h2, if_pos h3]
      · rw [if_neg h1, if_neg h2, if_neg h3, if_neg h1, if_neg h2, if_neg h3]
theorem c46 (hp : yP p) (h : rc M (p + 1) r) (ok : rok r) (ha : acy r) : ∃ M', yX 46 0 [some (.ref p), none, none] [] M 0 0 = yV M' ∧ (∀ a, a ≠ p + 12 → a ≠ p + 13 → M' a = M a) ∧ ∀ s, s < stps r → M' (p + 13) s = Srk r s := by
  obtain ⟨s1, s2⟩ := roks ok
  have e4 : ∀ M : yM, rc M (p + 1) r → M (p + 1 + 8) 4 = r 94 := fun M h => h.2.2.2.2.2.2.2 4 (by omega)
  have loop : ∀ M1 : yM, rc M1 (p + 1) r → (r 94 = 2 → ∀ s, s < stps r → M1 (p + 12) s = Int32.ofNat (Wf r s)) → yX 46 21 [some (.ref p), some (.int (r 94)), some (.int 0)] [] M1 0 0 = yV (yUa M1 (p + 13) (yfo (fun s f => upd f (0 + s) (Srk r s)) 0 (stps r) (M1 (p + 13)))) := by
    intro M1 h1 hw
    have := yloop (H := fun s f => yX 46 21 [some (.ref p), some (.int (r 94)), some (.int (Int32.ofNat s))] [] (yUa M1 (p + 13) f) 0 0) (f := fun s f => upd f (0 + s) (Srk r s)) (N := stps r) (res := fun f => (.inl none, yUa M1 (p + 13) f)) ?_ ?_ (stps r) 0 (M1 (p + 13)) (by omega)
    · rw [yUa_self] at this
      exact this
    · intro s f hs0
      have hrc : rc (yUa M1 (p + 13) f) (p + 1) r := rc_fr h1 (fun a h1 h2 => yUa_ne (by omega))
      refine yL.fr (e46_21 hp) ?_
      rw [hrc.2.1, s2, if_pos ((ofN_lt (by omega) (by omega)).mpr hs0), c47 hp hrc ok (fun h2 t ht => by rw [yUa_ne (by omega)]; exact hw h2 t ht) hs0, yCi_I, if_pos (yin_ofN (by omega) (by omega)), yLet_eq, yUa_yU, yx_ofN (by omega), ofN_succ, Nat.zero_add]
    · intro f
      have hrc : rc (yUa M1 (p + 13) f) (p + 1) r := rc_fr h1 (fun a h1 h2 => yUa_ne (by omega))
      refine yL.V (e46_21 hp) ?_
      rw [hrc.2.1, s2, if_neg (by rw [ofN_lt (by omega) (by omega)]; omega)]
  have vals : ∀ f : yRow, ∀ s, s < stps r → yfo (fun s f => upd f (0 + s) (Srk r s)) 0 (stps r) f s = Srk r s := fun f s hs0 => by
    rw [yfo_upd (fun s => Srk r s) 0, if_pos (by omega), Nat.sub_zero]
  by_cases h2 : r 94 = 2
  · obtain ⟨w, b1, b2⟩ := c48 hp h ok ha
    have hrc : rc (yUa M (p + 12) w) (p + 1) r := rc_fr h (fun a h1 h2 => yUa_ne (by omega))
    have hl := loop _ hrc (fun _ s hs0 => by rw [yUa_at]; exact b2 s hs0)
    refine ⟨yUa (yUa M (p + 12) w) (p + 13) (yfo (fun s f => upd f (0 + s) (Srk r s)) 0 (stps r) ((yUa M (p + 12) w) (p + 13))), yL.V (e46 hp) ?_, fun a h3 h4 => ?_, fun s hs0 => ?_⟩
    · rw [e4 M h, if_pos h2, b1, yCv_V, hl]
    · rw [yUa_ne h4, yUa_ne h3]
    · rw [yUa_at]; exact vals _ s hs0
  · have hl := loop M h (fun h3 => absurd h3 h2)
    refine ⟨yUa M (p + 13) (yfo (fun s f => upd f (0 + s) (Srk r s)) 0 (stps r) (M (p + 13))), yL.V (e46 hp) ?_, fun a h3 h4 => ?_, fun s hs0 => ?_⟩
    · rw [e4 M h, if_neg h2, hl]
    · rw [yUa_ne h4]
    · rw [yUa_at]; exact vals _ s hs0
theorem kind_iff {r : yRow} (ok : rok r) {s : Nat} (hs0 : s < stps r) : (0 ≤ r (30 + s) ∧ r (30 + s) ≤ 3) ↔ ¬ r (30 + s) = -1 := by
  obtain ⟨h1, h2⟩ := (rokst ok hs0).2.1
  constructor
  · intro z1 z2
    grind
  · intro z
    exact ⟨by grind, h2⟩
theorem c51 (hp : yP p) (h : rc M (p + 1) r) (ok : rok r) {s : Nat} (hs0 : s < stps r) : ∃ M', yX 51 0 [some (.ref p), some (.int (Int32.ofNat s)), none] [] M 0 0 = yV M' ∧ (∀ a, a ≠ p + 15 → M' a = M a) ∧ ∀ kd, kd < 4 → M' (p + 15) kd = M (p + 15) kd - (if r (30 + s) = Int32.ofNat kd then 1 else 0) := by
  have h14 := (roks ok).1
  have e := (h.2.2.2.2.2.1 s hs0).2.1
  by_cases hk : r (30 + s) = -1
  · refine ⟨M, yL.V (e51 hp) ?_, fun a _ => rfl, fun kd hkd => ?_⟩
    · rw [if_pos (yin_ofN (by omega) (by omega)), yx_ofN (by omega), e, c95, yCi_I]
      simp only [yb_0]
      rw [if_pos (fun z => (kind_iff ok hs0).mp z hk)]
    · rw [if_neg (fun z => m1_ofN (show kd < 2147483648 by omega) (z.symm.trans hk))]
      grind
  · obtain ⟨k1, k2⟩ := ix_kd ok hs0 hk
    have hy : yinB (r (30 + s)) 4 = true := by rw [k2]; exact yin_ofN (by omega) (by omega)
    refine ⟨yU M (p + 15) (yx (r (30 + s))) (M (p + 15) (yx (r (30 + s))) - 1), yL.V (e51 hp) ?_, fun a h1 => yU_ne h1, fun kd hkd => ?_⟩
    · rw [if_pos (yin_ofN (by omega) (by omega)), yx_ofN (by omega), e, c95, yCi_I]
      simp only [yb_0]
      rw [if_neg (not_not_intro ((kind_iff ok hs0).mpr hk)), if_pos hy, if_pos hy, yLet_eq]
    · rw [yU_at, upd_eq]
      by_cases he : kd = yx (r (30 + s))
      · rw [if_pos he, if_pos (by rw [he]; exact k2), he]
      · rw [if_neg he, if_neg (fun z => he (by rw [z, yx_ofN (by omega)]))]
        grind
end PLC
/-- what the class keeps of a plan -/
def CS (p : Nat) (M0 M : yM) (r : yRow) (st : yPl) : Prop := (∀ a, a ≠ p → (a < p + 10 ∨ p + 15 < a) → M a = M0 a) ∧ M p 6 = Int32.ofNat st.2.2.2 ∧ (∀ s, s < stps r → M (p + 10) s = st.1 s ∧ M (p + 11) s = st.2.1 s) ∧ (∀ q, q < st.2.2.2 → M (p + 14) q = st.2.2.1 q) ∧ (∀ s, s < stps r → M (p + 13) s = Srk r s) ∧ (0 ≤ M p 8 ∧ (∀ s, s < stps r → st.2.1 s ≤ M p 8) ∧ (M p 8 = 0 ∨ ∃ s, s < stps r ∧ M p 8 = st.2.1 s))
/-- what it works out of it in each minute -/
def CI (p : Nat) (M : yM) (r : yRow) (m : Int32) (st : yPl) : Prop := (∀ t, t < stps r → (hs (M p 9) (Int32.ofNat t) ↔ dn st.1 st.2.1 t m)) ∧ M p 10 = r 93 - Int32.ofNat (Sbz r st.1 st.2.1 m) ∧ ∀ kd, kd < 4 → M (p + 15) kd = r (86 + kd) - Int32.ofNat (Siu r st.1 st.2.1 (Int32.ofNat kd) m + Swa r st.1 st.2.1 (Int32.ofNat kd) m)
theorem CS_rc {p : Nat} {M0 M : yM} {r : yRow} {st : yPl} (h : CS p M0 M r st) (h0 : rc M0 (p + 1) r) : rc M (p + 1) r := rc_fr h0 (fun a h1 h2 => h.1 a (by omega) (by omega))
/-- the bits of one more place -/
def Pz (r e : yRow) (m : Int32) (s : Nat) : Bool := decide (r (44 + s) = 1 ∧ m < e s)
def Pk (r e : yRow) (m : Int32) (kd : Nat) (s : Nat) : Bool := decide (r (30 + s) = Int32.ofNat kd ∧ m < e s + r 92)
theorem Sbz_P {r : yRow} (ok : rok r) {m : Int32} {j : Nat} {st : yPl} (h : Pin r m j st) (hj : j ≤ 29) : Sbz r st.1 st.2.1 m = cnt (fun q => Pz r st.2.1 m (yx (st.2.2.1 q)) = true) st.2.2.2 := by
  rw [h.2.2.1 (Pz r st.2.1 m)]
  refine cnt_congr _ _ _ (fun s hs0 => ?_)
  unfold Pz on
  rw [decide_eq_true_iff]
  constructor
  · exact fun z => ⟨z.2.1, z.1, z.2.2.2⟩
  · exact fun z => ⟨z.2.1, z.1, (Pin_e ok h hj hs0 z.1).2.2.2.2.2.2.1, z.2.2⟩
theorem Suw_P {r : yRow} (ok : rok r) {m : Int32} {j : Nat} {st : yPl} (h : Pin r m j st) (hj : j ≤ 29) (kd : Nat) : Siu r st.1 st.2.1 (Int32.ofNat kd) m + Swa r st.1 st.2.1 (Int32.ofNat kd) m = cnt (fun q => Pk r st.2.1 m kd (yx (st.2.2.1 q)) = true) st.2.2.2 := by
  rw [h.2.2.1 (Pk r st.2.1 m kd)]
  refine cnt_or _ _ _ _ (fun s hs0 => ⟨?_, ?_⟩)
  · unfold Pk on wet
    rw [decide_eq_true_iff]
    constructor
    · intro ⟨z1, z2, z3⟩
      have := Pin_e ok h hj hs0 z1
      by_cases h1 : m < st.2.1 s
      · exact Or.inl ⟨z2, z1, this.2.2.2.2.2.2.1, h1⟩
      · exact Or.inr ⟨z2, z1, by grind, z3⟩
    · rintro (⟨z1, z2, z3, z4⟩ | ⟨z1, z2, z3, z4⟩)
      · have := Pin_e ok h hj hs0 z2
        exact ⟨z2, z1, by grind⟩
      · exact ⟨z2, z1, z4⟩
  · unfold on wet
    intro ⟨⟨_, _, _, z1⟩, ⟨_, _, z2, _⟩⟩
    grind
theorem x_sub1 {x : Int32} {n : Nat} : x - Int32.ofNat n - 1 = x - Int32.ofNat (n + 1) := by
  have := ofN_succ n
  grind
/-- looking around in a minute -/
theorem c50 {p : Nat} (hp : yP p) {M0 M : yM} {r : yRow} (h0 : rc M0 (p + 1) r) (ok : rok r) {m : Int32} {j : Nat} {st : yPl} (hP : Pin r m j st) (hj : j ≤ 29) (hC : CS p M0 M r st) : ∃ M', yX 50 0 [some (.ref p), some (.int m), none, none] [] M 0 0 = yV M' ∧ CS p M0 M' r st ∧ CI p M' r m st := by
  obtain ⟨s1, s2⟩ := roks ok
  have hk := Pin_kle hP
  -- the loop's invariant
  let LA := fun (i : Nat) (M1 : yM) => (∀ a, a ≠ p → a ≠ p + 15 → M1 a = M a) ∧ (∀ j, j ≠ 9 → j ≠ 10 → M1 p j = M p j) ∧ (∀ t, t < stps r → (hs (M1 p 9) (Int32.ofNat t) ↔ ∃ q, q < i ∧ st.2.2.1 q = Int32.ofNat t ∧ st.2.1 t ≤ m)) ∧ M1 p 10 = r 93 - Int32.ofNat (cnt (fun q => Pz r st.2.1 m (yx (st.2.2.1 q)) = true) i) ∧ ∀ kd, kd < 4 → M1 (p + 15) kd = r (86 + kd) - Int32.ofNat (cnt (fun q => Pk r st.2.1 m kd (yx (st.2.2.1 q)) = true) i)
  have hLC : ∀ i M1, LA i M1 → CS p M0 M1 r st := by
    intro i M1 ⟨l1, l2, _⟩
    obtain ⟨c1, c2, c3, c4, c5, c6⟩ := hC
    refine ⟨fun a h1 h2 => (l1 a h1 (by omega)).trans (c1 a h1 h2), ?_, fun s hs0 => ?_, fun q hq => ?_, fun s hs0 => ?_, ?_⟩
    · rw [l2 6 (by omega) (by omega)]; exact c2
    · rw [l1 (p + 10) (by omega) (by omega), l1 (p + 11) (by omega) (by omega)]; exact c3 s hs0
    · rw [l1 (p + 14) (by omega) (by omega)]; exact c4 q hq
    · rw [l1 (p + 13) (by omega) (by omega)]; exact c5 s hs0
    · rw [l2 8 (by omega) (by omega)]; exact c6
  have step : ∀ i M1, i < st.2.2.2 → LA i M1 → ∃ M2 o, LA (i + 1) M2 ∧ ∀ o3, yL (yX 50 37 [some (.ref p), some (.int m), some (.int (Int32.ofNat (i + 1))), o] [] M2 0 0) (yX 50 37 [some (.ref p), some (.int m), some (.int (Int32.ofNat i)), o3] [] M1 0 0) := by
    intro i M1 hi hL
    have hC1 := hLC i M1 hL
    obtain ⟨l1, l2, l3, l4, l5⟩ := hL
    obtain ⟨s, hs0, hos, hbs⟩ := hP.2.1 i hi
    have hoi : M1 (p + 14) i = Int32.ofNat s := (hC1.2.2.2.1 i hi).trans hos
    have hes := (hC1.2.2.1 s hs0).2
    have hPe := Pin_e ok hP hj hs0 hbs
    have hyi : yinB (Int32.ofNat i) 14 = true := yin_ofN (by omega) (by omega)
    have hys : yinB (Int32.ofNat s) 14 = true := yin_ofN (by omega) (by omega)
    have hyxs : yx (st.2.2.1 i) = s := by rw [hos, yx_ofN (by omega)]
    have rc1 := CS_rc hC1 h0
    -- what is done first
    obtain ⟨Ma, ha1, ha2, ha3⟩ : ∃ Ma : yM, (∀ a, a ≠ p → Ma a = M1 a) ∧ ((∀ j, j ≠ 9 → j ≠ 10 → Ma p j = M1 p j) ∧ (∀ t, t < stps r → (hs (Ma p 9) (Int32.ofNat t) ↔ ∃ q, q < i + 1 ∧ st.2.2.1 q = Int32.ofNat t ∧ st.2.1 t ≤ m)) ∧ Ma p 10 = r 93 - Int32.ofNat (cnt (fun q => Pz r st.2.1 m (yx (st.2.2.1 q)) = true) (i + 1))) ∧ ∀ o3, yL (yCi false (yX 44 0 [some (.ref p), some (.int (Int32.ofNat s))] [] Ma 0 0) fun v9 M8 => if m < v9 then yCv false (yX 51 0 [some (.ref p), some (.int (Int32.ofNat s)), none] [] M8 0 0) fun M11 => yX 50 37 [some (.ref p), some (.int m), some (.int (Int32.ofNat (i + 1))), some (.int (Int32.ofNat s))] [] M11 0 0 else yX 50 37 [some (.ref p), some (.int m), some (.int (Int32.ofNat (i + 1))), some (.int (Int32.ofNat s))] [] M8 0 0) (yX 50 37 [some (.ref p), some (.int m), some (.int (Int32.ofNat i)), o3] [] M1 0 0) := by
      have hcz : cnt (fun q => Pz r st.2.1 m (yx (st.2.2.1 q)) = true) (i + 1) = cnt (fun q => Pz r st.2.1 m (yx (st.2.2.1 q)) = true) i + if Pz r st.2.1 m s = true then 1 else 0 := by
        show cnt _ i + (if Pz r st.2.1 m (yx (st.2.2.1 i)) = true then 1 else 0) = _
        rw [hyxs]
      by_cases hle : st.2.1 s ≤ m
      · refine ⟨yU M1 p 9 (wth (M1 p 9) (Int32.ofNat s) True), fun a h1 => yU_ne h1, ⟨fun j h1 h2 => ?_, fun t ht => ?_, ?_⟩, fun o3 => yL.fr (e50_37 hp) ?_⟩
        · rw [yU_at, upd_eq, if_neg h1]
        · rw [yU_at, upd_eq, if_pos rfl, wth_hs (by omega) (by omega)]
          by_cases h1 : t = s
          · rw [if_pos h1]
            exact ⟨fun _ => ⟨i, by omega, by rw [h1]; exact hos, by rw [h1]; exact hle⟩, fun _ => trivial⟩
          · rw [if_neg h1, l3 t ht]
            constructor
            · rintro ⟨q, q1, q2, q3⟩
              exact ⟨q, by omega, q2, q3⟩
            · rintro ⟨q, q1, q2, q3⟩
              refine ⟨q, ?_, q2, q3⟩
              by_cases h2 : q = i
              · subst h2
                rw [hos] at q2
                exact absurd ((by rw [← yx_ofN (show t < 2147483648 by omega), ← q2, yx_ofN (by omega)] : t = s)) h1
              · omega
        · rw [yU_at, upd_eq, if_neg (by omega), l4, hcz]
          have : ¬ Pz r st.2.1 m s = true := by
            unfold Pz
            rw [decide_eq_true_iff]
            intro z
            grind
          rw [if_neg this]
          rfl
        · rw [hC1.2.1, if_pos ((ofN_lt (by omega) (by omega)).mpr hi), if_pos hyi, yx_ofN (show i < 2147483648 by omega), hoi, if_pos hys, yx_ofN (show s < 2147483648 by omega), hes, if_pos hle, c100_1, yCi_I, yLet_eq, ofN_succ]
      · refine ⟨yU M1 p 10 (M1 p 10 - r (44 + s)), fun a h1 => yU_ne h1, ⟨fun j h1 h2 => ?_, fun t ht => ?_, ?_⟩, fun o3 => yL.fr (e50_37 hp) ?_⟩
        · rw [yU_at, upd_eq, if_neg h2]
        · rw [yU_at, upd_eq, if_neg (by omega), l3 t ht]
          constructor
          · rintro ⟨q, q1, q2, q3⟩
            exact ⟨q, by omega, q2, q3⟩
          · rintro ⟨q, q1, q2, q3⟩
            refine ⟨q, ?_, q2, q3⟩
            by_cases h2 : q = i
            · subst h2
              rw [hos] at q2
              have : t = s := by rw [← yx_ofN (show t < 2147483648 by omega), ← q2, yx_ofN (by omega)]
              subst this
              exact absurd q3 hle
            · omega
        · rw [yU_at, upd_eq, if_pos rfl, l4, hcz]
          have hh := (rokst ok hs0).2.2.1
          by_cases h1 : r (44 + s) = 1
          · have : Pz r st.2.1 m s = true := by
              unfold Pz
              rw [decide_eq_true_iff]
              exact ⟨h1, by grind⟩
            rw [if_pos this, h1, x_sub1]
          · have : ¬ Pz r st.2.1 m s = true := by
              unfold Pz
              rw [decide_eq_true_iff]
              exact fun z => h1 z.1
            have h2 : r (44 + s) = 0 := by grind
            rw [if_neg this, h2]
            grind
        · have eh := (rc1.2.2.2.2.2.1 s hs0).2.2.1
          rw [hC1.2.1, if_pos ((ofN_lt (by omega) (by omega)).mpr hi), if_pos hyi, yx_ofN (show i < 2147483648 by omega), hoi, if_pos hys, yx_ofN (show s < 2147483648 by omega), hes, if_neg hle, if_pos hys, eh, yLet_eq, ofN_succ]
    obtain ⟨ha2a, ha2b, ha2c⟩ := ha2
    have rca : rc Ma (p + 1) r := rc_fr rc1 (fun a h1 h2 => ha1 a (by omega))
    have hea : Ma (p + 11) s = st.2.1 s := by rw [ha1 _ (by omega)]; exact hes
    have hck : ∀ kd, cnt (fun q => Pk r st.2.1 m kd (yx (st.2.2.1 q)) = true) (i + 1) = cnt (fun q => Pk r st.2.1 m kd (yx (st.2.2.1 q)) = true) i + if Pk r st.2.1 m kd s = true then 1 else 0 := by
      intro kd
      show cnt _ i + (if Pk r st.2.1 m kd (yx (st.2.2.1 i)) = true then 1 else 0) = _
      rw [hyxs]
    have e44' := c44 hp rca (show s < 14 by omega)
    rw [hea] at e44'
    by_cases hlt : m < st.2.1 s + r 92
    · obtain ⟨Mb, b1, b2, b3⟩ := c51 hp rca ok hs0
      refine ⟨Mb, some (.int (Int32.ofNat s)), ⟨fun a h1 h2 => ?_, fun j h1 h2 => ?_, fun t ht => ?_, ?_, fun kd hkd => ?_⟩, fun o3 q hq => ha3 o3 q ?_⟩
      · rw [b2 a h2, ha1 a h1, l1 a h1 h2]
      · rw [b2 p (by omega), ha2a j h1 h2, l2 j h1 h2]
      · rw [b2 p (by omega)]; exact ha2b t ht
      · rw [b2 p (by omega)]; exact ha2c
      · rw [b3 kd hkd, ha1 (p + 15) (by omega), l5 kd hkd, hck]
        by_cases h1 : r (30 + s) = Int32.ofNat kd
        · have : Pk r st.2.1 m kd s = true := by
            unfold Pk
            rw [decide_eq_true_iff]
            exact ⟨h1, hlt⟩
          rw [if_pos h1, if_pos this, x_sub1]
        · have : ¬ Pk r st.2.1 m kd s = true := by
            unfold Pk
            rw [decide_eq_true_iff]
            exact fun z => h1 z.1
          rw [if_neg h1, if_neg this]
          grind
      · rw [e44', yCi_I, if_pos hlt, b1, yCv_V]
        exact hq
    · refine ⟨Ma, some (.int (Int32.ofNat s)), ⟨fun a h1 h2 => ?_, fun j h1 h2 => ?_, ha2b, ha2c, fun kd hkd => ?_⟩, fun o3 q hq => ha3 o3 q ?_⟩
      · rw [ha1 a h1, l1 a h1 h2]
      · rw [ha2a j h1 h2, l2 j h1 h2]
      · rw [ha1 (p + 15) (by omega), l5 kd hkd, hck]
        have : ¬ Pk r st.2.1 m kd s = true := by
          unfold Pk
          rw [decide_eq_true_iff]
          exact fun z => hlt z.2
        rw [if_neg this]
        rfl
      · rw [e44', yCi_I, if_neg hlt]
        exact hq
  have loop : ∀ d i M1 o3, i + d = st.2.2.2 → LA i M1 → ∃ M2, LA st.2.2.2 M2 ∧ yX 50 37 [some (.ref p), some (.int m), some (.int (Int32.ofNat i)), o3] [] M1 0 0 = yV M2 := by
    intro d
    induction d with
    | zero =>
      intro i M1 o3 hi hL
      have hi : i = st.2.2.2 := hi
      subst hi
      refine ⟨M1, hL, yL.V (e50_37 hp) ?_⟩
      rw [(hLC _ _ hL).2.1, if_neg (by rw [ofN_lt (by omega) (by omega)]; omega)]
    | succ d ih =>
      intro i M1 o3 hi hL
      obtain ⟨M2, o, h1, h2⟩ := step i M1 (by omega) hL
      obtain ⟨M3, h3, h4⟩ := ih (i + 1) M2 o (by omega) h1
      exact ⟨M3, h3, yL.V (h2 o3) h4⟩
  have rcM := CS_rc hC h0
  have h93 : M (p + 1 + 8) 3 = r 93 := rcM.2.2.2.2.2.2.2 3 (by omega)
  have hL0 : LA 0 (yUa (yU (yU M p 9 0) p 10 (r 93)) (p + 15) (ycp (M (p + 1 + 7)) (M (p + 15)) 4)) := by
    refine ⟨fun a h1 h2 => ?_, fun j h1 h2 => ?_, fun t ht => ?_, ?_, fun kd hkd => ?_⟩
    · rw [yUa_ne h2, yU_ne h1, yU_ne h1]
    · rw [yUa_ne (by omega), yU_at, upd_eq, if_neg h2, yU_at, upd_eq, if_neg h1]
    · rw [yUa_ne (by omega), yU_at, upd_eq, if_neg (by omega), yU_at, upd_eq, if_pos rfl]
      exact ⟨fun z => absurd z (hs_0 (by omega)), fun ⟨q, z, _⟩ => absurd z (Nat.not_lt_zero q)⟩
    · rw [yUa_ne (by omega), yU_at, upd_eq, if_pos rfl]
      show r 93 = r 93 - Int32.ofNat 0
      have : Int32.ofNat 0 = 0 := rfl
      grind
    · rw [yUa_at]
      show ycp (M (p + 1 + 7)) (M (p + 15)) 4 kd = r (86 + kd) - Int32.ofNat 0
      unfold ycp
      rw [if_pos hkd, rcM.2.2.2.2.2.2.1 kd hkd]
      have : Int32.ofNat 0 = 0 := rfl
      grind
  obtain ⟨M2, h1, h2⟩ := loop st.2.2.2 0 _ none (by omega) hL0
  refine ⟨M2, yL.V (e50 hp) ?_, hLC _ _ h1, ?_⟩
  · rw [yLet_eq, yLet_eq, yLet_eq, yU_ne (show p + 1 + 8 ≠ p by omega), h93, yU_ne (show p + 1 + 7 ≠ p by omega), yU_ne (show p + 1 + 7 ≠ p by omega), yU_ne (show p + 15 ≠ p by omega), yU_ne (show p + 15 ≠ p by omega)]
    exact h2
  · obtain ⟨_, _, l3, l4, l5⟩ := h1
    refine ⟨fun t ht => ?_, ?_, fun kd hkd => ?_⟩
    · rw [l3 t ht]
      constructor
      · rintro ⟨q, q1, q2, q3⟩
        obtain ⟨s, hs0, hos, hbs⟩ := hP.2.1 q q1
        rw [hos] at q2
        have : s = t := by rw [← yx_ofN (show s < 2147483648 by omega), q2, yx_ofN (by omega)]
        subst this
        exact ⟨hbs, q3⟩
      · intro ⟨z1, z2⟩
        -- t has begun: it has a place
        apply Classical.byContradiction
        intro hno
        have hc := hP.2.2.1 (fun s => decide (s = t))
        have hz : cnt (fun q => (fun s => decide (s = t)) (yx (st.2.2.1 q)) = true) st.2.2.2 = 0 := (cnt_0 _ _).mpr (fun q hq z => by
          obtain ⟨s, hs0, hos, hbs⟩ := hP.2.1 q hq
          have z : decide (yx (st.2.2.1 q) = t) = true := z
          rw [decide_eq_true_iff, hos, yx_ofN (by omega)] at z
          exact hno ⟨q, hq, by rw [hos, z], z2⟩)
        rw [hz] at hc
        exact (cnt_0 _ _).mp hc.symm t ht ⟨z1, decide_eq_true rfl⟩
    · rw [l4, Sbz_P ok hP hj]
    · rw [l5 kd hkd, Suw_P ok hP hj]
