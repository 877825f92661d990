/-! a step's numbers, as longs -/
theorem mx_s (g : Nat → Nat) (n : Nat) : mx g (n + 1) = max (mx g n) (g n) := rfl
section STF
variable {r : yRow}
theorem o_s0 (ok : rok r) {s : Nat} (h : s < stps r) : ol (oStp r (Int32.ofNat s) 0) = (r (16 + s)).toInt64 := by
  rw [o_stp ok h (by decide)]; rfl
theorem o_s4 (ok : rok r) {s : Nat} (h : s < stps r) : ol (oStp r (Int32.ofNat s) 4) = (r (72 + s)).toInt64 := by
  rw [o_stp ok h (by decide)]; rfl
theorem o_s5 (ok : rok r) {s : Nat} (h : s < stps r) : ol (oStp r (Int32.ofNat s) 5) = (Snb r (Int32.ofNat s)).toInt64 := by
  rw [o_stp ok h (by decide)]; rfl
theorem o_s6 (ok : rok r) {s : Nat} (h : s < stps r) : ol (oStp r (Int32.ofNat s) 6) = (Int32.ofNat (Wf r s)).toInt64 := by
  rw [o_stp ok h (by decide)]; rfl
theorem o_s7 (ok : rok r) {s : Nat} (h : s < stps r) : ol (oStp r (Int32.ofNat s) 7) = ((Spl r).1 s).toInt64 := by
  rw [o_stp ok h (by decide)]; rfl
theorem o_s8 (ok : rok r) {s : Nat} (h : s < stps r) : ol (oStp r (Int32.ofNat s) 8) = ((Spl r).2.1 s).toInt64 := by
  rw [o_stp ok h (by decide)]; rfl
theorem o_a4 : ol (oAbt r 4) = (Sall r (r 14)).toInt64 := by rw [ol_abt (by decide)]; rfl
theorem o_a5 : ol (oAbt r 5) = (Swh r (Spl r)).toInt64 := by rw [ol_abt (by decide)]; rfl
theorem o_a6 : ol (oAbt r 6) = (Sstk r (Spl r)).toInt64 := by rw [ol_abt (by decide)]; rfl
theorem o_a7 : ol (oAbt r 7) = (Slo r).toInt64 := by rw [ol_abt (by decide)]; rfl
theorem o_a8 : ol (oAbt r 8) = (Smn r).toInt64 := by rw [ol_abt (by decide)]; rfl
theorem m1_l {x : Int32} : (x.toInt64 = -1) ↔ x = -1 := by
  rw [show (-1 : Int64) = (-1 : Int32).toInt64 from rfl, w_eq]
theorem imx_ge (a b : Int32) : a ≤ imx a b ∧ b ≤ imx a b := by
  unfold imx
  split
  · exact ⟨by grind, by grind⟩
  · exact ⟨by grind, by grind⟩
theorem Swh_ge (e : yRow) (N : Nat) : ∀ s, s < N → e s ≤ yfo (fun s a => imx a (e s)) 0 N 0 := by
  have key := yfo_I (f := fun s a => imx a (e s)) (I := fun n a => ∀ s, s < n → e s ≤ a) N 0 0 (fun n a _ h2 h3 s hs0 => by
    have := imx_ge a (e n)
    by_cases h : s = n
    · rw [h]; exact this.2
    · have h4 := h3 s (by omega)
      have := this.1
      show e s ≤ imx a (e n)
      grind) (fun s h => absurd h (Nat.not_lt_zero s))
  rw [Nat.zero_add] at key
  exact key
theorem takes_ge {s : Nat} (h : s < stps r) : (Spl r).2.1 s ≤ Swh r (Spl r) := Swh_ge (Spl r).2.1 (stps r) s h
theorem Swh_0 (e : yRow) (N : Nat) : 0 ≤ yfo (fun s a => imx a (e s)) 0 N 0 := by
  have key := yfo_I (f := fun s a => imx a (e s)) (I := fun _ a => (0 : Int32) ≤ a) N 0 0 (fun n a _ h2 h3 => by
    have := (imx_ge a (e n)).1
    show 0 ≤ imx a (e n)
    grind) (by decide)
  exact key
theorem takes_0 : 0 ≤ Swh r (Spl r) := Swh_0 (Spl r).2.1 (stps r)
/-- a begun step: its end; a stuck one: none -/
theorem end_of (ok : rok r) {s : Nat} (h : s < stps r) : ((Spl r).1 s = -1 → (Spl r).2.1 s = -1) ∧ (¬ (Spl r).1 s = -1 → (Spl r).2.1 s = (Spl r).1 s + r (16 + s) ∧ 0 ≤ (Spl r).1 s ∧ (Spl r).1 s ≤ 4930 ∧ 1 ≤ r (16 + s) ∧ r (16 + s) ≤ 150) := by
  obtain ⟨m, hP⟩ := Pin_Spl ok
  refine ⟨fun z => ?_, fun z => ?_⟩
  · rcases hP.1 s h with h1 | h1
    · exact h1.2
    · rw [z] at h1; exact absurd h1.1 (by decide)
  · obtain ⟨p1, p2, p3, p4, p5, p6, p7, p8⟩ := Pin_e ok hP (Nat.le_refl _) h z
    have hm := (rokst ok h).1
    rcases hP.1 s h with h1 | h1
    · exact absurd h1.1 z
    · exact ⟨h1.2.2, h1.1, by grind, hm.1, hm.2⟩
theorem end_l (ok : rok r) {s : Nat} (h : s < stps r) (hb : ¬ (Spl r).1 s = -1) : ((Spl r).2.1 s).toInt64 = ((Spl r).1 s).toInt64 + (r (16 + s)).toInt64 := by
  obtain ⟨h1, h2, h3, h4, h5⟩ := (end_of ok h).2 hb
  obtain ⟨q1, q2⟩ := bet_nat (x := (Spl r).1 s) (m := 4930) ⟨h2, h3⟩ (N := 4930) rfl (by omega)
  obtain ⟨q3, q4⟩ := bet_nat (x := r (16 + s)) (m := 150) ⟨by grind, h5⟩ (N := 150) rfl (by omega)
  rw [h1, q2, q4, ofN_add, i64n (by omega), i64n (by omega), i64n (by omega), l_add]
/-- what the law gathers over the steps -/
abbrev t3 : Type := Int32 × Int64 × Int64
def f3 (r : yRow) (n : Nat) (t : t3) : t3 := (t.1 + yb ((Spl r).1 n = -1), t.2.1 + (r (16 + n)).toInt64, if (Int32.ofNat (Wf r n)).toInt64 ≤ t.2.2 then t.2.2 else (Int32.ofNat (Wf r n)).toInt64)
theorem yfo3 {α β γ : Type} (fa : Nat → α → α) (fb : Nat → β → β) (fc : Nat → γ → γ) : ∀ d n a b c, yfo (fun n (t : α × β × γ) => (fa n t.1, fb n t.2.1, fc n t.2.2)) n d (a, b, c) = (yfo fa n d a, yfo fb n d b, yfo fc n d c) := by
  intro d
  induction d with
  | zero => intro n a b c; rfl
  | succ d ih => intro n a b c; exact ih (n + 1) (fa n a) (fb n b) (fc n c)
theorem mx64 (g : Nat → Nat) {K : Nat} (hK : K < 2147483648) : ∀ d n acc, (∀ m, m < n + d → g m ≤ K) → acc = mx g n → yfo (fun n (a : Int64) => if (Int32.ofNat (g n)).toInt64 ≤ a then a else (Int32.ofNat (g n)).toInt64) n d (Int64.ofNat acc) = Int64.ofNat (mx g (n + d)) := by
  intro d
  induction d with
  | zero => intro n acc _ h; rw [h]; rfl
  | succ d ih =>
    intro n acc h h2
    have h3 := h n (by omega)
    have h4 : acc ≤ K := by rw [h2]; exact mx_le _ (fun t ht => h t (by omega))
    show yfo _ (n + 1) d (if (Int32.ofNat (g n)).toInt64 ≤ Int64.ofNat acc then Int64.ofNat acc else (Int32.ofNat (g n)).toInt64) = _
    rw [i64n (by omega), show n + (d + 1) = n + 1 + d by omega]
    have h5 : mx g (n + 1) = max (mx g n) (g n) := mx_s g n
    by_cases hc : g n ≤ acc
    · rw [if_pos (by rw [l_le (by omega) (by omega)]; exact hc)]
      exact ih (n + 1) acc (fun m hm => h m (by omega)) (by rw [h5]; omega)
    · rw [if_neg (by rw [l_le (by omega) (by omega)]; exact hc)]
      exact ih (n + 1) (g n) (fun m hm => h m (by omega)) (by rw [h5]; omega)
theorem f3_sum (ok : rok r) (ht : tgt r) : yfo (f3 r) 0 (stps r) (0, 0, 0) = (Sstk r (Spl r), (Smn r).toInt64, (Slo r).toInt64) := by
  have h14 := (roks ok).1
  have e0 := yfo3 (fun n (a : Int32) => a + yb ((Spl r).1 n = -1)) (fun n (a : Int64) => a + (r (16 + n)).toInt64) (fun n (a : Int64) => if (Int32.ofNat (Wf r n)).toInt64 ≤ a then a else (Int32.ofNat (Wf r n)).toInt64) (stps r) 0 0 0 0
  have e : yfo (f3 r) 0 (stps r) (0, 0, 0) = _ := e0
  rw [e]
  have e1 : yfo (fun n a => a + yb ((Spl r).1 n = -1)) 0 (stps r) (0 : Int32) = Sstk r (Spl r) := by
    rw [yfo_cnt, Sstk_nat ok, Spl_k ok]
    have := cnt_not (fun s => (Spl r).1 s = -1) (stps r)
    congr 1
    omega
  have e2 : yfo (fun n a => a + (r (16 + n)).toInt64) 0 (stps r) (0 : Int64) = (Smn r).toInt64 := f2_sum ok
  have hW : ∀ m, m < 0 + stps r → Wf r m ≤ 1260 := fun m hm => Wf_1260 ok ht (by omega)
  have e3 : yfo (fun n (a : Int64) => if (Int32.ofNat (Wf r n)).toInt64 ≤ a then a else (Int32.ofNat (Wf r n)).toInt64) 0 (stps r) (0 : Int64) = (Slo r).toInt64 := by
    have h1 := mx64 (fun s => Wf r s) (K := 1260) (by omega) (stps r) 0 0 hW rfl
    have h2 : mx (fun s => Wf r s) (stps r) ≤ 1260 := mx_le _ (fun t h => hW t (by omega))
    have h1 : yfo (fun n (a : Int64) => if (Int32.ofNat (Wf r n)).toInt64 ≤ a then a else (Int32.ofNat (Wf r n)).toInt64) 0 (stps r) (0 : Int64) = Int64.ofNat (mx (fun s => Wf r s) (0 + stps r)) := h1
    rw [h1, Nat.zero_add]
    unfold Slo
    rw [i64n (by omega)]
  rw [e1, e2, e3]
theorem o_dur {m w : Int32} (h : bet m 0 1500) (h2 : bet w 0 9) : ol (oDur r m w) = (Sdur r m w).toInt64 := by
  unfold oDur
  rw [if_pos ⟨h, h2⟩]
  rfl
/-- at a step's begin: cooks -/
theorem cooks_at (ok : rok r) (ht : tgt r) {s : Nat} (h : s < stps r) (hb : ¬ (Spl r).1 s = -1) : bet ((Spl r).1 s) 0 1500 ∧ ol (oDur r ((Spl r).1 s) 0) ≥ 0 ∧ ol (oDur r ((Spl r).1 s) 0) ≤ ol (oSet r 3) := by
  have h14 := (roks ok).1
  obtain ⟨h1, h2, h3, h4, h5⟩ := (end_of ok h).2 hb
  have hl := late ok ht h hb
  obtain ⟨q1, q2⟩ := bet_nat (x := (Spl r).1 s) (m := 4930) ⟨h2, h3⟩ (N := 4930) rfl (by omega)
  have hbt : bet ((Spl r).1 s) 0 1500 := by rw [q2]; exact ofN_bd (N := 1500) rfl (by omega) (by omega)
  have hc := Sbz_end ok h hb
  have hle : Sbz r (Spl r).1 (Spl r).2.1 ((Spl r).1 s) ≤ stps r := cnt_le _ _
  have h93 := (rokse ok).2.2.2.1
  obtain ⟨g1, g2⟩ := bet_nat (x := r 93) (m := 3) ⟨by grind, h93.2⟩ (N := 3) rfl (by omega)
  refine ⟨hbt, ?_⟩
  rw [o_dur hbt (by decide), o_set (w := 3) (ww := 3) rfl (by omega)]
  have e : Sdur r ((Spl r).1 s) 0 = Int32.ofNat (Sbz r (Spl r).1 (Spl r).2.1 ((Spl r).1 s)) := rfl
  have e93 : r (90 + 3) = Int32.ofNat (yx (r 93)) := g2
  rw [e, e93, ge_iff_le, show (0 : Int64) = (Int32.ofNat 0).toInt64 from rfl, w_le, w_le, ofN_leI (by omega) (by omega), ofN_leI (by omega) (by omega)]
  exact ⟨Nat.zero_le _, hc⟩
/-- at a step's begin: pans in use and being washed -/
theorem pans_at (ok : rok r) (ht : tgt r) {s : Nat} (h : s < stps r) (hb : ¬ (Spl r).1 s = -1) {w : Nat} (hw : 1 ≤ w ∧ w < 5) : ol (oDur r ((Spl r).1 s) (Int32.ofNat w)) + ol (oDur r ((Spl r).1 s) (Int32.ofNat w + 4)) ≤ ol (oPcs r (Int32.ofNat w - 1)) := by
  have h14 := (roks ok).1
  obtain ⟨hbt, -⟩ := cooks_at ok ht h hb
  have hc := Suw_end ok h hb (kd := w - 1) (by omega)
  have hle1 : Siu r (Spl r).1 (Spl r).2.1 (Int32.ofNat (w - 1)) ((Spl r).1 s) ≤ stps r := cnt_le _ _
  have hle2 : Swa r (Spl r).1 (Spl r).2.1 (Int32.ofNat (w - 1)) ((Spl r).1 s) ≤ stps r := cnt_le _ _
  obtain ⟨g1, g2⟩ := bet_nat (rokp ok (k := w - 1) (by omega)) (N := 4) rfl (by omega)
  have ew1 : Int32.ofNat w - 1 = Int32.ofNat (w - 1) := sub_le1 hw.1
  have ew4 : Int32.ofNat w + 4 = Int32.ofNat (w + 4) := ofN_add w 4
  have e5 : Int32.ofNat (w + 4) - 5 = Int32.ofNat (w - 1) := by
    have h1 : Int32.ofNat (w - 1) + Int32.ofNat 5 = Int32.ofNat (w + 4) := by rw [ofN_add]; congr 1; omega
    rw [← h1]
    have h2 : Int32.ofNat 5 = 5 := rfl
    rw [h2]
    grind
  rw [ew4, o_dur hbt (ofN_bd (N := 9) rfl (by omega) (by omega)), o_dur hbt (ofN_bd (N := 9) rfl (by omega) (by omega)), ew1, o_pcs (w := w - 1) rfl (by omega)]
  have e1 : Sdur r ((Spl r).1 s) (Int32.ofNat w) = Int32.ofNat (Siu r (Spl r).1 (Spl r).2.1 (Int32.ofNat (w - 1)) ((Spl r).1 s)) := by
    unfold Sdur
    rw [if_neg (by rw [oe (b := 0) (V := 0) rfl (by omega) (by omega)]; omega), if_neg (by rw [oe (b := 9) (V := 9) rfl (by omega) (by omega)]; omega), if_pos (ofN_lti (v := 5) (m := 5) rfl (by omega) (by omega)), ew1]
  have e2 : Sdur r ((Spl r).1 s) (Int32.ofNat (w + 4)) = Int32.ofNat (Swa r (Spl r).1 (Spl r).2.1 (Int32.ofNat (w - 1)) ((Spl r).1 s)) := by
    unfold Sdur
    rw [if_neg (by rw [oe (b := 0) (V := 0) rfl (by omega) (by omega)]; omega), if_neg (by rw [oe (b := 9) (V := 9) rfl (by omega) (by omega)]; omega), if_neg (ofN_nlti (v := 5) (m := 5) rfl (by omega) (by omega) (by omega)), e5]
  rw [e1, e2, g2, i64n (by omega), i64n (by omega), i64n (by omega), l_add, l_le (by omega) (by omega)]
  exact hc
/-- the order of beginnings -/
theorem ord_at (ok : rok r) {q : Nat} (hq : q < (Spl r).2.2.2) : ol (oBgn r (Int32.ofNat q)) = ((Spl r).2.2.1 q).toInt64 ∧ ∃ s, s < stps r ∧ (Spl r).2.2.1 q = Int32.ofNat s ∧ ¬ (Spl r).1 s = -1 := by
  have h14 := (roks ok).1
  have hk := Spl_kle ok
  obtain ⟨m, hP⟩ := Pin_Spl ok
  refine ⟨?_, hP.2.1 q hq⟩
  unfold oBgn
  rw [if_pos (show bet (Int32.ofNat q) 0 (Int32.ofNat (Spl r).2.2.2 - 1) from ?_), yx_ofN (by omega)]
  · rfl
  · rw [sub_le1 (by omega)]
    exact ⟨(ofN_bd (N := 14) rfl (by omega) (by omega)).1, (ofN_leI (by omega) (by omega)).mpr (by omega)⟩
theorem ord_mono (ok : rok r) {q q' s s' : Nat} (h : q ≤ q') (hq : q' < (Spl r).2.2.2) (e : (Spl r).2.2.1 q = Int32.ofNat s) (e' : (Spl r).2.2.1 q' = Int32.ofNat s') (hs0 : s < stps r) (hs1 : s' < stps r) : (Spl r).1 s ≤ (Spl r).1 s' := by
  have h14 := (roks ok).1
  have := Ord_Spl ok q q' h hq
  rw [e, e', yx_ofN (by omega), yx_ofN (by omega)] at this
  exact this
theorem done_all (ok : rok r) : Sdn r (Spl r).1 (Spl r).2.1 (Swh r (Spl r)) = (Spl r).2.2.2 := by
  rw [Spl_k ok]
  exact cnt_congr _ _ _ (fun s hs0 => ⟨fun z => z.1, fun z => ⟨z, takes_ge hs0⟩⟩)
end STF
