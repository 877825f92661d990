/-! the longest ways, in the code -/
theorem yUa_yUa (M : yM) (a : Nat) (f g : Nat → Int32) : yUa (yUa M a f) a g = yUa M a g := by
  funext b
  unfold yUa
  by_cases h : b = a
  · rw [if_pos h, if_pos h]
  · rw [if_neg h, if_neg h, if_neg h]
theorem rc_fr {M M' : yM} {c : Nat} {r : yRow} (h : rc M c r) (hf : ∀ a, c ≤ a → a ≤ c + 8 → M' a = M a) : rc M' c r := by
  obtain ⟨h0, h1, h2, h3, h4, h5, h6, h7⟩ := h
  have e0 := hf c (by omega) (by omega)
  have e1 := hf (c + 1) (by omega) (by omega)
  have e2 := hf (c + 2) (by omega) (by omega)
  have e3 := hf (c + 3) (by omega) (by omega)
  have e4 := hf (c + 4) (by omega) (by omega)
  have e5 := hf (c + 5) (by omega) (by omega)
  have e6 := hf (c + 6) (by omega) (by omega)
  have e7 := hf (c + 7) (by omega) (by omega)
  have e8 := hf (c + 8) (by omega) (by omega)
  unfold rc
  rw [e0, e1, e2, e3, e4, e5, e6, e7, e8]
  exact ⟨h0, h1, h2, h3, h4, h5, h6, h7⟩
section WAYC
variable {M : yM}
/-- the longest of all -/
def Slo (r : yRow) : Int32 := Int32.ofNat (mx (fun s => Wf r s) (stps r))
theorem imx_le (a b : Int32) : (if b ≤ a then a else b) = imx a b := by
  unfold imx
  by_cases h : a < b
  · rw [if_pos h, if_neg (by grind)]
  · rw [if_neg h, if_pos (by grind)]
theorem lo_fold {r : yRow} (ok : rok r) {w : yRow} (hw : ∀ s, s < stps r → w s = Int32.ofNat (Wf r s)) : yfo (fun s a => imx a (w s)) 0 (stps r) 0 = Slo r := by
  have key : ∀ n, n ≤ stps r → yfo (fun s a => imx a (w s)) 0 n 0 = Int32.ofNat (mx (fun s => Wf r s) n) := by
    intro n
    induction n with
    | zero => intro _; rfl
    | succ n ih =>
      intro hn
      have h1 := Wf_le ok (show n < stps r by omega)
      have h2 : mx (fun s => Wf r s) n ≤ 2100 := mx_le _ (fun t ht => Wf_le ok (by omega))
      rw [yfo_s, ih (by omega), Nat.zero_add, hw n (by omega), imx_ofN (by omega) (by omega)]
      rfl
  exact key _ (Nat.le_refl _)
-- the class
theorem c49 {p : Nat} (hp : yP p) {r : yRow} (h : rc M (p + 1) r) (ok : rok r) {w : yRow} {s : Nat} (hs0 : s < stps r) : yX 49 0 [some (.ref p), some (.int (Int32.ofNat s)), none] [] (yUa M (p + 12) w) 0 0 = yV (yUa M (p + 12) (Clw r s w)) := by
  obtain ⟨s1, s2⟩ := roks ok
  have hM : ∀ w a, a ≠ p + 12 → (yUa M (p + 12) w) a = M a := fun w a ha => yUa_ne ha
  refine yL.V (e49 hp) ?_
  refine yloop (H := fun t w => yX 49 2 [some (.ref p), some (.int (Int32.ofNat s)), some (.int (Int32.ofNat t))] [] (yUa M (p + 12) w) 0 0) (f := fun t w => if nd r s t then upd w t (imx (w t) (r (16 + t) + w s)) else w) (N := stps r) (res := fun w => (.inl none, yUa M (p + 12) w)) ?_ ?_ (stps r) 0 w (by omega)
  · intro t w ht
    have hy : yinB (Int32.ofNat t) 14 = true := yin_ofN (by omega) (by omega)
    have hy2 : yinB (Int32.ofNat s) 14 = true := yin_ofN (by omega) (by omega)
    have e1 := (h.2.2.2.2.2.1 s hs0).2.2.2.2
    have e2 := (h.2.2.2.2.2.1 t ht).1
    refine yL.fr (e49_2 hp) ?_
    rw [hM w (p + 1) (by omega), h.2.1, s2, if_pos ((ofN_lt (by omega) (by omega)).mpr ht), if_pos hy2, hM w (p + 1 + 6) (by omega), yx_ofN (by omega), e1, c99, yCi_I]
    simp only [yb_0]
    by_cases h1 : nd r s t
    · rw [if_neg (not_not_intro h1), if_pos hy, if_pos hy, if_pos hy2, if_pos hy, yLet_eq, yUa_yU, yUa_at, hM w (p + 1 + 2) (by omega), yx_ofN (by omega), e2, ofN_succ, if_pos h1]
      rfl
    · rw [if_pos h1, ofN_succ, if_neg h1]
  · intro w
    refine yL.V (e49_2 hp) ?_
    rw [hM w (p + 1) (by omega), h.2.1, s2, if_neg (by rw [ofN_lt (by omega) (by omega)]; omega)]
theorem c48 {p : Nat} (hp : yP p) {r : yRow} (h : rc M (p + 1) r) (ok : rok r) (ha : acy r) : ∃ w, yX 48 0 [some (.ref p), none, none] [] M 0 0 = yV (yUa M (p + 12) w) ∧ ∀ s, s < stps r → w s = Int32.ofNat (Wf r s) := by
  obtain ⟨s1, s2⟩ := roks ok
  have hM : ∀ w a, a ≠ p + 12 → (yUa M (p + 12) w) a = M a := fun w a ha => yUa_ne ha
  have middle : ∀ d s (x1 : Int32) (w : yRow), s + d = stps r → yL (yX 48 20 [some (.ref p), some (.int (x1 + 1)), some (.int (Int32.ofNat (stps r)))] [] (yUa M (p + 12) (yfo (fun s w => Clw r s w) s d w)) 0 0) (yX 48 33 [some (.ref p), some (.int x1), some (.int (Int32.ofNat s))] [] (yUa M (p + 12) w) 0 0) := by
    intro d
    induction d with
    | zero =>
      intro s x1 w hh
      have ht : s = stps r := hh
      subst ht
      refine yL.fr (e48_33 hp) ?_
      rw [hM w (p + 1) (by omega), h.2.1, s2, if_neg (by rw [ofN_lt (by omega) (by omega)]; omega)]
      rfl
    | succ d ih =>
      intro s x1 w hh
      refine fun q hq => (e48_33 hp) q ?_
      rw [hM w (p + 1) (by omega), h.2.1, s2, if_pos ((ofN_lt (by omega) (by omega)).mpr (by omega)), c49 hp h ok (by omega), yCv_V, ofN_succ]
      exact ih (s + 1) x1 _ (by omega) q hq
  have outer : ∀ d j (w : yRow) (o : Option Value), j < 100 → d = stps r - j → yX 48 20 [some (.ref p), some (.int (Int32.ofNat j)), o] [] (yUa M (p + 12) w) 0 0 = yV (yUa M (p + 12) (yfo (fun _ w => Crd r w) j d w)) := by
    intro d
    induction d with
    | zero =>
      intro j w o hj hh
      refine yL.V (e48_20 hp) ?_
      rw [hM w (p + 1) (by omega), h.2.1, s2, if_neg (by rw [ofN_lt (by omega) (by omega)]; omega)]
      rfl
    | succ d ih =>
      intro j w o hj hh
      refine yL.V (e48_20 hp) ?_
      rw [hM w (p + 1) (by omega), h.2.1, s2, if_pos ((ofN_lt (by omega) (by omega)).mpr (by omega))]
      refine yL.V (middle (stps r) 0 (Int32.ofNat j) w (by omega)) ?_
      rw [ofN_succ]
      exact ih (j + 1) _ _ (by omega) (by omega)
  refine ⟨Cwy r (ycp (M (p + 1 + 2)) (M (p + 12)) 14), ?_, ?_⟩
  · refine yL.V (e48 hp) ?_
    rw [yLet_eq]
    exact outer (stps r - 1) 1 _ _ (by omega) rfl
  · refine Cwy_ok ok ha (fun s hs0 => ?_)
    unfold ycp
    rw [if_pos (by omega)]
    exact (h.2.2.2.2.2.1 s hs0).1
theorem c40 {p : Nat} (hp : yP p) {r : yRow} (h : rc M (p + 1) r) (ok : rok r) (ha : acy r) : ∃ w, yX 40 0 [some (.ref p), none, none] [] M 0 0 = yI (Slo r) (yUa M (p + 12) w) := by
  obtain ⟨s1, s2⟩ := roks ok
  obtain ⟨w, h1, h2⟩ := c48 hp h ok ha
  have hM : ∀ w a, a ≠ p + 12 → (yUa M (p + 12) w) a = M a := fun w a ha => yUa_ne ha
  refine ⟨w, yL.I (e40 hp) ?_⟩
  rw [h1, yCv_V, ← lo_fold ok h2]
  refine yloop (H := fun s a => yX 40 8 [some (.ref p), some (.int a), some (.int (Int32.ofNat s))] [] (yUa M (p + 12) w) 0 0) (f := fun s a => imx a (w s)) (N := stps r) (res := fun a => (.inl (some (.int a)), yUa M (p + 12) w)) ?_ ?_ (stps r) 0 0 (by omega)
  · intro s a hs1
    have hy : yinB (Int32.ofNat s) 14 = true := yin_ofN (by omega) (by omega)
    refine yL.fr (e40_8 hp) ?_
    rw [hM w (p + 1) (by omega), h.2.1, s2, if_pos ((ofN_lt (by omega) (by omega)).mpr hs1), if_pos hy, yUa_at, yx_ofN (by omega), ofN_succ]
    rfl
  · intro a
    refine yL.I (e40_8 hp) ?_
    rw [hM w (p + 1) (by omega), h.2.1, s2, if_neg (by rw [ofN_lt (by omega) (by omega)]; omega)]
end WAYC
