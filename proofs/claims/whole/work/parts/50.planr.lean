/-! the reference's plan -/
section CG
variable {r b e b' e' : yRow} {m : Int32}
theorem Sbz_cg (hb : ∀ s, s < stps r → b s = b' s) (he : ∀ s, s < stps r → e s = e' s) : Sbz r b e m = Sbz r b' e' m := cnt_congr _ _ _ (fun s hs0 => by unfold on; rw [hb s hs0, he s hs0])
theorem Siu_cg (hb : ∀ s, s < stps r → b s = b' s) (he : ∀ s, s < stps r → e s = e' s) {kd : Int32} : Siu r b e kd m = Siu r b' e' kd m := cnt_congr _ _ _ (fun s hs0 => by unfold on; rw [hb s hs0, he s hs0])
theorem Swa_cg (hb : ∀ s, s < stps r → b s = b' s) (he : ∀ s, s < stps r → e s = e' s) {kd : Int32} : Swa r b e kd m = Swa r b' e' kd m := cnt_congr _ _ _ (fun s hs0 => by unfold wet; rw [hb s hs0, he s hs0])
theorem Sdn_cg (hb : ∀ s, s < stps r → b s = b' s) (he : ∀ s, s < stps r → e s = e' s) : Sdn r b e m = Sdn r b' e' m := cnt_congr _ _ _ (fun s hs0 => by unfold dn; rw [hb s hs0, he s hs0])
theorem Scan_cg (hb : ∀ s, s < stps r → b s = b' s) (he : ∀ s, s < stps r → e s = e' s) {s : Nat} (hs0 : s < stps r) : Scan r b e s m ↔ Scan r b' e' s m := by
  unfold Scan
  rw [Sbz_cg hb he, Siu_cg hb he, Swa_cg hb he, hb s hs0]
  have h : (∀ t, t < stps r → nd r s t → dn b e t m) ↔ (∀ t, t < stps r → nd r s t → dn b' e' t m) := by
    constructor
    · intro h t h1 h2
      have := h t h1 h2
      unfold dn at this ⊢
      rw [← hb t h1, ← he t h1]
      exact this
    · intro h t h1 h2
      have := h t h1 h2
      unfold dn at this ⊢
      rw [hb t h1, he t h1]
      exact this
  rw [h]
theorem Snx_cg (hb : ∀ s, s < stps r → b s = b' s) (he : ∀ s, s < stps r → e s = e' s) : Snx r b e m = Snx r b' e' m := by
  refine yfo_congr _ _ _ (fun s a _ h2 => ?_)
  have h := Scan_cg (m := m) hb he (show s < stps r by omega)
  unfold Snxf
  by_cases h1 : Scan r b e s m ∧ (a = -1 ∨ ¬ (Srk r s ≤ Srk r (yx a)))
  · rw [if_pos h1, if_pos ⟨h.mp h1.1, h1.2⟩]
  · rw [if_neg h1, if_neg (fun z => h1 ⟨h.mpr z.1, z.2⟩)]
theorem Slt_cg (hb : ∀ s, s < stps r → b s = b' s) (he : ∀ s, s < stps r → e s = e' s) : Slt r b e m = Slt r b' e' m := by
  refine yfo_congr _ _ _ (fun s a _ h2 => ?_)
  unfold Sltf
  rw [hb s (by omega), he s (by omega)]
end CG
def RS (M0 M : yM) (r : yRow) (st : yPl) : Prop := (∀ a, a ≠ 190 → (a < 197 ∨ 200 < a) → M a = M0 a) ∧ (∀ j, j ≠ 11 → M 190 j = M0 190 j) ∧ M 190 11 = Int32.ofNat st.2.2.2 ∧ (∀ s, s < stps r → M 197 s = st.1 s ∧ M 198 s = st.2.1 s) ∧ (∀ q, q < st.2.2.2 → M 199 q = st.2.2.1 q)
theorem RS_bg {M0 M : yM} {r : yRow} {st : yPl} (h : RS M0 M r st) {m : Int32} {s : Nat} : RS M0 (yU (yU (yU (yU M 197 s m) 198 s (m + r (16 + s))) 199 st.2.2.2 (Int32.ofNat s)) 190 11 (Int32.ofNat (st.2.2.2 + 1))) r (bg r m s st) ∧ (yU (yU (yU (yU M 197 s m) 198 s (m + r (16 + s))) 199 st.2.2.2 (Int32.ofNat s)) 190 11 (Int32.ofNat (st.2.2.2 + 1))) 200 = M 200 := by
  obtain ⟨h1, h2, h3, h4, h5⟩ := h
  refine ⟨⟨fun a ha hb => ?_, fun j hj => ?_, ?_, fun t ht => ⟨?_, ?_⟩, fun q hq => ?_⟩, ?_⟩
  · rw [yU_ne ha, yU_ne (by omega), yU_ne (by omega), yU_ne (by omega), h1 a ha hb]
  · rw [yU_at, upd_eq, if_neg hj, yU_ne (by omega), yU_ne (by omega), yU_ne (by omega), h2 j hj]
  · rw [yU_at, upd_eq, if_pos rfl]; rfl
  · rw [yU_ne (by omega), yU_ne (by omega), yU_ne (by omega), yU_at]
    show upd (M 197) s m t = upd st.1 s m t
    rw [upd_eq, upd_eq, (h4 t ht).1]
  · rw [yU_ne (by omega), yU_ne (by omega), yU_at, yU_ne (by omega)]
    show upd (M 198) s (m + r (16 + s)) t = upd st.2.1 s (m + r (16 + s)) t
    rw [upd_eq, upd_eq, (h4 t ht).2]
  · have hq : q < st.2.2.2 + 1 := hq
    rw [yU_ne (by omega), yU_at, yU_ne (by omega), yU_ne (by omega)]
    show upd (M 199) st.2.2.2 (Int32.ofNat s) q = upd st.2.2.1 st.2.2.2 (Int32.ofNat s) q
    rw [upd_eq, upd_eq]
    by_cases e : q = st.2.2.2
    · rw [if_pos e, if_pos e]
    · rw [if_neg e, if_neg e, h5 q (by omega)]
  · rw [yU_ne (by omega), yU_ne (by omega), yU_ne (by omega), yU_ne (by omega)]
section PLANR2
variable {M0 : yM} {rr : Nat} {r : yRow}
theorem RS_nx {M : yM} {st : yPl} (h : RS M0 M r st) {m : Int32} : Snx r (M 197) (M 198) m = Snx r st.1 st.2.1 m := Snx_cg (fun s hs0 => (h.2.2.2.1 s hs0).1) (fun s hs0 => (h.2.2.2.1 s hs0).2)
theorem RS_lt {M : yM} {st : yPl} (h : RS M0 M r st) {m : Int32} : Slt r (M 197) (M 198) m = Slt r st.1 st.2.1 m := Slt_cg (fun s hs0 => (h.2.2.2.1 s hs0).1) (fun s hs0 => (h.2.2.2.1 s hs0).2)
theorem RS_row {M : yM} {st : yPl} (hr : yR rr) (h : RS M0 M r st) : M rr = M0 rr := h.1 rr (yR_ne hr (by omega)) (by
  have : ∀ r ∈ ([191, 192, 193] : List Nat), 191 ≤ r ∧ r ≤ 193 := by decide
  have := this rr hr
  omega)
theorem r52 (hr : yR rr) (hrr : M0 rr = r) (ok : rok r) {m : Int32} {j : Nat} (hj : j ≤ 29) : ∀ f st M, Pin r m j st → RS M0 M r st → (∀ s, s < stps r → M 200 s = Int32.ofNat (Wf r s)) → stps r - st.2.2.2 ≤ f → ∃ o3 M', yL (yX 143 40 [some (.ref 190), some (.ref rr), some (.int (Slt r (Sin r m f st).1 (Sin r m f st).2.1 m)), o3] [] M' 0 0) (yX 143 52 [some (.ref 190), some (.ref rr), some (.int m), some (.int (Snx r st.1 st.2.1 m))] [] M 0 0) ∧ RS M0 M' r (Sin r m f st) ∧ (∀ s, s < stps r → M' 200 s = Int32.ofNat (Wf r s)) := by
  obtain ⟨s1, s2⟩ := roks ok
  have stop : ∀ st M, RS M0 M r st → Snx r st.1 st.2.1 m = -1 → yL (yX 143 40 [some (.ref 190), some (.ref rr), some (.int (Slt r st.1 st.2.1 m)), some (.int (Snx r st.1 st.2.1 m))] [] M 0 0) (yX 143 52 [some (.ref 190), some (.ref rr), some (.int m), some (.int (Snx r st.1 st.2.1 m))] [] M 0 0) := by
    intro st M hS h1
    have hM := (RS_row hr hS).trans hrr
    refine yL.fr (e143_52 hr) ?_
    rw [if_pos h1, c142 hr (by rw [hM]; exact ok), yCi_I, hM, RS_lt hS]
  intro f
  induction f with
  | zero =>
    intro st M hP hS hw hk
    have h1 := Sin_end ok hj 0 st hP hk
    exact ⟨_, M, stop st M hS h1, hS, hw⟩
  | succ f ih =>
    intro st M hP hS hw hk
    by_cases h1 : Snx r st.1 st.2.1 m = -1
    · have e : Sin r m (f + 1) st = st := if_pos h1
      rw [e]
      exact ⟨_, M, stop st M hS h1, hS, hw⟩
    · obtain ⟨s, h2, h3, h4⟩ := (Snx_can (r := r) (b := st.1) (e := st.2.1) (m := m)).resolve_left h1
      have e : Sin r m (f + 1) st = Sin r m f (bg r m s st) := by
        show (if Snx r st.1 st.2.1 m = -1 then st else Sin r m f (bg r m (yx (Snx r st.1 st.2.1 m)) st)) = _
        rw [if_neg h1, h3, yx_ofN (by omega)]
      rw [e]
      have hP' := Pin_bg ok hP h2 h4 hj
      obtain ⟨hS', hw200⟩ := RS_bg hS (m := m) (s := s)
      have hkl : st.2.2.2 < 14 := by
        have := Pin_kle hP'
        have : st.2.2.2 + 1 ≤ stps r := this
        omega
      obtain ⟨o3, M', a1, a2, a3⟩ := ih (bg r m s st) _ hP' hS' (fun s hs0 => by rw [hw200]; exact hw s hs0) (by show stps r - (st.2.2.2 + 1) ≤ f; omega)
      refine ⟨o3, M', fun q hq => (e143_52 hr) q ?_, a2, a3⟩
      have h9 := a1 q hq
      have hM := (RS_row hr hS).trans hrr
      obtain ⟨g1, g2⟩ := rofs (c := 16) (n := s) (v := 16) (by omega) rfl
      have hy : yinB (Int32.ofNat s) 14 = true := yin_ofN (by omega) (by omega)
      have hne1 : rr ≠ 197 := yR_ne hr (by omega)
      rw [h3]
      rw [if_neg (m1_ofN (by omega)), if_pos hy, yLet_eq, if_pos g1, if_pos hy, yLet_eq, g2, yx_ofN (by omega), yU_ne hne1, hM]
      have hk11 : (yU (yU M 197 s m) 198 s (m + r (16 + s))) 190 11 = Int32.ofNat st.2.2.2 := by
        rw [yU_ne (by omega), yU_ne (by omega)]
        exact hS.2.2.1
      rw [hk11, if_pos (yin_ofN hkl (by omega)), yLet_eq, yx_ofN (by omega)]
      have hk12 : (yU (yU (yU M 197 s m) 198 s (m + r (16 + s))) 199 st.2.2.2 (Int32.ofNat s)) 190 11 = Int32.ofNat st.2.2.2 := by
        rw [yU_ne (by omega)]
        exact hk11
      rw [hk12, yLet_eq, ofN_succ]
      have hM2 := (RS_row hr hS').trans hrr
      rw [c141 hr (by rw [hM2]; exact ok) (by rw [hM2, hw200]; exact hw), yCi_I, hM2, RS_nx hS']
      exact h9
theorem r40 (hr : yR rr) (hrr : M0 rr = r) (ok : rok r) : ∀ f m j st M, f + j ≤ 29 → Pin r m j st → RS M0 M r st → (∀ s, s < stps r → M 200 s = Int32.ofNat (Wf r s)) → Phi r st.1 st.2.1 m + 1 ≤ f → ¬ m = -1 → ∀ o3, ∃ M', yX 143 40 [some (.ref 190), some (.ref rr), some (.int m), o3] [] M 0 0 = yV M' ∧ RS M0 M' r (Sou r f m st) := by
  obtain ⟨s1, s2⟩ := roks ok
  intro f
  induction f with
  | zero => intro m j st M _ _ _ _ h; omega
  | succ f ih =>
    intro m j st M hfj hP hS hw hPhi hm o3
    have hj : j ≤ 29 := by omega
    have hM := (RS_row hr hS).trans hrr
    obtain ⟨o', M', a1, a2, a3⟩ := r52 hr hrr ok hj (stps r) st M hP hS hw (by omega)
    have hP' := Pin_Sin ok hj (stps r) st hP
    have hPe := Phi_Sin ok hj (stps r) st hP
    have first : ∀ q, yX 143 40 [some (.ref 190), some (.ref rr), some (.int (Slt r (Sin r m (stps r) st).1 (Sin r m (stps r) st).2.1 m)), o'] [] M' 0 0 = some q → yX 143 40 [some (.ref 190), some (.ref rr), some (.int m), o3] [] M 0 0 = some q := by
      intro q hq
      refine (e143_40 hr) q ?_
      rw [if_neg hm, c141 hr (by rw [hM]; exact ok) (by rw [hM]; exact hw), yCi_I, hM, RS_nx hS]
      exact a1 q hq
    show ∃ M', _ ∧ RS M0 M' r (if Slt r (Sin r m (stps r) st).1 (Sin r m (stps r) st).2.1 m = -1 then Sin r m (stps r) st else Sou r f (Slt r (Sin r m (stps r) st).1 (Sin r m (stps r) st).2.1 m) (Sin r m (stps r) st))
    by_cases hv : Slt r (Sin r m (stps r) st).1 (Sin r m (stps r) st).2.1 m = -1
    · rw [if_pos hv]
      refine ⟨M', first _ ?_, a2⟩
      exact yL.V (e143_40 hr) (if_pos hv)
    · rw [if_neg hv]
      obtain ⟨hP2, hlt⟩ := Pin_next ok hP' (by omega) hv
      have hPl := Phi_next ok hP' hj hv
      obtain ⟨M2, b1, b2⟩ := ih _ (j + 1) (Sin r m (stps r) st) M' (by omega) hP2 a2 a3 (by omega) hv o'
      exact ⟨M2, first _ b1, b2⟩
theorem c143 {M : yM} (hr : yR rr) (ok : rok (M rr)) (ha : acy (M rr)) : ∃ M', yX 143 0 [some (.ref 190), some (.ref rr), none, none] [] M 0 0 = yV M' ∧ RS M M' (M rr) (Spl (M rr)) := by
  obtain ⟨s1, s2⟩ := roks ok
  obtain ⟨r, hrr⟩ : ∃ r, r = M rr := ⟨_, rfl⟩
  have hne1 : rr ≠ 190 := yR_ne hr (by omega)
  have hne2 : rr ≠ 197 := yR_ne hr (by omega)
  have hne3 : rr ≠ 198 := yR_ne hr (by omega)
  have hne4 : rr ≠ 200 := yR_ne hr (by omega)
  rw [← hrr] at ok ha s1 s2 ⊢
  have hMI : ∀ fb fe : yRow, (yUa (yUa (yU M 190 11 0) 197 fb) 198 fe) rr = r := fun fb fe => by rw [yUa_ne hne3, yUa_ne hne2, yU_ne hne1, hrr]
  have fin : ∀ (fb fe : yRow) (o3 : Option Value), (∀ s, s < 14 → fb s = -1 ∧ fe s = -1) → ∃ M', yX 143 7 [some (.ref 190), some (.ref rr), some (.int (Int32.ofNat 14)), o3] [] (yUa (yUa (yU M 190 11 0) 197 fb) 198 fe) 0 0 = yV M' ∧ RS M M' r (Spl r) := by
    intro fb fe o3 hf
    have hMr := hMI fb fe
    obtain ⟨w, b1, b2⟩ := c132 (M := yUa (yUa (yU M 190 11 0) 197 fb) 198 fe) hr (by rw [hMr]; exact ok) (by rw [hMr]; exact ha)
    rw [hMr] at b2
    have hRS : RS M (yUa (yUa (yUa (yU M 190 11 0) 197 fb) 198 fe) 200 w) r st0 := by
      refine ⟨fun a h1 h2 => ?_, fun j hj => ?_, ?_, fun s hs0 => ⟨?_, ?_⟩, fun q hq => absurd hq (Nat.not_lt_zero q)⟩
      · rw [yUa_ne (by omega), yUa_ne (by omega), yUa_ne (by omega), yU_ne h1]
      · rw [yUa_ne (by omega), yUa_ne (by omega), yUa_ne (by omega), yU_at, upd_eq, if_neg hj]
      · rw [yUa_ne (by omega), yUa_ne (by omega), yUa_ne (by omega), yU_at, upd_eq, if_pos rfl]; rfl
      · rw [yUa_ne (by omega), yUa_ne (by omega), yUa_at]; exact (hf s (by omega)).1
      · rw [yUa_ne (by omega), yUa_at]; exact (hf s (by omega)).2
    have hPhi := Phi_0 ok
    obtain ⟨M', c1, c2⟩ := r40 (M0 := M) hr hrr.symm ok 29 0 0 st0 (yUa (yUa (yUa (yU M 190 11 0) 197 fb) 198 fe) 200 w) (Nat.le_refl _) Pin_st0 hRS (fun s hs0 => by rw [yUa_at]; exact b2 s hs0) (by omega) (by decide) o3
    refine ⟨M', yL.V (e143_7 hr) ?_, c2⟩
    rw [if_neg (by decide +kernel), b1, yCv_V]
    exact c1
  have loop : ∀ d n (fb fe : yRow), n + d = 14 → yL (yX 143 7 [some (.ref 190), some (.ref rr), some (.int (Int32.ofNat 14)), none] [] (yUa (yUa (yU M 190 11 0) 197 (yfo (fun n f => upd f n (-1)) n d fb)) 198 (yfo (fun n f => upd f n (-1)) n d fe)) 0 0) (yX 143 7 [some (.ref 190), some (.ref rr), some (.int (Int32.ofNat n)), none] [] (yUa (yUa (yU M 190 11 0) 197 fb) 198 fe) 0 0) := by
    intro d
    induction d with
    | zero =>
      intro n fb fe h
      have h : n = 14 := h
      subst h
      exact yL.rf
    | succ d ih =>
      intro n fb fe h
      refine fun q hq => (e143_7 hr) q ?_
      have h2 := ih (n + 1) (upd fb n (-1)) (upd fe n (-1)) (by omega) q hq
      have hy : yinB (Int32.ofNat n) 14 = true := yin_ofN (by omega) (by omega)
      rw [if_pos (ofN_lti (v := 14) (m := 14) rfl (by omega) (by omega)), if_pos hy, yLet_eq, if_pos hy, yLet_eq, yx_ofN (by omega), ofN_succ]
      have e : yU (yU (yUa (yUa (yU M 190 11 0) 197 fb) 198 fe) 197 n (-1)) 198 n (-1) = yUa (yUa (yU M 190 11 0) 197 (upd fb n (-1))) 198 (upd fe n (-1)) := by
        funext a
        by_cases h1 : a = 198
        · subst h1
          rw [yU_at, yUa_at, yU_ne (by omega), yUa_at]
        · by_cases h2 : a = 197
          · subst h2
            rw [yU_ne h1, yU_at, yUa_ne h1, yUa_at, yUa_ne h1, yUa_at]
          · rw [yU_ne h1, yU_ne h2, yUa_ne h1, yUa_ne h2, yUa_ne h1, yUa_ne h2]
      rw [e]
      exact h2
  have hv : ∀ f : yRow, ∀ s, s < 14 → yfo (fun n f => upd f n (-1)) 0 14 f s = -1 := fun f s hs0 => by
    have h := yfo_upd (fun _ => (-1 : Int32)) 0 14 0 f s
    simp only [Nat.zero_add] at h
    rw [h, if_pos (by omega)]
  obtain ⟨M', d1, d2⟩ := fin (yfo (fun n f => upd f n (-1)) 0 14 (M 197)) (yfo (fun n f => upd f n (-1)) 0 14 (M 198)) none (fun s hs0 => ⟨hv _ s hs0, hv _ s hs0⟩)
  refine ⟨M', yL.V (e143 hr) ?_, d2⟩
  rw [yLet_eq]
  have e : yU M 190 11 0 = yUa (yUa (yU M 190 11 0) 197 (M 197)) 198 (M 198) := by
    funext a
    by_cases h1 : a = 198
    · subst h1
      rw [yUa_at, yU_ne (by omega)]
    · by_cases h2 : a = 197
      · subst h2
        rw [yUa_ne h1, yUa_at, yU_ne (by omega)]
      · rw [yUa_ne h1, yUa_ne h2]
  rw [e]
  exact yL.V (loop 14 0 (M 197) (M 198) (by omega)) d1
/-- the minutes that all takes, the steps that never begin -/
def Swh (r : yRow) (st : yPl) : Int32 := yfo (fun s a => imx a (st.2.1 s)) 0 (stps r) 0
def Sstk (r : yRow) (st : yPl) : Int32 := r 15 - Int32.ofNat st.2.2.2
theorem c144 {M : yM} (hr : yR rr) (ok : rok (M rr)) (ha : acy (M rr)) : ∃ M', yX 144 0 [some (.ref 190), some (.ref rr), none, none] [] M 0 0 = yI (Swh (M rr) (Spl (M rr))) M' ∧ RS M M' (M rr) (Spl (M rr)) := by
  obtain ⟨s1, s2⟩ := roks ok
  obtain ⟨M', h1, h2⟩ := c143 hr ok ha
  have hM := RS_row hr h2
  refine ⟨M', yL.I (e144 hr) ?_, h2⟩
  rw [h1, yCv_V]
  refine yloop (H := fun s a => yX 144 9 [some (.ref 190), some (.ref rr), some (.int a), some (.int (Int32.ofNat s))] [] M' 0 0) (f := fun s a => imx a ((Spl (M rr)).2.1 s)) (N := stps (M rr)) (res := fun a => (.inl (some (.int a)), M')) ?_ ?_ (stps (M rr)) 0 0 (by omega)
  · intro s a hs1
    have hy : yinB (Int32.ofNat s) 14 = true := yin_ofN (by omega) (by omega)
    refine yL.fr (e144_9 hr) ?_
    rw [hM, s2, if_pos ((ofN_lt (by omega) (by omega)).mpr hs1), if_pos hy, if_pos hy, yx_ofN (by omega), (h2.2.2.2.1 s hs1).2, ofN_succ, ← imx_le]
    split <;> rfl
  · intro a
    refine yL.I (e144_9 hr) ?_
    rw [hM, s2, if_neg (by rw [ofN_lt (by omega) (by omega)]; omega)]
theorem c145 {M : yM} (hr : yR rr) (ok : rok (M rr)) (ha : acy (M rr)) : ∃ M', yX 145 0 [some (.ref 190), some (.ref rr)] [] M 0 0 = yI (Sstk (M rr) (Spl (M rr))) M' ∧ RS M M' (M rr) (Spl (M rr)) := by
  obtain ⟨M', h1, h2⟩ := c143 hr ok ha
  have hM := RS_row hr h2
  refine ⟨M', yL.I (e145 hr) ?_, h2⟩
  rw [h1, yCv_V, hM, h2.2.2.1]
  rfl
end PLANR2
