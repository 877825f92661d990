/-! the reference's plan -/
section CG
variable {r b e b' e' : yRow} {m : Int32}
theorem Sbz_cg (hb : ∀ s, s < stps r → b s = b' s) (he : ∀ s, s < stps r → e s = e' s) : Sbz r b e m = Sbz r b' e' m := cnt_congr _ _ _ (fun s hs0 => by unfold on; rw [hb s hs0, he s hs0])
theorem Siu_cg (hb : ∀ s, s < stps r → b s = b' s) (he : ∀ s, s < stps r → e s = e' s) {kd : Int32} : Siu r b e kd m = Siu r b' e' kd m := cnt_congr _ _ _ (fun s hs0 => by unfold on; rw [hb s hs0, he s hs0])
theorem Swa_cg (hb : ∀ s, s < stps r → b s = b' s) (he : ∀ s, s < stps r → e s = e' s) {kd : Int32} : Swa r b e kd m = Swa r b' e' kd m := cnt_congr _ _ _ (fun s hs0 => by unfold wet; rw [hb s hs0, he s hs0])
theorem Sdn_cg (hb : ∀ s, s < stps r → b s = b' s) (he : ∀ s, s < stps r → e s = e' s) : Sdn r b e m = Sdn r b' e' m := cnt_congr _ _ _ (fun s hs0 => by unfold dn; rw [hb s hs0, he s hs0])
theorem Scan_cg (hb : ∀ s, s < stps r → b s = b' s) (he : ∀ s, s < stps r → e s = e' s) {s : Nat} (hs0 : s < stps r) : Scan r b e s m ↔ Scan r b' e' s m := by
  unfold Scan
  rw [Sbz_cg hb he, Siu_cg hb he, Swa_cg hb he, hb s hs0]
  have h : (∀ t, t < stps r → nd r s t → dn b e t m) ↔ (∀ t, t < stps r → nd r s t → dn b' e' t m) := by
    constructor
    · intro h t h1 h2
      have := h t h1 h2
      unfold dn at this ⊢
      rw [← hb t h1, ← he t h1]
      exact this
    · intro h t h1 h2
      have := h t h1 h2
      unfold dn at this ⊢
      rw [hb t h1, he t h1]
      exact this
  rw [h]
theorem Snx_cg (hb : ∀ s, s < stps r → b s = b' s) (he : ∀ s, s < stps r → e s = e' s) : Snx r b e m = Snx r b' e' m := by
  refine yfo_congr _ _ _ (fun s a _ h2 => ?_)
  have h := Scan_cg (m := m) hb he (show s < stps r by omega)
  unfold Snxf
  by_cases h1 : Scan r b e s m ∧ (a = -1 ∨ ¬ (Srk r s ≤ Srk r (yx a)))
  · rw [if_pos h1, if_pos ⟨h.mp h1.1, h1.2⟩]
  · rw [if_neg h1, if_neg (fun z => h1 ⟨h.mpr z.1, z.2⟩)]
theorem Slt_cg (hb : ∀ s, s < stps r → b s = b' s) (he : ∀ s, s < stps r → e s = e' s) : Slt r b e m = Slt r b' e' m := by
  refine yfo_congr _ _ _ (fun s a _ h2 => ?_)
  unfold Sltf
  rw [hb s (by omega), he s (by omega)]
end CG
def RS (M0 M : yM) (r : yRow) (st : yPl) : Prop := (∀ a, a ≠ 190 → (a < 197 ∨ 200 < a) → M a = M0 a) ∧ (∀ j, j ≠ 11 → M 190 j = M0 190 j) ∧ M 190 11 = Int32.ofNat st.2.2.2 ∧ (∀ s, s < stps r → M 197 s = st.1 s ∧ M 198 s = st.2.1 s) ∧ (∀ q, q < st.2.2.2 → M 199 q = st.2.2.1 q)
theorem RS_bg {M0 M : yM} {r : yRow} {st : yPl} (h : RS M0 M r st) {m : Int32} {s : Nat} : RS M0 (yU (yU (yU (yU M 197 s m) 198 s (m + r (16 + s))) 199 st.2.2.2 (Int32.ofNat s)) 190 11 (Int32.ofNat (st.2.2.2 + 1))) r (bg r m s st) ∧ (yU (yU (yU (yU M 197 s m) 198 s (m + r (16 + s))) 199 st.2.2.2 (Int32.ofNat s)) 190 11 (Int32.ofNat (st.2.2.2 + 1))) 200 = M 200 := by
  obtain ⟨h1, h2, h3, h4, h5⟩ := h
  refine ⟨⟨fun a ha hb => ?_, fun j hj => ?_, ?_, fun t ht => ⟨?_, ?_⟩, fun q hq => ?_⟩, ?_⟩
  · rw [yU_ne ha, yU_ne (by omega), yU_ne (by omega), yU_ne (by omega), h1 a ha hb]
  · rw [yU_at, upd_eq, if_neg hj, yU_ne (by omega), yU_ne (by omega), yU_ne (by omega), h2 j hj]
  · rw [yU_at, upd_eq, if_pos rfl]; rfl
  · rw [yU_ne (by omega), yU_ne (by omega), yU_ne (by omega), yU_at]
    show upd (M 197) s m t = upd st.1 s m t
    rw [upd_eq, upd_eq, (h4 t ht).1]
  · rw [yU_ne (by omega), yU_ne (by omega), yU_at, yU_ne (by omega)]
    show upd (M 198) s (m + r (16 + s)) t = upd st.2.1 s (m + r (16 + s)) t
    rw [upd_eq, upd_eq, (h4 t ht).2]
  · have hq : q < st.2.2.2 + 1 := hq
    rw [yU_ne (by omega), yU_at, yU_ne (by omega), yU_ne (by omega)]
    show upd (M 199) st.2.2.2 (Int32.ofNat s) q = upd st.2.2.1 st.2.2.2 (Int32.ofNat s) q
    rw [upd_eq, upd_eq]
    by_cases e : q = st.2.2.2
    · rw [if_pos e, if_pos e]
    · rw [if_neg e, if_neg e, h5 q (by omega)]
  · rw [yU_ne (by omega), yU_ne (by omega), yU_ne (by omega), yU_ne (by omega)]
section PLANR2
variable {M0 : yM} {rr : Nat} {r : yRow}
theorem RS_nx {M : yM} {st : yPl} (h : RS M0 M r st) {m : Int32} : Snx r (M 197) (M 198) m = Snx r st.1 st.2.1 m := Snx_cg (fun s hs0 => (h.2.2.2.1 s hs0).1) (fun s hs0 => (h.2.2.2.1 s hs0).2)
theorem RS_lt {M : yM} {st : yPl} (h : RS M0 M r st) {m : Int32} : Slt r (M 197) (M 198) m = Slt r st.1 st.2.1 m := Slt_cg (fun s hs0 => (h.2.2.2.1 s hs0).1) (fun s hs0 => (h.2.2.2.1 s hs0).2)
/-- the minutes that all takes, the steps that never begin -/
def Swh (r : yRow) (st : yPl) : Int32 := yfo (fun s a => imx a (st.2.1 s)) 0 (stps r) 0
def Sstk (r : yRow) (st : yPl) : Int32 := r 15 - Int32.ofNat st.2.2.2
end PLANR2
