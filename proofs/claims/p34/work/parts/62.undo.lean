/-! bounds of a row that no trial has touched; undo, save and restore -/
def tgt (r : yRow) : Prop := (∀ k, k < 4 → bet (r (86 + k)) 0 3) ∧ ∀ s, s < stps r → bet (r (16 + s)) 1 90
def Atg (A : yAb) : Prop := tgt A.1 ∧ (∀ u, u < A.2.1.1 → tgt (A.2.1.2 u)) ∧ ∀ s, s < 2 → A.2.2.1.1 s = true → tgt (A.2.2.1.2 s)
theorem tgt_cg {r r' : yRow} (h : ∀ k, k < 95 → r k = r' k) (ok : rok r) (ht : tgt r) : tgt r' := by
  have e : stps r' = stps r := by unfold stps; rw [h 15 (by omega)]
  have := (roks ok).1
  refine ⟨fun k hk => ?_, fun s hs0 => ?_⟩
  · rw [← h _ (by omega)]; exact ht.1 k hk
  · rw [e] at hs0
    rw [← h _ (by omega)]; exact ht.2 s hs0
theorem rj_ok {f g : yRow} (ok : rok f) : rok (rj f g) := rok_cg (rj_eq f g) ok
theorem rj_acy {f g : yRow} (ok : rok f) (ha : acy f) : acy (rj f g) := acy_cg (rj_eq f g) ok ha
theorem rj_tgt {f g : yRow} (ok : rok f) (ht : tgt f) : tgt (rj f g) := tgt_cg (rj_eq f g) ok ht
theorem rj_rc {M : yM} {c : Nat} {f g : yRow} (ok : rok f) (h : rc M c f) : rc M c (rj f g) := rc_cg (rj_eq f g) ok h
theorem rj_at {f g : yRow} {k : Nat} (h : k < 95) : rj f g k = f k := if_pos h
/-- a place that bears neither pieces nor minutes -/
theorem tgt_upd {r : yRow} {k : Nat} {x : Int32} (h : tgt r) (h15 : k ≠ 15) (hp : ∀ j, j < 4 → k = 86 + j → bet x 0 3) (hm : ∀ s, s < stps r → k = 16 + s → bet x 1 90) : tgt (upd r k x) := by
  refine ⟨fun j hj => ?_, fun s hs0 => ?_⟩
  · rw [upd_eq]
    by_cases e : 86 + j = k
    · rw [if_pos e]; exact hp j hj e.symm
    · rw [if_neg e]; exact h.1 j hj
  · rw [upd_stps h15] at hs0
    rw [upd_eq]
    by_cases e : 16 + s = k
    · rw [if_pos e]; exact hm s hs0 e.symm
    · rw [if_neg e]; exact h.2 s hs0
theorem prf_tgt {r : yRow} (ok : rok r) (h : tgt r) {act a b d : Int32} (hf : flt r act a b d = 0) : tgt (prfR r act a b d) := by
  have hm := (rokm ok).1
  have h14 := (roks ok).1
  unfold flt at hf
  unfold prfR
  by_cases a0 : act = 0
  · rw [if_pos a0] at hf ⊢
    by_cases q1 : bet a 1 50000
    · rw [if_pos q1] at hf
      by_cases q2 : r 0 < 12
      · obtain ⟨m1, m2, m3⟩ := rIng_many ok q2 a
        unfold rIng
        refine tgt_upd (tgt_upd h (by omega) (fun j hj e => by omega) (fun s hs0 e => ?_)) (by omega) (fun j hj e => by omega) (fun s hs0 e => by omega)
        omega
      · rw [if_neg q2] at hf; exact absurd hf (by decide)
    · rw [if_neg q1] at hf; exact absurd hf (by decide)
  · rw [if_neg a0] at hf ⊢
    by_cases a1 : act = 1
    · rw [if_pos a1] at hf ⊢
      by_cases q1 : bet a 1 90 ∧ bet b (-1) 3
      · rw [if_pos q1] at hf
        by_cases q2 : r 15 < 14
        · obtain ⟨m1, m2, m3⟩ := rStp_stps ok q2 a b d
          obtain ⟨n1, n2⟩ := rStp_at r a b d
          obtain ⟨n3, _⟩ := rStp_new m3 a b d
          refine ⟨fun j hj => ?_, fun s hs0 => ?_⟩
          · rw [n2 _ (by omega) (by omega) (by omega) (by omega) (by omega) (by omega)]; exact h.1 j hj
          · rw [m1] at hs0
            by_cases e : s = stps r
            · rw [e, n3]; exact q1.1
            · rw [n2 _ (by omega) (by omega) (by omega) (by omega) (by omega) (by omega)]; exact h.2 s (by omega)
        · rw [if_neg q2] at hf; exact absurd hf (by decide)
      · rw [if_neg q1] at hf; exact absurd hf (by decide)
    · rw [if_neg a1] at hf ⊢
      by_cases a2 : act = 2
      · rw [if_pos a2] at hf ⊢
        by_cases q1 : bet a 0 (r 15 - 1) ∧ bet b 0 (r 0 - 1)
        · obtain ⟨i1, i2⟩ := stp_ix ok q1.1
          exact tgt_upd h (by omega) (fun j hj e => by omega) (fun s hs0 e => by omega)
        · rw [if_neg q1] at hf; exact absurd hf (by decide)
      · rw [if_neg a2] at hf ⊢
        by_cases a3 : act = 3
        · rw [if_pos a3] at hf ⊢
          by_cases q1 : bet a 0 (r 15 - 1) ∧ bet b 0 (r 15 - 1)
          · obtain ⟨i1, i2⟩ := stp_ix ok q1.1
            exact tgt_upd h (by omega) (fun j hj e => by omega) (fun s hs0 e => by omega)
          · rw [if_neg q1] at hf; exact absurd hf (by decide)
        · rw [if_neg a3] at hf ⊢
          by_cases a4 : act = 4
          · rw [if_pos a4] at hf ⊢
            by_cases q1 : bet a 0 3
            · rw [if_pos q1] at hf
              by_cases q2 : bet b 0 3
              · obtain ⟨i1, i2⟩ := knd_ix q1
                exact tgt_upd h (by omega) (fun j hj e => q2) (fun s hs0 e => by omega)
              · rw [if_neg q2] at hf; exact absurd hf (by decide)
            · rw [if_neg q1] at hf; exact absurd hf (by decide)
          · rw [if_neg a4] at hf ⊢
            by_cases a5 : act = 5
            · rw [if_pos a5] at hf ⊢
              exact tgt_upd (tgt_upd h (by omega) (fun j hj e => by omega) (fun s hs0 e => by omega)) (by omega) (fun j hj e => by omega) (fun s hs0 e => by omega)
            · rw [if_neg a5] at hf ⊢
              by_cases a6 : act = 6
              · rw [if_pos a6] at hf ⊢
                exact tgt_upd h (by omega) (fun j hj e => by omega) (fun s hs0 e => by omega)
              · rw [if_neg a6] at hf ⊢
                by_cases a7 : act = 7
                · rw [if_pos a7] at hf ⊢
                  by_cases q1 : bet a 0 (r 0 - 1)
                  · obtain ⟨i1, i2⟩ := ing_ix ok q1
                    exact tgt_upd h (by omega) (fun j hj e => by omega) (fun s hs0 e => by omega)
                  · rw [if_neg q1] at hf; exact absurd hf (by decide)
                · rw [if_neg a7] at hf ⊢
                  by_cases q1 : bet a 0 (r 15 - 1)
                  · rw [if_pos q1] at hf
                    by_cases q2 : bet b 1 90
                    · obtain ⟨i1, i2⟩ := stp_ix ok q1
                      exact tgt_upd h (by omega) (fun j hj e => by omega) (fun s hs0 e => q2)
                    · rw [if_neg q2] at hf; exact absurd hf (by decide)
                  · rw [if_neg q1] at hf; exact absurd hf (by decide)
theorem nAct_tg {A : yAb} (hA : Aok A) (hT : Atg A) {act a b d : Int32} : Atg (nAct A act a b d) := by
  unfold nAct
  split
  · next hf =>
    refine ⟨prf_tgt hA.1 hT.1 hf, fun u hu => ?_, hT.2.2⟩
    show tgt (mpu A.2.1.1 A.2.1.2 A.1 u)
    have hu : u < min (A.2.1.1 + 1) 14 := hu
    unfold mpu
    by_cases hc : A.2.1.1 = 14
    · rw [if_pos hc]
      by_cases hu2 : u = 13
      · rw [if_pos hu2]; exact hT.1
      · rw [if_neg hu2]; exact hT.2.1 (u + 1) (by omega)
    · rw [if_neg hc]
      by_cases hu2 : u = A.2.1.1
      · rw [if_pos hu2]; exact hT.1
      · rw [if_neg hu2]; exact hT.2.1 u (by omega)
  · exact hT
-- undo
def oUnd (A : yAb) : yO := if A.2.1.1 = 0 then .inl 2 else .inr (Int32.ofNat (A.2.1.1 - 1))
def nUnd (A : yAb) : yAb := if A.2.1.1 = 0 then A else (rj (A.2.1.2 (A.2.1.1 - 1)) A.1, (A.2.1.1 - 1, A.2.1.2), A.2.2)
def oSav (A : yAb) (s : Int32) : yO := if bet s 0 1 then .inr (A.1 15) else .inl 0
def nSav (A : yAb) (s : Int32) : yAb := if bet s 0 1 then (A.1, A.2.1, ((fun t => if t = yx s then true else A.2.2.1.1 t), fun t => if t = yx s then A.1 else A.2.2.1.2 t), A.2.2.2) else A
def oRes (A : yAb) (s : Int32) : yO := if bet s 0 1 then if A.2.2.1.1 (yx s) = true then .inr (A.2.2.1.2 (yx s) 15) else .inl 2 else .inl 0
def nRes (A : yAb) (s : Int32) : yAb := if bet s 0 1 then if A.2.2.1.1 (yx s) = true then (rj (A.2.2.1.2 (yx s)) A.1, (0, A.2.1.2), A.2.2) else A else A
theorem nUnd_ok {A : yAb} (hA : Aok A) (hT : Atg A) : Aok (nUnd A) ∧ Atg (nUnd A) := by
  unfold nUnd
  split
  · exact ⟨hA, hT⟩
  · next h0 =>
    obtain ⟨h1, h2, h3, h4, h5, h6⟩ := hA
    obtain ⟨p1, p2⟩ := h4 (A.2.1.1 - 1) (by omega)
    refine ⟨⟨rj_ok p1, rj_acy p1 p2, ?_, fun u hu => h4 u ?_, h5, h6⟩, rj_tgt p1 (hT.2.1 _ (by omega)), fun u hu => hT.2.1 u ?_, hT.2.2⟩
    · show A.2.1.1 - 1 ≤ 14; omega
    · have hu : u < A.2.1.1 - 1 := hu; omega
    · have hu : u < A.2.1.1 - 1 := hu; omega
theorem nSav_ok {A : yAb} (hA : Aok A) (hT : Atg A) {s : Int32} : Aok (nSav A s) ∧ Atg (nSav A s) := by
  unfold nSav
  split
  · obtain ⟨h1, h2, h3, h4, h5, h6⟩ := hA
    refine ⟨⟨h1, h2, h3, h4, fun t ht hv => ?_, h6⟩, hT.1, hT.2.1, fun t ht hv => ?_⟩
    · show rok (if t = yx s then A.1 else A.2.2.1.2 t) ∧ acy (if t = yx s then A.1 else A.2.2.1.2 t)
      have hv : (if t = yx s then true else A.2.2.1.1 t) = true := hv
      by_cases e : t = yx s
      · rw [if_pos e]; exact ⟨h1, h2⟩
      · rw [if_neg e] at hv ⊢; exact h5 t ht hv
    · show tgt (if t = yx s then A.1 else A.2.2.1.2 t)
      have hv : (if t = yx s then true else A.2.2.1.1 t) = true := hv
      by_cases e : t = yx s
      · rw [if_pos e]; exact hT.1
      · rw [if_neg e] at hv ⊢; exact hT.2.2 t ht hv
  · exact ⟨hA, hT⟩
theorem slot_ix {s : Int32} (h : bet s 0 1) : yx s < 2 ∧ s = Int32.ofNat (yx s) := by
  obtain ⟨g1, g2⟩ := bet_nat h (N := 1) rfl (by omega)
  exact ⟨by omega, g2⟩
theorem nRes_ok {A : yAb} (hA : Aok A) (hT : Atg A) {s : Int32} : Aok (nRes A s) ∧ Atg (nRes A s) := by
  unfold nRes
  split
  · next q =>
    split
    · next hv =>
      obtain ⟨h1, h2, h3, h4, h5, h6⟩ := hA
      obtain ⟨i1, i2⟩ := slot_ix q
      obtain ⟨p1, p2⟩ := h5 _ i1 hv
      exact ⟨⟨rj_ok p1, rj_acy p1 p2, Nat.zero_le _, fun u hu => absurd hu (Nat.not_lt_zero u), h5, h6⟩, rj_tgt p1 (hT.2.2 _ i1 hv), fun u hu => absurd hu (Nat.not_lt_zero u), hT.2.2⟩
    · exact ⟨hA, hT⟩
  · exact ⟨hA, hT⟩
section UNDC
variable {M : yM} {A : yAb}
theorem c79 (h : RelC M A) (hA : Aok A) : CR (yX 79 0 [some (.ref 7)] [] M 0 0) M (oUnd A) (nUnd A) := by
  obtain ⟨r1, r2, r3, r4⟩ := id h
  have r2' := r2
  obtain ⟨x, x1, x2, x3, x4⟩ := r2'
  refine CR.of ?_ e79
  unfold oUnd nUnd
  by_cases h0 : A.2.1.1 = 0
  · rw [if_pos h0, if_pos h0, x3, h0, if_pos (by decide), c93_0]
    exact CR.th h rfl
  · have ok := (hA.2.2.2.1 (A.2.1.1 - 1) (by omega)).1
    have h14 := hA.2.2.1
    obtain ⟨M', p1, p2, p3, p4⟩ := c37 r2 hA.2.2.1 (by omega) ok
    have hn : ¬ Int32.ofNat A.2.1.1 ≤ 0 := by
      intro z
      have := (ofN_lt (n := 0) (m := A.2.1.1) (by omega) (by omega)).mpr (by omega)
      have e0 : Int32.ofNat 0 = 0 := rfl
      rw [e0] at this
      grind
    rw [if_neg h0, if_neg h0, x3, if_neg hn, c93_1, yCv_V, p1, yCi_I]
    exact ⟨M', rfl, ⟨rj_rc ok p3, p2, SlC_fr r3 (fun a b1 b2 => p4 a (by omega)), TxC_fr r4 (by rw [p4 8 (by omega)]) (p4 9 (by omega))⟩, fun a b1 => p4 a (by omega)⟩
theorem bool1 : vp_nar .boolean 1 = 1 := by decide +kernel
theorem c87 (h : RelC M A) (hA : Aok A) {s : Int32} : CR (yX 87 0 [some (.ref 7), some (.int s)] [] M 0 0) M (oSav A s) (nSav A s) := by
  obtain ⟨r1, r2, r3, r4⟩ := id h
  have ok := hA.1
  refine CR.of ?_ e87
  unfold oSav nSav
  rw [c97, yCi_I, c91]
  by_cases q : bet s 0 1
  · obtain ⟨i1, i2⟩ := slot_ix q
    have hy := yin_of (n := 2) ⟨i1, i2⟩ (by omega)
    obtain ⟨M2, a1, a2, a3⟩ := c2 (M := M) (yC_170 i1) yC11 (by omega) ok r1
    rw [if_pos q, if_pos q, if_pos q, yCv_V, if_pos hy, a1, yCv_V, if_pos hy, bool1, yLet_eq]
    have e11 : (yU M2 189 (yx s) 1) 11 1 = A.1 15 := by rw [yU_ne (by omega), a3 11 (by omega)]; exact r1.2.1
    rw [e11]
    refine ⟨_, rfl, ⟨rc_fr r1 (fun a b1 b2 => by rw [yU_ne (by omega), a3 a (by omega)]), MemC_fr r2 (fun a b1 b2 => by rw [yU_ne (by omega), a3 a (by omega)]), fun t ht => ?_, TxC_fr r4 (by rw [yU_ne (by omega), a3 8 (by omega)]) (by rw [yU_ne (by omega), a3 9 (by omega)])⟩, fun a b1 => by rw [yU_ne (by omega), a3 a (by omega)]⟩
    show (yU M2 189 (yx s) 1) 189 t = (if (if t = yx s then true else A.2.2.1.1 t) = true then 1 else 0) ∧ ((if t = yx s then true else A.2.2.1.1 t) = true → rc _ (171 + 9 * t) (if t = yx s then A.1 else A.2.2.1.2 t))
    by_cases e : t = yx s
    · rw [if_pos e, if_pos e, if_pos rfl, yU_at, upd_eq, if_pos e, e]
      exact ⟨rfl, fun _ => rc_fr a2 (fun a b1 b2 => yU_ne (by omega))⟩
    · rw [if_neg e, if_neg e, yU_at, upd_eq, if_neg e, a3 189 (by omega)]
      exact ⟨(r3 t ht).1, fun z => rc_fr ((r3 t ht).2 z) (fun a b1 b2 => by rw [yU_ne (by omega), a3 a (by omega)])⟩
  · rw [if_neg q, if_neg q, if_neg q]
    exact CR.th h rfl
theorem c88 (h : RelC M A) (hA : Aok A) {s : Int32} : CR (yX 88 0 [some (.ref 7), some (.int s)] [] M 0 0) M (oRes A s) (nRes A s) := by
  obtain ⟨r1, r2, r3, r4⟩ := id h
  refine CR.of ?_ e88
  unfold oRes nRes
  rw [c97, yCi_I, c91]
  by_cases q : bet s 0 1
  · obtain ⟨i1, i2⟩ := slot_ix q
    have hy := yin_of (n := 2) ⟨i1, i2⟩ (by omega)
    have e189 : M 189 (yx s) = yb (A.2.2.1.1 (yx s) = true) := (r3 _ i1).1
    rw [if_pos q, if_pos q, if_pos q, yCv_V, if_pos hy, e189, c93]
    by_cases hv : A.2.2.1.1 (yx s) = true
    · obtain ⟨ok, _⟩ := hA.2.2.2.2.1 _ i1 hv
      obtain ⟨M2, a1, a2, a3⟩ := c2 (M := M) yC11 (yC_170 i1) (by omega) ok ((r3 _ i1).2 hv)
      have k38 : yX 38 0 [some (.ref 42)] [] M2 0 0 = yV (yU M2 42 2 0) := yL.V e38 (by rw [yLet_eq])
      rw [if_pos hv, if_pos hv, if_pos hv, yCv_V, if_pos hy, a1, yCv_V, k38, yCv_V]
      have e11 : (yU M2 42 2 0) 11 1 = A.2.2.1.2 (yx s) 15 := by rw [yU_ne (by omega)]; exact a2.2.1
      rw [e11]
      obtain ⟨x, x1, x2, x3, x4⟩ := r2
      refine ⟨_, rfl, ⟨rj_rc ok (rc_fr a2 (fun a b1 b2 => yU_ne (by omega))), ⟨x, x1, ?_, ?_, fun u hu => absurd hu (Nat.not_lt_zero u)⟩, SlC_fr r3 (fun a b1 b2 => by rw [yU_ne (by omega), a3 a (by omega)]), TxC_fr r4 (by rw [yU_ne (by omega), a3 8 (by omega)]) (by rw [yU_ne (by omega), a3 9 (by omega)])⟩, fun a b1 => by rw [yU_ne (by omega), a3 a (by omega)]⟩
      · rw [yU_at, upd_eq, if_neg (by omega), a3 42 (by omega)]; exact x2
      · rw [yU_at, upd_eq, if_pos rfl]; rfl
    · rw [if_neg hv, if_neg hv, if_neg hv]
      exact CR.th h rfl
  · rw [if_neg q, if_neg q, if_neg q]
    exact CR.th h rfl
end UNDC
def cdU (_ : Nat) : Int32 := 1
section UNDR
variable {M : yM} {A : yAb}
theorem in190 {x : Int32} {n : Nat} (hx : x = Int32.ofNat n) (hn : n < 190) : yinB x 190 = true ∧ yx x = n := by
  rw [hx]
  exact ⟨yin_ofN hn (by omega), yx_ofN (by omega)⟩
theorem yfo_rj (g f : yRow) : yfo (fun n f => upd f (0 + n) (g n)) 0 95 f = rj g f := by
  funext k
  rw [yfo_upd g 0]
  unfold rj
  by_cases h : k < 95
  · rw [if_pos (by omega), if_pos h, Nat.sub_zero]
  · rw [if_neg (by omega), if_neg h]
end UNDR
