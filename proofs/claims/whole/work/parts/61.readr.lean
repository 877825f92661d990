/-! the reference's reads -/
theorem r108 {v l m : Int32} {L H : Int64} (hl : L = l.toInt64) (hh : H = m.toInt64) {M : yM} : yX 108 0 [some (.long v.toInt64), none, some (.long L), none, some (.long H), none] [] M 0 0 = yI (yb (bet v l m)) M := by
  rw [c108, hl, hh]
  congr 1
  exact yb_iff (by rw [w_le, w_le])
theorem w_6 : (6 : Int64) = (6 : Int32).toInt64 := by decide +kernel
theorem w_9 : (9 : Int64) = (9 : Int32).toInt64 := by decide +kernel
theorem w_4 : (4 : Int64) = (4 : Int32).toInt64 := by decide +kernel
theorem w_1500 : (1500 : Int64) = (1500 : Int32).toInt64 := by decide +kernel
section RDR
variable {M : yM} {A : yAb}
theorem RR.rdF (h : RelR M A) {M' : yM} {v : Int32} {cd : Nat → Int32} {o : yO} (ho : o = .inr v) (hf : ∀ a, a ≠ 190 → a ≠ 192 → a ≠ 193 → (a < 197 ∨ 200 < a) → M' a = M a) (h5 : M' 190 5 = M 190 5) (h14 : M' 190 14 = M 190 14) (h0 : M' 190 0 = 0) : RR (yI v M') M cd o A := ⟨v, M', rfl, by rw [ho]; exact h0, fun w z => by rw [ho] at z; exact Sum.inr.inj z, RelR_fr h hf h5 h14, fun a ha => hf a (by omega) (by omega) (by omega) (by omega)⟩
theorem RR.rd (h : RelR M A) {v : Int32} {cd : Nat → Int32} {o : yO} (ho : o = .inr v) : RR (yI v (yU M 190 0 0)) M cd o A := RR.rdF h ho (fun a b1 _ _ _ => yU_ne b1) (by rw [yU_at, upd_eq, if_neg (by omega)]) (by rw [yU_at, upd_eq, if_neg (by omega)]) (by rw [yU_at, upd_eq, if_pos rfl])
theorem RR.rdS (h : RelR M A) {M' : yM} {r : yRow} {st : yPl} (hS : RS (yU M 190 0 0) M' r st) {v : Int32} {cd : Nat → Int32} {o : yO} (ho : o = .inr v) : RR (yI v M') M cd o A := RR.rdF h ho (fun a b1 _ _ b4 => by rw [hS.1 a b1 b4, yU_ne b1]) (by rw [hS.2.1 5 (by omega), yU_at, upd_eq, if_neg (by omega)]) (by rw [hS.2.1 14 (by omega), yU_at, upd_eq, if_neg (by omega)]) (by rw [hS.2.1 0 (by omega), yU_at, upd_eq, if_pos rfl])
theorem RR.rdW (h : RelR M A) {w : yRow} {v : Int32} {cd : Nat → Int32} {o : yO} (ho : o = .inr v) : RR (yI v (yUa (yU M 190 0 0) 200 w)) M cd o A := RR.rdF h ho (fun a b1 _ _ b4 => by rw [yUa_ne (by omega), yU_ne b1]) (by rw [yUa_ne (by omega), yU_at, upd_eq, if_neg (by omega)]) (by rw [yUa_ne (by omega), yU_at, upd_eq, if_neg (by omega)]) (by rw [yUa_ne (by omega), yU_at, upd_eq, if_pos rfl])
theorem RR.th (h : RelR M A) {cd : Nat → Int32} {E : Nat} {o : yO} (ho : o = .inl E) {x b : Int32} (hx : cd E = x) : RR (yI b (yU M 190 0 x)) M cd o A := ho ▸ RR.no h hx
theorem RS_191 {M0 M1 : yM} {r : yRow} {st : yPl} (hS : RS M0 M1 r st) : M1 191 = M0 191 := hS.1 191 (by omega) (by omega)
theorem c176 {M : yM} (ok : rok (M 191)) (ha : acy (M 191)) {i : Int32} : ∃ M', yX 176 0 [some (.ref 190), some (.int i), none, none, none] [] M 0 0 = yI (Sfu (M 191) i) M' ∧ RS M M' (M 191) (Spl (M 191)) := by
  have h14 := (roks ok).1
  have h15 := (roks ok).2
  obtain ⟨M1, p1, p2⟩ := c143 yR191 ok ha
  have e191 := RS_191 p2
  have e15 : M1 191 15 = Int32.ofNat (stps (M 191)) := by rw [e191]; exact h15
  have key : ∀ d n a o4, n + d = stps (M 191) → yX 176 12 [some (.ref 190), some (.int i), some (.int a), some (.int (Int32.ofNat n)), o4] [] M1 0 0 = yI (yfo (Sfuf (M 191) i) n d a) M1 := by
    intro d
    induction d with
    | zero =>
      intro n a o4 hn
      refine yL.I e176_12 ?_
      rw [e15, if_neg (by rw [ofN_lt (by omega) (by omega)]; omega)]
      rfl
    | succ d ih =>
      intro n a o4 hn
      obtain ⟨g1, g2⟩ := rofs (c := 58) (n := n) (v := 58) (by omega) rfl
      have e197 := (p2.2.2.2.1 n (show n < stps (M 191) by omega)).1
      have ih53 : ∀ o4, yfo (Sfuf (M 191) i) n (d + 1) a = yfo (Sfuf (M 191) i) (n + 1) d a → yX 176 53 [some (.ref 190), some (.int i), some (.int a), some (.int (Int32.ofNat n)), o4] [] M1 0 0 = yI (yfo (Sfuf (M 191) i) n (d + 1) a) M1 := by
        intro o4 he
        refine yL.I e176_53 ?_
        rw [ofN_succ, he]
        exact ih (n + 1) a _ (by omega)
      have hy := yin_ofN (show n < 14 by omega) (by omega)
      refine yL.I e176_12 ?_
      rw [e15, if_pos (by rw [ofN_lt (by omega) (by omega)]; omega), if_pos g1, g2, e191, c110, yCi_I, if_pos hy, if_pos hy, if_pos hy, yx_ofN (show n < 2147483648 by omega), e197]
      simp only [yb_0]
      have hs1 : yfo (Sfuf (M 191) i) n (d + 1) a = yfo (Sfuf (M 191) i) (n + 1) d (Sfuf (M 191) i n a) := rfl
      by_cases hu : hs (M 191 (58 + n)) i
      · rw [if_neg (not_not_intro hu)]
        by_cases hb : (Spl (M 191)).1 n = -1
        · rw [if_pos hb]
          refine ih53 _ ?_
          rw [hs1]
          unfold Sfuf
          rw [if_neg (fun z => z.2.1 hb)]
        · rw [if_neg hb]
          by_cases q1 : a = -1
          · rw [if_pos q1, hs1]
            have : Sfuf (M 191) i n a = (Spl (M 191)).1 n := by unfold Sfuf; rw [if_pos ⟨hu, hb, Or.inl q1⟩]
            rw [this, ofN_succ]
            exact ih (n + 1) _ _ (by omega)
          · rw [if_neg q1]
            by_cases q2 : (Spl (M 191)).1 n < a
            · rw [if_pos q2, hs1]
              have : Sfuf (M 191) i n a = (Spl (M 191)).1 n := by unfold Sfuf; rw [if_pos ⟨hu, hb, Or.inr q2⟩]
              rw [this, ofN_succ]
              exact ih (n + 1) _ _ (by omega)
            · rw [if_neg q2, hs1]
              have : Sfuf (M 191) i n a = a := by unfold Sfuf; rw [if_neg (fun z => z.2.2.elim q1 q2)]
              rw [this, ofN_succ]
              exact ih (n + 1) _ _ (by omega)
      · rw [if_pos hu]
        refine ih53 _ ?_
        rw [hs1]
        unfold Sfuf
        rw [if_neg (fun z => hu z.1)]
  refine ⟨M1, yL.I e176 ?_, p2⟩
  rw [p1, yCv_V]
  exact key _ 0 (-1) none (Nat.zero_add _)
theorem c174 (h : RelR M A) (hA : Aok A) {w : Int32} : RR (yX 174 0 [some (.ref 190), some (.int w)] [] M 0 0) M cdA (oAbt A.1 w) A := by
  have ok := hA.1
  refine RR.of ?_ e174
  unfold oAbt
  have e191 : (yU M 190 0 0) 191 = A.1 := (yU_ne (by omega)).trans h.1
  rw [r108 w_0 w_9, yCi_I, c107_1, yCi_I, c107_0, yCi_I]
  simp only [yb_0]
  by_cases q : bet w 0 9
  · obtain ⟨M5, f1, f2⟩ := c144 (M := yU M 190 0 0) yR191 (by rw [e191]; exact ok) (by rw [e191]; exact hA.2.1)
    obtain ⟨M6, g1, g2⟩ := c145 (M := yU M 190 0 0) yR191 (by rw [e191]; exact ok) (by rw [e191]; exact hA.2.1)
    obtain ⟨w7, l1⟩ := c133 (M := yU M 190 0 0) yR191 (by rw [e191]; exact ok) (by rw [e191]; exact hA.2.1)
    have t4 := c128 (M := yU M 190 0 0) yR191 (by rw [e191]; exact ok)
    have t8 := c173 (M := yU M 190 0 0) (by rw [e191]; exact ok)
    have t9 := c172 (M := yU M 190 0 0) (by rw [e191]; exact ok)
    rw [if_neg (not_not_intro q), if_pos q, if_pos trivial, t4, yCi_I, f1, yCi_I, g1, yCi_I, l1, yCi_I, t8, yCi_I, t9, yCi_I, e191]
    unfold Sabt
    by_cases w0 : w = 0
    · rw [if_pos w0, if_pos w0]; exact RR.rd h rfl
    · by_cases w1 : w = 1
      · rw [if_neg w0, if_pos w1, if_neg w0, if_pos w1]; exact RR.rd h rfl
      · by_cases w2 : w = 2
        · rw [if_neg w0, if_neg w1, if_pos w2, if_neg w0, if_neg w1, if_pos w2]; exact RR.rd h rfl
        · by_cases w3 : w = 3
          · rw [if_neg w0, if_neg w1, if_neg w2, if_pos w3, if_neg w0, if_neg w1, if_neg w2, if_pos w3]; exact RR.rd h rfl
          · by_cases w4 : w = 4
            · rw [if_neg w0, if_neg w1, if_neg w2, if_neg w3, if_pos w4, if_neg w0, if_neg w1, if_neg w2, if_neg w3, if_pos w4]; exact RR.rd h rfl
            · by_cases w5 : w = 5
              · rw [if_neg w0, if_neg w1, if_neg w2, if_neg w3, if_neg w4, if_pos w5, if_neg w0, if_neg w1, if_neg w2, if_neg w3, if_neg w4, if_pos w5]; exact RR.rdS h f2 rfl
              · by_cases w6 : w = 6
                · rw [if_neg w0, if_neg w1, if_neg w2, if_neg w3, if_neg w4, if_neg w5, if_pos w6, if_neg w0, if_neg w1, if_neg w2, if_neg w3, if_neg w4, if_neg w5, if_pos w6]; exact RR.rdS h g2 rfl
                · by_cases w77 : w = 7
                  · rw [if_neg w0, if_neg w1, if_neg w2, if_neg w3, if_neg w4, if_neg w5, if_neg w6, if_pos w77, if_neg w0, if_neg w1, if_neg w2, if_neg w3, if_neg w4, if_neg w5, if_neg w6, if_pos w77]; exact RR.rdW h rfl
                  · by_cases w8 : w = 8
                    · rw [if_neg w0, if_neg w1, if_neg w2, if_neg w3, if_neg w4, if_neg w5, if_neg w6, if_neg w77, if_pos w8, if_neg w0, if_neg w1, if_neg w2, if_neg w3, if_neg w4, if_neg w5, if_neg w6, if_neg w77, if_pos w8]; exact RR.rd h rfl
                    · rw [if_neg w0, if_neg w1, if_neg w2, if_neg w3, if_neg w4, if_neg w5, if_neg w6, if_neg w77, if_neg w8, if_neg w0, if_neg w1, if_neg w2, if_neg w3, if_neg w4, if_neg w5, if_neg w6, if_neg w77, if_neg w8]; exact RR.rd h rfl
  · rw [if_pos q, if_neg q, if_neg (by decide)]
    exact RR.th h rfl rfl
theorem c181 (h : RelR M A) {k : Int32} : RR (yX 181 0 [some (.ref 190), some (.int k)] [] M 0 0) M cdB (oPcs A.1 k) A := by
  refine RR.of ?_ e181
  unfold oPcs
  have e191 : (yU M 190 0 0) 191 = A.1 := (yU_ne (by omega)).trans h.1
  rw [c116, yCi_I, c107_1, yCi_I, c107_0, yCi_I]
  simp only [yb_0]
  by_cases q : bet k 0 3
  · obtain ⟨i1, i2⟩ := knd_ix q
    obtain ⟨g1, g2⟩ := rofs (c := 86) (n := yx k) (v := 86) (by omega) rfl
    rw [← i2] at g1 g2
    rw [if_neg (not_not_intro q), if_pos q, if_pos trivial, if_pos g1, g2, e191]
    exact RR.rd h rfl
  · rw [if_pos q, if_neg q, if_neg (by decide)]
    exact RR.th h rfl rfl
theorem c182 (h : RelR M A) {k : Int32} : RR (yX 182 0 [some (.ref 190), some (.int k)] [] M 0 0) M cdA (oSet A.1 k) A := by
  refine RR.of ?_ e182
  unfold oSet
  have e191 : (yU M 190 0 0) 191 = A.1 := (yU_ne (by omega)).trans h.1
  rw [r108 w_0 w_4, yCi_I, c107_1, yCi_I, c107_0, yCi_I]
  simp only [yb_0]
  by_cases q : bet k 0 4
  · obtain ⟨i1, i2⟩ := set_ix q
    obtain ⟨g1, g2⟩ := rofs (c := 90) (n := yx k) (v := 90) (by omega) rfl
    rw [← i2] at g1 g2
    rw [if_neg (not_not_intro q), if_pos q, if_pos trivial, if_pos g1, g2, e191]
    exact RR.rd h rfl
  · rw [if_pos q, if_neg q, if_neg (by decide)]
    exact RR.th h rfl rfl
theorem c178 (h : RelR M A) (hA : Aok A) {i m : Int32} : RR (yX 178 0 [some (.ref 190), some (.int i), some (.int m)] [] M 0 0) M cdB (oSpn A.1 i m) A := by
  have ok := hA.1
  refine RR.of ?_ e178
  unfold oSpn
  have e191 : (yU M 190 0 0) 191 = A.1 := (yU_ne (by omega)).trans h.1
  rw [c114 yR191, yCi_I, c107_1, yCi_I, r108 w_0 w_3, yCi_I, c107_2, yCi_I, c107_0, yCi_I, h.1]
  simp only [yb_0]
  by_cases q1 : bet i 0 (A.1 0 - 1)
  · rw [if_neg (not_not_intro q1), if_pos q1]
    by_cases q2 : bet m 0 3
    · obtain ⟨i1, i2⟩ := ing_ix ok q1
      obtain ⟨k1, k2⟩ := knd_ix q2
      have t := c126 (M := yU M 190 0 0) yR191 (by rw [e191]; exact ok) (n := yx i) (m := yx m) (by rw [e191]; exact i1) k1
      rw [← i2, ← k2, e191] at t
      rw [if_neg (not_not_intro q2), if_pos q2, if_pos trivial, t, yCi_I]
      exact RR.rd h rfl
    · rw [if_pos q2, if_neg q2, if_neg (by decide)]
      exact RR.th h rfl rfl
  · rw [if_pos q1, if_neg q1, if_neg (by decide)]
    exact RR.th h rfl rfl
theorem c180 (h : RelR M A) (hA : Aok A) {q : Int32} : RR (yX 180 0 [some (.ref 190), some (.int q)] [] M 0 0) M cdB (oBgn A.1 q) A := by
  have ok := hA.1
  have h14 := (roks ok).1
  obtain ⟨m', hP⟩ := Pin_Spl ok
  have hk := Pin_kle hP
  refine RR.of ?_ e180
  unfold oBgn
  obtain ⟨M1, p1, p2⟩ := c143 (M := M) yR191 (by rw [h.1]; exact ok) (by rw [h.1]; exact hA.2.1)
  rw [h.1] at p2
  have h1 : RelR M1 A := RelR_fr h (fun a b1 _ _ b4 => p2.1 a b1 b4) (p2.2.1 5 (by omega)) (p2.2.1 14 (by omega))
  have fr : ∀ {X : Option yRes} {cd : Nat → Int32} {o : yO}, RR X M1 cd o A → RR X M cd o A := by
    intro X cd o z
    obtain ⟨b, M', z1, z2, z3, z4, z5⟩ := z
    exact ⟨b, M', z1, z2, z3, z4, fun a ha => (z5 a ha).trans (p2.1 a (by omega) (by omega))⟩
  rw [p1, yCv_V, p2.2.2.1, r108 (m := Int32.ofNat (Spl A.1).2.2.2 - 1) w_0 rfl, yCi_I, c107_1, yCi_I, c107_0, yCi_I]
  simp only [yb_0]
  refine fr ?_
  by_cases q1 : bet q 0 (Int32.ofNat (Spl A.1).2.2.2 - 1)
  · have hq : yx q < (Spl A.1).2.2.2 ∧ q = Int32.ofNat (yx q) := by
      have hb := ofN_bd (n := (Spl A.1).2.2.2) (v := 14) (N := 14) rfl (by omega) (by omega)
      obtain ⟨g1, g2⟩ := bet_nat (x := q) (m := 13) ⟨q1.1, by have := q1.2; grind⟩ (N := 13) rfl (by omega)
      refine ⟨?_, g2⟩
      have h3 : q < Int32.ofNat (Spl A.1).2.2.2 := by have := q1.2; grind
      rw [g2, ofN_lt (by omega) (by omega)] at h3
      exact h3
    have e199 : (yU M1 190 0 0) 199 (yx q) = (Spl A.1).2.2.1 (yx q) := by rw [yU_ne (by omega)]; exact p2.2.2.2.2 _ hq.1
    rw [if_neg (not_not_intro q1), if_pos q1, if_pos trivial, if_pos (yin_of ⟨show yx q < 14 by omega, hq.2⟩ (by omega)), e199]
    exact RR.rd h1 rfl
  · rw [if_pos q1, if_neg q1, if_neg (by decide)]
    exact RR.th h1 rfl rfl
theorem c183 (h : RelR M A) (hA : Aok A) {m w : Int32} : RR (yX 183 0 [some (.ref 190), some (.int m), some (.int w)] [] M 0 0) M cdA (oDur A.1 m w) A := by
  have ok := hA.1
  refine RR.of ?_ e183
  unfold oDur
  have e191 : (yU M 190 0 0) 191 = A.1 := (yU_ne (by omega)).trans h.1
  rw [r108 w_0 w_1500, yCi_I, c107_1, yCi_I, r108 w_0 w_9, yCi_I, c107_0, yCi_I]
  simp only [yb_0]
  by_cases q1 : bet m 0 1500
  · rw [if_neg (not_not_intro q1)]
    by_cases q2 : bet w 0 9
    · obtain ⟨M1, p1, p2⟩ := c143 (M := yU M 190 0 0) yR191 (by rw [e191]; exact ok) (by rw [e191]; exact hA.2.1)
      have f191 := (RS_191 p2).trans e191
      rw [e191] at p2
      have hb : ∀ s, s < stps A.1 → M1 197 s = (Spl A.1).1 s := fun s hs0 => (p2.2.2.2.1 s hs0).1
      have he : ∀ s, s < stps A.1 → M1 198 s = (Spl A.1).2.1 s := fun s hs0 => (p2.2.2.2.1 s hs0).2
      have t1 := c135 (M := M1) yR191 (by rw [f191]; exact ok) (m := m)
      have t2 := c138 (M := M1) yR191 (by rw [f191]; exact ok) (m := m)
      have t3 := c136 (M := M1) yR191 (by rw [f191]; exact ok) (m := m) (kd := w - 1)
      have t4 := c137 (M := M1) yR191 (by rw [f191]; exact ok) (m := m) (kd := w - 5)
      rw [f191, Sbz_cg hb he] at t1
      rw [f191, Sdn_cg hb he] at t2
      rw [f191, Siu_cg hb he] at t3
      rw [f191, Swa_cg hb he] at t4
      rw [if_neg (not_not_intro q2), if_pos (c := bet m 0 1500 ∧ bet w 0 9) ⟨q1, q2⟩, if_pos trivial, p1, yCv_V, t1, yCi_I, t2, yCi_I, t3, yCi_I, t4, yCi_I]
      unfold Sdur
      by_cases w0 : w = 0
      · rw [if_pos w0, if_pos w0]; exact RR.rdS h p2 rfl
      · by_cases w9 : w = 9
        · rw [if_neg w0, if_pos w9, if_neg w0, if_pos w9]; exact RR.rdS h p2 rfl
        · by_cases w5 : w < 5
          · rw [if_neg w0, if_neg w9, if_pos w5, if_neg w0, if_neg w9, if_pos w5]; exact RR.rdS h p2 rfl
          · rw [if_neg w0, if_neg w9, if_neg w5, if_neg w0, if_neg w9, if_neg w5]; exact RR.rdS h p2 rfl
    · rw [if_pos q2, if_neg (c := bet m 0 1500 ∧ bet w 0 9) (fun z => q2 z.2), c107_1, yCi_I, if_neg (by decide)]
      exact RR.th h rfl rfl
  · rw [if_pos q1, if_neg (c := bet m 0 1500 ∧ bet w 0 9) (fun z => q1 z.1), if_neg (by decide)]
    exact RR.th h rfl rfl
theorem c177 (h : RelR M A) (hA : Aok A) {i w : Int32} : RR (yX 177 0 [some (.ref 190), some (.int i), some (.int w)] [] M 0 0) M cdB (oIng A.1 i w) A := by
  have ok := hA.1
  refine RR.of ?_ e177
  unfold oIng
  have e191 : (yU M 190 0 0) 191 = A.1 := (yU_ne (by omega)).trans h.1
  rw [c114 yR191, yCi_I, c107_1, yCi_I, r108 w_0 w_6, yCi_I, c107_2, yCi_I, c107_0, yCi_I, h.1]
  simp only [yb_0]
  by_cases q1 : bet i 0 (A.1 0 - 1)
  · rw [if_neg (not_not_intro q1), if_pos q1]
    by_cases q2 : bet w 0 6
    · obtain ⟨i1, i2⟩ := ing_ix ok q1
      have hm := (rokm ok).1
      obtain ⟨g1, g2⟩ := rofs (c := 1) (n := yx i) (v := 1) (by omega) rfl
      rw [← i2] at g1 g2
      have k1 := c123 (M := yU M 190 0 0) yR191 (by rw [e191]; exact ok) (n := yx i) (by rw [e191]; exact i1)
      have k2 := c125 (M := yU M 190 0 0) yR191 (by rw [e191]; exact ok) (n := yx i) (by rw [e191]; exact i1)
      have k3 := c127 (M := yU M 190 0 0) yR191 (by rw [e191]; exact ok) (n := yx i) (by rw [e191]; exact i1)
      have k5 := c175 (M := yU M 190 0 0) (by rw [e191]; exact ok) (i := i)
      obtain ⟨M1, p1, p2⟩ := c176 (M := yU M 190 0 0) (by rw [e191]; exact ok) (by rw [e191]; exact hA.2.1) (i := i)
      rw [← i2] at k1 k2 k3
      rw [if_neg (not_not_intro q2), if_pos q2, if_pos trivial, if_pos g1, g2, k1, yCi_I, k2, yCi_I, k3, yCi_I, yCi_I, k1, yCi_I, k5, yCi_I, p1, yCi_I, e191]
      unfold Sing
      by_cases w0 : w = 0
      · rw [if_pos w0, if_pos w0]; exact RR.rd h rfl
      · by_cases w1 : w = 1
        · rw [if_neg w0, if_pos w1, if_neg w0, if_pos w1]; exact RR.rd h rfl
        · by_cases w2 : w = 2
          · rw [if_neg w0, if_neg w1, if_pos w2, if_neg w0, if_neg w1, if_pos w2]; exact RR.rd h rfl
          · by_cases w3 : w = 3
            · rw [if_neg w0, if_neg w1, if_neg w2, if_pos w3, if_neg w0, if_neg w1, if_neg w2, if_pos w3]; exact RR.rd h rfl
            · by_cases w4 : w = 4
              · rw [if_neg w0, if_neg w1, if_neg w2, if_neg w3, if_pos w4, if_neg w0, if_neg w1, if_neg w2, if_neg w3, if_pos w4]; exact RR.rd h rfl
              · by_cases w5 : w = 5
                · rw [if_neg w0, if_neg w1, if_neg w2, if_neg w3, if_neg w4, if_pos w5, if_neg w0, if_neg w1, if_neg w2, if_neg w3, if_neg w4, if_pos w5]; exact RR.rd h rfl
                · rw [if_neg w0, if_neg w1, if_neg w2, if_neg w3, if_neg w4, if_neg w5, if_neg w0, if_neg w1, if_neg w2, if_neg w3, if_neg w4, if_neg w5]; exact RR.rdS h p2 rfl
    · rw [if_pos q2, if_neg q2, if_neg (by decide)]
      exact RR.th h rfl rfl
  · rw [if_pos q1, if_neg q1, if_neg (by decide)]
    exact RR.th h rfl rfl
theorem c179 (h : RelR M A) (hA : Aok A) {s w : Int32} : RR (yX 179 0 [some (.ref 190), some (.int s), some (.int w)] [] M 0 0) M cdB (oStp A.1 s w) A := by
  have ok := hA.1
  have h14 := (roks ok).1
  refine RR.of ?_ e179
  unfold oStp
  have e191 : (yU M 190 0 0) 191 = A.1 := (yU_ne (by omega)).trans h.1
  rw [c115 yR191, yCi_I, c107_1, yCi_I, r108 w_0 w_9, yCi_I, c107_2, yCi_I, c107_0, yCi_I, h.1]
  simp only [yb_0]
  by_cases q1 : bet s 0 (A.1 15 - 1)
  · rw [if_neg (not_not_intro q1), if_pos q1]
    by_cases q2 : bet w 0 9
    · obtain ⟨i1, i2⟩ := stp_ix ok q1
      have hy := yin_of (n := 14) ⟨show yx s < 14 by omega, i2⟩ (by omega)
      obtain ⟨a1, a2⟩ := rofs (c := 16) (n := yx s) (v := 16) (by omega) rfl
      obtain ⟨b1, b2⟩ := rofs (c := 30) (n := yx s) (v := 30) (by omega) rfl
      obtain ⟨c1, c2⟩ := rofs (c := 44) (n := yx s) (v := 44) (by omega) rfl
      obtain ⟨d1, d2⟩ := rofs (c := 58) (n := yx s) (v := 58) (by omega) rfl
      obtain ⟨f1, f2⟩ := rofs (c := 72) (n := yx s) (v := 72) (by omega) rfl
      rw [← i2] at a1 a2 b1 b2 c1 c2 d1 d2 f1 f2
      have k5 := c130 (M := yU M 190 0 0) yR191 (by rw [e191]; exact ok) (s := s)
      have k9 := c131 (M := yU M 190 0 0) yR191 (by rw [e191]; exact ok) (s := yx s) (by rw [e191]; exact i1)
      obtain ⟨w7, l1, l2⟩ := c132 (M := yU M 190 0 0) yR191 (by rw [e191]; exact ok) (by rw [e191]; exact hA.2.1)
      obtain ⟨M1, p1, p2⟩ := c143 (M := yU M 190 0 0) yR191 (by rw [e191]; exact ok) (by rw [e191]; exact hA.2.1)
      rw [e191] at k5 k9 l2 p2
      rw [← i2] at k9
      have e197 := (p2.2.2.2.1 _ i1).1
      have e198 := (p2.2.2.2.1 _ i1).2
      have e200 := l2 _ i1
      have k111 := c111 (s := San A.1 (yx s)) (d := 14) (M := yU M 190 0 0) (by omega)
      have hl : (Int32.ofNat 14) = 14 := rfl
      rw [hl] at k111
      have hbc := bct_bts (blw_mono (San_blw ok i1) h14)
      rw [if_neg (not_not_intro q2), if_pos q2, if_pos trivial]
      unfold Sstp
      by_cases w0 : w = 0
      · rw [if_pos w0, if_pos w0, if_pos a1, a2, e191]; exact RR.rd h rfl
      · by_cases w1 : w = 1
        · rw [if_neg w0, if_pos w1, if_neg w0, if_pos w1, if_pos b1, b2, e191]; exact RR.rd h rfl
        · by_cases w2 : w = 2
          · rw [if_neg w0, if_neg w1, if_pos w2, if_neg w0, if_neg w1, if_pos w2, if_pos c1, c2, e191]; exact RR.rd h rfl
          · by_cases w3 : w = 3
            · rw [if_neg w0, if_neg w1, if_neg w2, if_pos w3, if_neg w0, if_neg w1, if_neg w2, if_pos w3, if_pos d1, d2, e191]; exact RR.rd h rfl
            · by_cases w4 : w = 4
              · rw [if_neg w0, if_neg w1, if_neg w2, if_neg w3, if_pos w4, if_neg w0, if_neg w1, if_neg w2, if_neg w3, if_pos w4, if_pos f1, f2, e191]; exact RR.rd h rfl
              · by_cases w5 : w = 5
                · rw [if_neg w0, if_neg w1, if_neg w2, if_neg w3, if_neg w4, if_pos w5, if_neg w0, if_neg w1, if_neg w2, if_neg w3, if_neg w4, if_pos w5, k5, yCi_I, ← i2]; exact RR.rd h rfl
                · by_cases w6 : w = 6
                  · rw [if_neg w0, if_neg w1, if_neg w2, if_neg w3, if_neg w4, if_neg w5, if_pos w6, if_neg w0, if_neg w1, if_neg w2, if_neg w3, if_neg w4, if_neg w5, if_pos w6, l1, yCv_V, if_pos hy, yUa_at, e200]; exact RR.rdW h rfl
                  · by_cases w77 : w = 7
                    · rw [if_neg w0, if_neg w1, if_neg w2, if_neg w3, if_neg w4, if_neg w5, if_neg w6, if_pos w77, if_neg w0, if_neg w1, if_neg w2, if_neg w3, if_neg w4, if_neg w5, if_neg w6, if_pos w77, p1, yCv_V, if_pos w77, if_pos hy, e197]; exact RR.rdS h p2 rfl
                    · by_cases w8 : w = 8
                      · rw [if_neg w0, if_neg w1, if_neg w2, if_neg w3, if_neg w4, if_neg w5, if_neg w6, if_neg w77, if_pos w8, if_neg w0, if_neg w1, if_neg w2, if_neg w3, if_neg w4, if_neg w5, if_neg w6, if_neg w77, if_pos w8, p1, yCv_V, if_neg w77, if_pos hy, e198]; exact RR.rdS h p2 rfl
                      · have w9 : w = 9 := by have := q2.1; have := q2.2; grind
                        rw [if_neg w0, if_neg w1, if_neg w2, if_neg w3, if_neg w4, if_neg w5, if_neg w6, if_neg w77, if_neg w8, if_neg w0, if_neg w1, if_neg w2, if_neg w3, if_neg w4, if_neg w5, if_neg w6, if_neg w77, if_neg w8, if_pos w9, k9, yCi_I, k111, yCi_I, hbc]; exact RR.rd h rfl
    · rw [if_pos q2, if_neg q2, if_neg (by decide)]
      exact RR.th h rfl rfl
  · rw [if_pos q1, if_neg q1, if_neg (by decide)]
    exact RR.th h rfl rfl
end RDR
