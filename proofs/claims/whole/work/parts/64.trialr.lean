/-! the reference's trials -/
section TRR
variable {M : yM} {A : yAb}
theorem RR.rdT (h : RelR M A) {f : yRow} {M' : yM} {r : yRow} {st : yPl} (hS : RS (yUa (yU M 190 0 0) 192 f) M' r st) {v : Int32} {cd : Nat → Int32} {o : yO} (ho : o = .inr v) : RR (yI v M') M cd o A := RR.rdF h ho (fun a b1 b2 _ b4 => by rw [hS.1 a b1 b4, yUa_ne b2, yU_ne b1]) (by rw [hS.2.1 5 (by omega), yUa_ne (by omega), yU_at, upd_eq, if_neg (by omega)]) (by rw [hS.2.1 14 (by omega), yUa_ne (by omega), yU_at, upd_eq, if_neg (by omega)]) (by rw [hS.2.1 0 (by omega), yUa_ne (by omega), yU_at, upd_eq, if_pos rfl])
theorem RR.rdT0 (h : RelR M A) {f : yRow} {v : Int32} {cd : Nat → Int32} {o : yO} (ho : o = .inr v) : RR (yI v (yUa (yU M 190 0 0) 192 f)) M cd o A := RR.rdF h ho (fun a b1 b2 _ b4 => by rw [yUa_ne b2, yU_ne b1]) (by rw [yUa_ne (by omega), yU_at, upd_eq, if_neg (by omega)]) (by rw [yUa_ne (by omega), yU_at, upd_eq, if_neg (by omega)]) (by rw [yUa_ne (by omega), yU_at, upd_eq, if_pos rfl])
theorem r113 {B : yM} : yX 113 0 [some (.ref 191), some (.ref 192), none] [] B 0 0 = yV (yUa B 192 (rj (B 191) (B 192))) := c113 yR191 yR192 (by omega)
theorem c194 (h : RelR M A) (hA : Aok A) (hT : Atg A) {k w : Int32} : RR (yX 194 0 [some (.ref 190), some (.int k), some (.int w)] [] M 0 0) M cdB (oPan A.1 (M 192) k w) A := by
  have ok := hA.1
  refine RR.of ?_ e194
  unfold oPan
  have e191 : (yU M 190 0 0) 191 = A.1 := (yU_ne (by omega)).trans h.1
  have e192 : (yU M 190 0 0) 192 = M 192 := yU_ne (by omega)
  rw [c116, yCi_I, c107_1, yCi_I, r108 w_0 w_1, yCi_I, c107_2, yCi_I, c107_0, yCi_I]
  simp only [yb_0]
  by_cases q1 : bet k 0 3
  · rw [if_neg (not_not_intro q1), if_pos q1]
    by_cases q2 : bet w 0 1
    · obtain ⟨i1, i2⟩ := knd_ix q1
      obtain ⟨g1, g2⟩ := rofs (c := 86) (n := yx k) (v := 86) (by omega) rfl
      rw [← i2] at g1 g2
      obtain ⟨p1, p2⟩ := Rpan_ok (g := M 192) ok hA.2.1 hT.1 i1
      have eB : yU (yUa (yU M 190 0 0) 192 (rj A.1 (M 192))) 192 (86 + yx k) ((yUa (yU M 190 0 0) 192 (rj A.1 (M 192))) 192 (86 + yx k) + 1) = yUa (yU M 190 0 0) 192 (Rpan A.1 (M 192) (yx k)) := by
        rw [yUa_yU, yUa_at, rj_at (by omega)]
        rfl
      have f192 : (yUa (yU M 190 0 0) 192 (Rpan A.1 (M 192) (yx k))) 192 = Rpan A.1 (M 192) (yx k) := yUa_at _ _ _
      obtain ⟨M5, s1, s2⟩ := c144 (M := yUa (yU M 190 0 0) 192 (Rpan A.1 (M 192) (yx k))) yR192 (by rw [f192]; exact p1) (by rw [f192]; exact p2)
      obtain ⟨M6, t1, t2⟩ := c145 (M := yUa (yU M 190 0 0) 192 (Rpan A.1 (M 192) (yx k))) yR192 (by rw [f192]; exact p1) (by rw [f192]; exact p2)
      rw [f192] at s1 t1
      rw [if_neg (not_not_intro q2), if_pos q2, if_pos trivial, r113, yCv_V, e191, e192, if_pos g1, if_pos g1, g2, eB, yLet_eq, s1, yCi_I, t1, yCi_I]
      by_cases w0 : w = 0
      · rw [if_pos w0, if_pos w0]; exact RR.rdT h s2 rfl
      · rw [if_neg w0, if_neg w0]; exact RR.rdT h t2 rfl
    · rw [if_pos q2, if_neg q2, if_neg (by decide)]
      exact RR.th h rfl rfl
  · rw [if_pos q1, if_neg q1, if_neg (by decide)]
    exact RR.th h rfl rfl
theorem c195 {B : yM} {r : yRow} (hB : B 191 = r) (ok : rok r) {w k : Int32} (hw : bet w 1 24) : yX 195 0 [some (.ref 190), some (.int w), some (.int k)] [] B 0 0 = yI (if k = 0 then Sall r w else Soff r w) (yUa B 192 (upd (rj r (B 192)) 14 w)) := by
  have o := rj_ok (g := B 192) ok
  have o2 : rok (upd (rj r (B 192)) 14 w) := rok_upd o (fam_s (roks o).1 (rokm o).1 (Or.inr rfl) hw)
  have f192 : (yUa B 192 (upd (rj r (B 192)) 14 w)) 192 = upd (rj r (B 192)) 14 w := yUa_at _ _ _
  have s1 := c128 (M := yUa B 192 (upd (rj r (B 192)) 14 w)) yR192 (by rw [f192]; exact o2)
  have s2 := c129 (M := yUa B 192 (upd (rj r (B 192)) 14 w)) yR192 (by rw [f192]; exact o2)
  have e14 : upd (rj r (B 192)) 14 w 14 = w := by rw [upd_eq, if_pos rfl]
  obtain ⟨g1, g2⟩ := Sall_cg (r := upd (rj r (B 192)) 14 w) (r' := r) (fun j h1 h2 => by rw [upd_eq, if_neg h2, rj_at h1]) (rokm o2).1 w
  rw [f192, e14, g1] at s1
  rw [f192, e14, g2] at s2
  have i14 : yinB 14 95 = true ∧ yx 14 = 14 := ⟨in_lits.2.1, yx_lits.2.1⟩
  refine yL.I e195 ?_
  rw [r113, yCv_V, hB, if_pos i14.1, i14.2, yUa_yU, yLet_eq, s1, yCi_I, s2, yCi_I]
  by_cases k0 : k = 0
  · rw [if_pos k0, if_pos k0]
  · rw [if_neg k0, if_neg k0]
theorem c196 (h : RelR M A) (hA : Aok A) {w k : Int32} : RR (yX 196 0 [some (.ref 190), some (.int w), some (.int k)] [] M 0 0) M cdA (oSvd A.1 w k) A := by
  have ok := hA.1
  refine RR.of ?_ e196
  unfold oSvd
  have e191 : (yU M 190 0 0) 191 = A.1 := (yU_ne (by omega)).trans h.1
  rw [c119, yCi_I, c107_1, yCi_I, r108 w_0 w_1, yCi_I, c107_0, yCi_I]
  simp only [yb_0]
  by_cases q1 : 1 ≤ w ∧ w ≤ 24
  · rw [if_neg (not_not_intro q1)]
    by_cases q2 : bet k 0 1
    · rw [if_neg (not_not_intro q2), if_pos (c := bet w 1 24 ∧ bet k 0 1) ⟨q1, q2⟩, if_pos trivial, c195 e191 ok q1, yCi_I]
      exact RR.rdT0 h rfl
    · rw [if_pos q2, if_neg (c := bet w 1 24 ∧ bet k 0 1) (fun z => q2 z.2), c107_1, yCi_I, if_neg (by decide)]
      exact RR.th h rfl rfl
  · rw [if_pos q1, if_neg (c := bet w 1 24 ∧ bet k 0 1) (fun z => q1 z.1), if_neg (by decide)]
    exact RR.th h rfl rfl
/-- what a trial of the reference leaves: all but its places of work -/
def TR (M0 M : yM) : Prop := (∀ a, a ≠ 190 → a ≠ 192 → (a < 197 ∨ 200 < a) → M a = M0 a) ∧ M 190 5 = M0 190 5 ∧ M 190 14 = M0 190 14 ∧ M 190 0 = M0 190 0
theorem TR_rfl (M : yM) : TR M M := ⟨fun _ _ _ _ => rfl, rfl, rfl, rfl⟩
theorem TR_ua {M0 M : yM} (h : TR M0 M) (f : yRow) : TR M0 (yUa M 192 f) := ⟨fun a b1 b2 b3 => by rw [yUa_ne b2]; exact h.1 a b1 b2 b3, by rw [yUa_ne (by omega)]; exact h.2.1, by rw [yUa_ne (by omega)]; exact h.2.2.1, by rw [yUa_ne (by omega)]; exact h.2.2.2⟩
theorem TR_rs {M0 M M' : yM} {r : yRow} {st : yPl} (h : TR M0 M) (hS : RS M M' r st) : TR M0 M' := ⟨fun a b1 b2 b3 => by rw [hS.1 a b1 b3]; exact h.1 a b1 b2 b3, by rw [hS.2.1 5 (by omega)]; exact h.2.1, by rw [hS.2.1 14 (by omega)]; exact h.2.2.1, by rw [hS.2.1 0 (by omega)]; exact h.2.2.2⟩
theorem RR.rdR (h : RelR M A) {M' : yM} (hR : TR (yU M 190 0 0) M') {v : Int32} {cd : Nat → Int32} {o : yO} (ho : o = .inr v) : RR (yI v M') M cd o A := RR.rdF h ho (fun a b1 b2 _ b4 => by rw [hR.1 a b1 b2 b4, yU_ne b1]) (by rw [hR.2.1, yU_at, upd_eq, if_neg (by omega)]) (by rw [hR.2.2.1, yU_at, upd_eq, if_neg (by omega)]) (by rw [hR.2.2.2, yU_at, upd_eq, if_pos rfl])
theorem c197 (h : RelR M A) (hA : Aok A) (hT : Atg A) {s : Int32} : RR (yX 197 0 [some (.ref 190), some (.int s), none, none, none] [] M 0 0) M cdB (oSlk A.1 (M 192) s) A := by
  have ok := hA.1
  have h14 := (roks ok).1
  refine RR.of ?_ e197
  unfold oSlk
  have e191 : (yU M 190 0 0) 191 = A.1 := (yU_ne (by omega)).trans h.1
  have e192 : (yU M 190 0 0) 192 = M 192 := yU_ne (by omega)
  rw [c115 yR191, yCi_I, c107_1, yCi_I, c107_0, yCi_I, h.1]
  simp only [yb_0]
  by_cases q1 : bet s 0 (A.1 15 - 1)
  · obtain ⟨i1, i2⟩ := stp_ix ok q1
    have hy := yin_of (n := 14) ⟨show yx s < 14 by omega, i2⟩ (by omega)
    obtain ⟨g1, g2⟩ := rofs (c := 16) (n := yx s) (v := 16) (by omega) rfl
    rw [← i2] at g1 g2
    obtain ⟨M1, p1, p2⟩ := c144 (M := yU M 190 0 0) yR191 (by rw [e191]; exact ok) (by rw [e191]; exact hA.2.1)
    have f191 := (RS_191 p2).trans e191
    have f192 : M1 192 = M 192 := (p2.1 192 (by omega) (by omega)).trans e192
    rw [e191] at p1 p2
    have e197 : M1 197 (yx s) = (Spl A.1).1 (yx s) := (p2.2.2.2.1 _ i1).1
    have t1 : TR (yU M 190 0 0) M1 := TR_rs (TR_rfl _) p2
    rw [if_neg (not_not_intro q1), if_pos q1, if_pos trivial, p1, yCi_I, if_pos hy, e197]
    by_cases q2 : (Spl A.1).1 (yx s) = -1
    · rw [if_pos q2, if_pos q2]
      exact RR.rdR h t1 rfl
    · have key : ∀ f n (M2 : yM), n + f = 60 → M2 191 = A.1 → M2 192 = Rsl A.1 (M 192) (yx s) n → TR (yU M 190 0 0) M2 → ∃ M3, yX 197 62 [some (.ref 190), some (.int s), some (.int (Swh A.1 (Spl A.1))), some (.int (Int32.ofNat n)), some (.int 1)] [] M2 0 0 = yI (Slk A.1 (M 192) (yx s) f n) M3 ∧ TR (yU M 190 0 0) M3 := by
        intro f
        induction f with
        | zero =>
          intro n M2 hn _ _ hR
          have hn : n = 60 := hn
          subst hn
          exact ⟨M2, yL.I e197_62 (by rw [if_neg (by decide), if_neg (by decide)]; rfl), hR⟩
        | succ f ih =>
          intro n M2 hn h191 h192 hR
          obtain ⟨o1, o2⟩ := Rsl_ok (g := M 192) ok hA.2.1 hT.1 i1 (show n + 1 ≤ 60 by omega)
          have eB : yU M2 192 (16 + yx s) (M2 191 (16 + yx s) + Int32.ofNat n + 1) = yUa M2 192 (Rsl A.1 (M 192) (yx s) (n + 1)) := by
            rw [yU_row, h192, h191]
            unfold Rsl
            rw [upd_upd, ← ofN_succ]
            congr 2
            grind
          have f192 : (yUa M2 192 (Rsl A.1 (M 192) (yx s) (n + 1))) 192 = Rsl A.1 (M 192) (yx s) (n + 1) := yUa_at _ _ _
          obtain ⟨M5, s1, s2⟩ := c144 (M := yUa M2 192 (Rsl A.1 (M 192) (yx s) (n + 1))) yR192 (by rw [f192]; exact o1) (by rw [f192]; exact o2)
          rw [f192] at s1
          have r5 : TR (yU M 190 0 0) M5 := TR_rs (TR_ua hR _) s2
          have hlt : Int32.ofNat n < 60 := ofN_lti (v := 60) (m := 60) rfl (by omega) (by omega)
          show ∃ M3, _ = yI (if Swh (Rsl A.1 (M 192) (yx s) (n + 1)) (Spl (Rsl A.1 (M 192) (yx s) (n + 1))) ≤ Swh A.1 (Spl A.1) then Slk A.1 (M 192) (yx s) f (n + 1) else Int32.ofNat n) M3 ∧ _
          by_cases q3 : Swh (Rsl A.1 (M 192) (yx s) (n + 1)) (Spl (Rsl A.1 (M 192) (yx s) (n + 1))) ≤ Swh A.1 (Spl A.1)
          · obtain ⟨M4, m1, m2⟩ := ih (n + 1) M5 (by omega) (by rw [RS_191 s2, yUa_ne (by omega)]; exact h191) (by rw [s2.1 192 (by omega) (by omega)]; exact f192) r5
            refine ⟨M4, yL.I e197_62 ?_, m2⟩
            rw [if_neg (by decide), if_pos hlt, if_pos g1, if_pos g1, g2, eB, yLet_eq, s1, yCi_I, if_pos q3, if_pos q3, ofN_succ]
            exact m1
          · refine ⟨M5, yL.I e197_62 ?_, r5⟩
            rw [if_neg (by decide), if_pos hlt, if_pos g1, if_pos g1, g2, eB, yLet_eq, s1, yCi_I, if_neg q3, if_neg q3, x_0]
            exact yL.I e197_62 (if_pos rfl)
      rw [if_neg q2, if_neg q2, r113, yCv_V, f191, f192]
      obtain ⟨M3, m1, m2⟩ := key 60 0 (yUa M1 192 (rj A.1 (M 192))) rfl (by rw [yUa_ne (by omega)]; exact f191) (by rw [yUa_at, Rsl_0 (by omega)]) (TR_ua t1 _)
      have m1 : yX 197 62 [some (.ref 190), some (.int s), some (.int (Swh A.1 (Spl A.1))), some (.int 0), some (.int 1)] [] (yUa M1 192 (rj A.1 (M 192))) 0 0 = yI (Slk A.1 (M 192) (yx s) 60 0) M3 := m1
      rw [m1]
      exact RR.rdR h m2 rfl
  · rw [if_pos q1, if_neg q1, if_neg (by decide)]
    exact RR.th h rfl rfl
theorem c198 (h : RelR M A) (hA : Aok A) {cd : Nat → Int32} : RR (yX 198 0 [some (.ref 190), none, none, none, none, none, none, none] [] M 0 0) M cd (.inr (Sbr A.1 (M 192))) A := by
  have ok := hA.1
  have key : ∀ d n (a : y3) (M2 : yM) o5 o6 o7, n + d = 4 → M2 191 = A.1 → rj A.1 (M2 192) = rj A.1 (M 192) → TR (yU M 190 0 0) M2 → ∃ M3, yX 198 14 [some (.ref 190), some (.int a.1), some (.int a.2.1), some (.int a.2.2), some (.int (Int32.ofNat n)), o5, o6, o7] [] M2 0 0 = yI (yfo (Sbrf A.1 (M 192)) n d a).1 M3 ∧ TR (yU M 190 0 0) M3 := by
    intro d
    induction d with
    | zero =>
      intro n a M2 o5 o6 o7 hn _ _ hR
      have hn : n = 4 := hn
      subst hn
      exact ⟨M2, yL.I e198_14 (if_neg (by decide)), hR⟩
    | succ d ih =>
      intro n a M2 o5 o6 o7 hn h191 h192 hR
      obtain ⟨o1, o2⟩ := Rbr_ok (g := M 192) ok hA.2.1 (show n < 4 by omega)
      have i94 : yinB 94 95 = true ∧ yx 94 = 94 := by decide +kernel
      have eB : yU (yUa M2 192 (rj (M2 191) (M2 192))) 192 94 (Int32.ofNat n) = yUa M2 192 (Rbr A.1 (M 192) n) := by
        rw [yUa_yU, h191, h192]
        rfl
      have f192 : (yUa M2 192 (Rbr A.1 (M 192) n)) 192 = Rbr A.1 (M 192) n := yUa_at _ _ _
      obtain ⟨M5, s1, s2⟩ := c144 (M := yUa M2 192 (Rbr A.1 (M 192) n)) yR192 (by rw [f192]; exact o1) (by rw [f192]; exact o2)
      rw [f192] at s1 s2
      have r5 : TR (yU M 190 0 0) M5 := TR_rs (TR_ua hR _) s2
      have g192 : M5 192 = Rbr A.1 (M 192) n := (s2.1 192 (by omega) (by omega)).trans f192
      have g191 : M5 191 = A.1 := by rw [RS_191 s2, yUa_ne (by omega)]; exact h191
      have estk : M5 192 15 - M5 190 11 = Sstk (Rbr A.1 (M 192) n) (Spl (Rbr A.1 (M 192) n)) := by
        rw [g192, s2.2.2.1]
        rfl
      have hrj : rj A.1 (M5 192) = rj A.1 (M 192) := by rw [g192]; exact rj_upd (by omega)
      have hlt : Int32.ofNat n < 4 := ofN_lti (v := 4) (m := 4) rfl (by omega) (by omega)
      have hs1 : yfo (Sbrf A.1 (M 192)) n (d + 1) a = yfo (Sbrf A.1 (M 192)) (n + 1) d (Sbrf A.1 (M 192) n a) := rfl
      have h87 : ∀ o7, Sbrf A.1 (M 192) n a = (Int32.ofNat n, Sstk (Rbr A.1 (M 192) n) (Spl (Rbr A.1 (M 192) n)), Swh (Rbr A.1 (M 192) n) (Spl (Rbr A.1 (M 192) n))) → ∃ M4, yX 198 87 [some (.ref 190), some (.int a.1), some (.int a.2.1), some (.int a.2.2), some (.int (Int32.ofNat n)), some (.int (Swh (Rbr A.1 (M 192) n) (Spl (Rbr A.1 (M 192) n)))), some (.int (Sstk (Rbr A.1 (M 192) n) (Spl (Rbr A.1 (M 192) n)))), o7] [] M5 0 0 = yI (yfo (Sbrf A.1 (M 192)) n (d + 1) a).1 M4 ∧ TR (yU M 190 0 0) M4 := by
        intro o7 he
        obtain ⟨M4, m1, m2⟩ := ih (n + 1) (Sbrf A.1 (M 192) n a) M5 (some (.int (Swh (Rbr A.1 (M 192) n) (Spl (Rbr A.1 (M 192) n))))) (some (.int (Sstk (Rbr A.1 (M 192) n) (Spl (Rbr A.1 (M 192) n))))) (some (.int 1)) (by omega) g191 hrj r5
        refine ⟨M4, yL.I e198_87 ?_, m2⟩
        rw [he] at m1
        rw [hs1, he, ofN_succ]
        exact m1
      have h91 : ∀ o7, Sbrf A.1 (M 192) n a = a → ∃ M4, yX 198 91 [some (.ref 190), some (.int a.1), some (.int a.2.1), some (.int a.2.2), some (.int (Int32.ofNat n)), some (.int (Swh (Rbr A.1 (M 192) n) (Spl (Rbr A.1 (M 192) n)))), some (.int (Sstk (Rbr A.1 (M 192) n) (Spl (Rbr A.1 (M 192) n)))), o7] [] M5 0 0 = yI (yfo (Sbrf A.1 (M 192)) n (d + 1) a).1 M4 ∧ TR (yU M 190 0 0) M4 := by
        intro o7 he
        obtain ⟨M4, m1, m2⟩ := ih (n + 1) (Sbrf A.1 (M 192) n a) M5 (some (.int (Swh (Rbr A.1 (M 192) n) (Spl (Rbr A.1 (M 192) n))))) (some (.int (Sstk (Rbr A.1 (M 192) n) (Spl (Rbr A.1 (M 192) n))))) (some (.int 0)) (by omega) g191 hrj r5
        refine ⟨M4, yL.I e198_91 ?_, m2⟩
        rw [he] at m1
        rw [hs1, he, ofN_succ]
        exact m1
      have hd : ∀ {Z : Option yRes} {v : Int32}, (∃ M4, Z = yI v M4 ∧ TR (yU M 190 0 0) M4) → yL Z (yX 198 14 [some (.ref 190), some (.int a.1), some (.int a.2.1), some (.int a.2.2), some (.int (Int32.ofNat n)), o5, o6, o7] [] M2 0 0) → ∃ M4, yX 198 14 [some (.ref 190), some (.int a.1), some (.int a.2.1), some (.int a.2.2), some (.int (Int32.ofNat n)), o5, o6, o7] [] M2 0 0 = yI v M4 ∧ TR (yU M 190 0 0) M4 := by
        intro Z v hz hl
        obtain ⟨M4, z1, z2⟩ := hz
        exact ⟨M4, yL.I hl z1, z2⟩
      refine hd ?_ e198_14
      rw [if_pos hlt, r113, yCv_V, if_pos i94.1, i94.2, eB, yLet_eq, s1, yCi_I, estk]
      by_cases q0 : a.1 = -1
      · rw [if_pos q0]
        exact h87 _ (by unfold Sbrf; rw [if_pos (Or.inl q0)])
      · rw [if_neg q0]
        by_cases q1 : Sstk (Rbr A.1 (M 192) n) (Spl (Rbr A.1 (M 192) n)) < a.2.1
        · rw [if_pos q1]
          exact h87 _ (by unfold Sbrf; rw [if_pos (Or.inr (Or.inl q1))])
        · rw [if_neg q1]
          by_cases q2 : Sstk (Rbr A.1 (M 192) n) (Spl (Rbr A.1 (M 192) n)) = a.2.1
          · rw [if_pos q2]
            by_cases q3 : Swh (Rbr A.1 (M 192) n) (Spl (Rbr A.1 (M 192) n)) < a.2.2
            · rw [if_pos q3]
              exact h87 _ (by unfold Sbrf; rw [if_pos (Or.inr (Or.inr ⟨q2, q3⟩))])
            · rw [if_neg q3]
              exact h91 _ (by unfold Sbrf; rw [if_neg (fun y => y.elim q0 (fun y => y.elim q1 (fun y => q3 y.2)))])
          · rw [if_neg q2]
            exact h91 _ (by unfold Sbrf; rw [if_neg (fun y => y.elim q0 (fun y => y.elim q1 (fun y => q2 y.1)))])
  obtain ⟨M3, m1, m2⟩ := key 4 0 (-1, 0, 0) (yU M 190 0 0) none none none rfl ((yU_ne (by omega)).trans h.1) (by rw [yU_ne (by omega)]) (TR_rfl _)
  have m1 : yX 198 14 [some (.ref 190), some (.int (-1)), some (.int 0), some (.int 0), some (.int 0), none, none, none] [] (yU M 190 0 0) 0 0 = yI (Sbr A.1 (M 192)) M3 := m1
  refine RR.of ?_ e198
  rw [yLet_eq, m1]
  exact RR.rdR h m2 rfl
theorem c199 (h : RelR M A) (hA : Aok A) {a b : Int32} : RR (yX 199 0 [some (.ref 190), some (.int a), some (.int b), none, none, none, none, none] [] M 0 0) M cdA (oBsv A.1 a b) A := by
  have ok := hA.1
  refine RR.of ?_ e199
  unfold oBsv
  rw [c119, yCi_I, c107_1, yCi_I, c119, yCi_I, c107_0, yCi_I]
  simp only [yb_0]
  by_cases q1 : 1 ≤ a ∧ a ≤ 24
  · rw [if_neg (not_not_intro q1)]
    by_cases q2 : 1 ≤ b ∧ b ≤ 24
    · rw [if_neg (not_not_intro q2)]
      by_cases q3 : b < a
      · have hn : ¬ (bet a 1 24 ∧ bet b a 24) := fun z => by have := z.2.1; grind
        rw [if_pos q3, if_neg hn, c107_1, yCi_I, if_neg (by decide)]
        exact RR.th h rfl rfl
      · have hp : bet a 1 24 ∧ bet b a 24 := ⟨q1, by grind, q2.2⟩
        obtain ⟨x1, x2, x3⟩ := srv_ix q1
        obtain ⟨w1, w2, w3⟩ := srv_ix q2
        have hab : yx a ≤ yx b := by
          have := hp.2.1
          rw [x3, w3, ofN_leI (by omega) (by omega)] at this
          exact this
        have key : ∀ d n (p : Int32 × Int32) (M2 : yM) o6 o7, n + d = yx b + 1 → 1 ≤ n → ¬ p.1 = -1 → M2 191 = A.1 → TR (yU M 190 0 0) M2 → ∃ M3, yX 199 41 [some (.ref 190), some (.int a), some (.int b), some (.int p.1), some (.int p.2), some (.int (Int32.ofNat n)), o6, o7] [] M2 0 0 = yI (yfo (Sbvf A.1) n d p).1 M3 ∧ TR (yU M 190 0 0) M3 := by
          intro d
          induction d with
          | zero =>
            intro n p M2 o6 o7 hn h0 _ _ hR
            refine ⟨M2, yL.I e199_41 (if_neg ?_), hR⟩
            rw [w3, ofN_leI (by omega) (by omega)]
            omega
          | succ d ih =>
            intro n p M2 o6 o7 hn h0 hp1 h191 hR
            have hle : Int32.ofNat n ≤ b := by rw [w3, ofN_leI (by omega) (by omega)]; omega
            have hb24 : bet (Int32.ofNat n) 1 24 := ⟨by have := (ofN_leI (a := 1) (b := n) (by omega) (by omega)).mpr h0; exact this, (ofN_bd (N := 24) rfl (by omega) (by omega)).2⟩
            have hs1 : yfo (Sbvf A.1) n (d + 1) p = yfo (Sbvf A.1) (n + 1) d (Sbvf A.1 n p) := rfl
            have k195 := c195 (k := 1) h191 ok hb24
            rw [if_neg (by decide)] at k195
            have r5 := TR_ua hR (upd (rj A.1 (M2 192)) 14 (Int32.ofNat n))
            have g191 : (yUa M2 192 (upd (rj A.1 (M2 192)) 14 (Int32.ofNat n))) 191 = A.1 := (yUa_ne (by omega)).trans h191
            by_cases q4 : Soff A.1 (Int32.ofNat n) < p.2
            · have e : Sbvf A.1 n p = (Int32.ofNat n, Soff A.1 (Int32.ofNat n)) := by unfold Sbvf; rw [if_pos q4]
              obtain ⟨M4, m1, m2⟩ := ih (n + 1) (Int32.ofNat n, Soff A.1 (Int32.ofNat n)) _ (some (.int (Soff A.1 (Int32.ofNat n)))) (some (.int 1)) (by omega) (by omega) (m1_ofN (by omega)) g191 r5
              refine ⟨M4, yL.I e199_41 ?_, m2⟩
              rw [if_pos hle, k195, yCi_I, if_neg hp1, if_pos q4, hs1, e]
              refine yL.I e199_68 ?_
              rw [ofN_succ]
              exact m1
            · have e : Sbvf A.1 n p = p := by unfold Sbvf; rw [if_neg q4]
              obtain ⟨M4, m1, m2⟩ := ih (n + 1) p _ (some (.int (Soff A.1 (Int32.ofNat n)))) (some (.int 0)) (by omega) (by omega) hp1 g191 r5
              refine ⟨M4, yL.I e199_41 ?_, m2⟩
              rw [if_pos hle, k195, yCi_I, if_neg hp1, if_neg q4, hs1, e, ofN_succ]
              exact m1
        have e191 : (yU M 190 0 0) 191 = A.1 := (yU_ne (by omega)).trans h.1
        have k195 := c195 (k := 1) e191 ok q1
        rw [if_neg (by decide)] at k195
        have hm1 : ¬ a = -1 := by grind
        obtain ⟨M3, m1, m2⟩ := key (yx b - yx a) (yx a + 1) (a, Soff A.1 a) (yUa (yU M 190 0 0) 192 (upd (rj A.1 ((yU M 190 0 0) 192)) 14 a)) (some (.int (Soff A.1 a))) (some (.int 1)) (by omega) (by omega) hm1 ((yUa_ne (by omega)).trans e191) (TR_ua (TR_rfl _) _)
        have ea : a + 1 = Int32.ofNat (yx a + 1) := by
          conv => lhs; rw [x3]
          exact ofN_succ _
        have m0 : yX 199 41 [some (.ref 190), some (.int a), some (.int b), some (.int (-1)), some (.int 0), some (.int a), none, none] [] (yU M 190 0 0) 0 0 = yI (Sbv A.1 a b) M3 := by
          refine yL.I e199_41 ?_
          rw [if_pos hp.2.1, k195, yCi_I, if_pos rfl]
          refine yL.I e199_68 ?_
          rw [ea]
          exact m1
        rw [if_neg q3, if_pos hp, if_pos trivial, m0]
        exact RR.rdR h m2 rfl
    · have hn : ¬ (bet a 1 24 ∧ bet b a 24) := fun z => q2 ⟨by have := z.2.1; have := q1.1; grind, z.2.2⟩
      rw [if_pos q2, if_neg hn, c107_1, yCi_I, if_neg (by decide)]
      exact RR.th h rfl rfl
  · have hn : ¬ (bet a 1 24 ∧ bet b a 24) := fun z => q1 z.1
    rw [if_pos q1, if_neg hn, if_neg (by decide)]
    exact RR.th h rfl rfl
end TRR
