/-! a command in the class -/
def QC (M0 : yM) (L : Nat) (T : Nat → Int32) (K : Int32) (M : yM) (q : Nat) (t : y4) : Prop := CT M0 L T K M q false ∧ M 8 5 = t.1 ∧ M 8 6 = t.2.1 ∧ M 8 7 = t.2.2.1 ∧ M 8 8 = t.2.2.2
section CMD
variable {M0 : yM} {L : Nat} {T : Nat → Int32} {K : Int32}
theorem CT_kp {M : yM} {p : Nat} {b : Bool} (h : CT M0 L T K M p b) {j : Nat} {x : Int32} (hj : 5 ≤ j) : CT M0 L T K (yU M 8 j x) p b := by
  obtain ⟨h1, h2, h3, h4, h5, h6, h7, h8⟩ := h
  refine ⟨h1, h2, fun a ha => by rw [yU_ne ha]; exact h3 a ha, h4, ?_, ?_, ?_, ?_⟩
  · rw [yU_at, upd_eq, if_neg (by omega)]; exact h5
  · rw [yU_at, upd_eq, if_neg (by omega)]; exact h6
  · rw [yU_at, upd_eq, if_neg (by omega)]; exact h7
  · rw [yU_at, upd_eq, if_neg (by omega)]; exact h8
theorem c26 {M : yM} {a b d e : Int32} : yX 26 0 [some (.ref 8), some (.int a), some (.int b), some (.int d), some (.int e)] [] M 0 0 = yV (yU (yU (yU (yU M 8 5 a) 8 6 b) 8 7 d) 8 8 e) := yL.V e26 rfl
theorem TBk {a b d e : Int32} : TB (CT M0 L T K) (fun M => yCv false (yX 26 0 [some (.ref 8), some (.int a), some (.int b), some (.int d), some (.int e)] [] M 0 0) fun M' => yV M') := by
  intro M p hp
  refine ⟨yU (yU (yU (yU M 8 5 a) 8 6 b) 8 7 d) 8 8 e, ?_, CT_kp (CT_kp (CT_kp (CT_kp hp (by omega)) (by omega)) (by omega)) (by omega)⟩
  dsimp only
  rw [c26, yCv_V]
theorem TGk {a b d e : Int32} : TG (CT M0 L T K) (QC M0 L T K) (fun M => yCv false (yX 26 0 [some (.ref 8), some (.int a), some (.int b), some (.int d), some (.int e)] [] M 0 0) fun M' => yV M') (gP (a, b, d, e)) := by
  intro M p hp
  refine ⟨yU (yU (yU (yU M 8 5 a) 8 6 b) 8 7 d) 8 8 e, ?_, fun q z => ?_, fun q t z => ?_⟩
  · dsimp only
    rw [c26, yCv_V]
  · have z : (p, some (a, b, d, e)) = (q, none) := z
    cases z
  · have z : (p, some (a, b, d, e)) = (q, some t) := z
    cases z
    refine ⟨CT_kp (CT_kp (CT_kp (CT_kp hp (by omega)) (by omega)) (by omega)) (by omega), ?_, ?_, ?_, ?_⟩
    · rw [yU_at, upd_eq, if_neg (by omega), yU_at, upd_eq, if_neg (by omega), yU_at, upd_eq, if_neg (by omega), yU_at, upd_eq, if_pos rfl]
    · rw [yU_at, upd_eq, if_neg (by omega), yU_at, upd_eq, if_neg (by omega), yU_at, upd_eq, if_pos rfl]
    · rw [yU_at, upd_eq, if_neg (by omega), yU_at, upd_eq, if_pos rfl]
    · rw [yU_at, upd_eq, if_pos rfl]
-- the seven letters
theorem tk0 : TG (CT M0 L T K) (QC M0 L T K) (fun M => yCi false (yX 29 0 [some (.ref 8), none, none, none, none] [] M 0 0) fun v5 M4 => yCv false (yX 26 0 [some (.ref 8), some (.int 0), some (.int v5), some (.int 0), some (.int 0)] [] M4 0 0) fun M6 => yV M6) (gB (gA L T) fun a => gP (0, a, 0, 0)) := TG.bind (W := Vt) n29.2 (fun _ _ _ => trivial) (fun v _ => TBk) (fun v _ _ => TGk)
theorem tk1 : TG (CT M0 L T K) (QC M0 L T K) (fun M => yCi false (yX 30 0 [some (.ref 8), some (.int 1), some (.int 90), none, none, none] [] M 0 0) fun v9 M8 => yCi false (yX 28 0 [some (.ref 8), none] [] M8 0 0) fun v11 M10 => yCi false (yX 31 0 [some (.ref 8), some (.int 0), some (.int 1), none] [] M10 0 0) fun v13 M12 => yCv false (yX 26 0 [some (.ref 8), some (.int 1), some (.int v9), some (.int v11), some (.int v13)] [] M12 0 0) fun M14 => yV M14) (gB (gN L T 1 90) fun m => gB (gD L T 0 4) fun h => gB (gD L T 0 1) fun d => gP (1, m, (if bet h 0 3 then h else -1), d)) := by
  have b1 : ∀ m h : Int32, TB (CT M0 L T K) (fun M => yCi false (yX 31 0 [some (.ref 8), some (.int 0), some (.int 1), none] [] M 0 0) fun v13 M12 => yCv false (yX 26 0 [some (.ref 8), some (.int 1), some (.int m), some (.int h), some (.int v13)] [] M12 0 0) fun M14 => yV M14) := fun m h => TB.bind (RB31t (l := 0) (h := 1) rfl rfl (by omega) (by omega)) (fun _ _ => TBk)
  have g1 : ∀ m h : Int32, TG (CT M0 L T K) (QC M0 L T K) (fun M => yCi false (yX 31 0 [some (.ref 8), some (.int 0), some (.int 1), none] [] M 0 0) fun v13 M12 => yCv false (yX 26 0 [some (.ref 8), some (.int 1), some (.int m), some (.int h), some (.int v13)] [] M12 0 0) fun M14 => yV M14) (gB (gD L T 0 1) fun d => gP (1, m, h, d)) := fun m h => TG.bind (W := Vt) (RG31t (l := 0) (h := 1) rfl rfl (by omega) (by omega)) (fun _ _ _ => trivial) (fun _ _ => TBk) (fun _ _ _ => TGk)
  have b2 : ∀ m : Int32, TB (CT M0 L T K) (fun M => yCi false (yX 28 0 [some (.ref 8), none] [] M 0 0) fun v11 M10 => yCi false (yX 31 0 [some (.ref 8), some (.int 0), some (.int 1), none] [] M10 0 0) fun v13 M12 => yCv false (yX 26 0 [some (.ref 8), some (.int 1), some (.int m), some (.int v11), some (.int v13)] [] M12 0 0) fun M14 => yV M14) := fun m => TB.bind n28.1 (fun h _ => b1 m h)
  have g2 : ∀ m : Int32, TG (CT M0 L T K) (QC M0 L T K) (fun M => yCi false (yX 28 0 [some (.ref 8), none] [] M 0 0) fun v11 M10 => yCi false (yX 31 0 [some (.ref 8), some (.int 0), some (.int 1), none] [] M10 0 0) fun v13 M12 => yCv false (yX 26 0 [some (.ref 8), some (.int 1), some (.int m), some (.int v11), some (.int v13)] [] M12 0 0) fun M14 => yV M14) (gB (gD L T 0 4) fun h => gB (gD L T 0 1) fun d => gP (1, m, (if bet h 0 3 then h else -1), d)) := fun m => by
    have := TG.bind (W := Vt) n28.2 (fun _ _ _ => trivial) (fun h _ => b1 m h) (fun h _ _ => g1 m h)
    rw [gB_map] at this
    exact this
  exact TG.bind (W := Vt) n90.2 (fun _ _ _ => trivial) (fun m _ => b2 m) (fun m _ _ => g2 m)
theorem tk2 : TG (CT M0 L T K) (QC M0 L T K) (fun M => yCi false (yX 27 0 [some (.ref 8)] [] M 0 0) fun v17 M16 => yCi false (yX 30 0 [some (.ref 8), some (.int 0), some (.int 11), none, none, none] [] M16 0 0) fun v19 M18 => yCv false (yX 26 0 [some (.ref 8), some (.int 2), some (.int v17), some (.int v19), some (.int 1)] [] M18 0 0) fun M20 => yV M20) (gB (gN L T 0 13) fun a => gB (gN L T 0 11) fun b => gP (2, a, b, 1)) := TG.bind (W := Vt) n27.2 (fun _ _ _ => trivial) (fun _ _ => TB.bind n11.1 (fun _ _ => TBk)) (fun _ _ _ => TG.bind (W := Vt) n11.2 (fun _ _ _ => trivial) (fun _ _ => TBk) (fun _ _ _ => TGk))
theorem tk3 : TG (CT M0 L T K) (QC M0 L T K) (fun M => yCi false (yX 27 0 [some (.ref 8)] [] M 0 0) fun v23 M22 => yCi false (yX 27 0 [some (.ref 8)] [] M22 0 0) fun v25 M24 => yCv false (yX 26 0 [some (.ref 8), some (.int 3), some (.int v23), some (.int v25), some (.int 1)] [] M24 0 0) fun M26 => yV M26) (gB (gN L T 0 13) fun a => gB (gN L T 0 13) fun b => gP (3, a, b, 1)) := TG.bind (W := Vt) n27.2 (fun _ _ _ => trivial) (fun _ _ => TB.bind n27.1 (fun _ _ => TBk)) (fun _ _ _ => TG.bind (W := Vt) n27.2 (fun _ _ _ => trivial) (fun _ _ => TBk) (fun _ _ _ => TGk))
theorem tk4 : TG (CT M0 L T K) (QC M0 L T K) (fun M => yCi false (yX 31 0 [some (.ref 8), some (.int 0), some (.int 3), none] [] M 0 0) fun v29 M28 => yCi false (yX 31 0 [some (.ref 8), some (.int 0), some (.int 3), none] [] M28 0 0) fun v31 M30 => yCv false (yX 26 0 [some (.ref 8), some (.int 4), some (.int v29), some (.int v31), some (.int 0)] [] M30 0 0) fun M32 => yV M32) (gB (gD L T 0 3) fun a => gB (gD L T 0 3) fun b => gP (4, a, b, 0)) := TG.bind (W := Vt) (RG31t (l := 0) (h := 3) rfl rfl (by omega) (by omega)) (fun _ _ _ => trivial) (fun _ _ => TB.bind (RB31t (l := 0) (h := 3) rfl rfl (by omega) (by omega)) (fun _ _ => TBk)) (fun _ _ _ => TG.bind (W := Vt) (RG31t (l := 0) (h := 3) rfl rfl (by omega) (by omega)) (fun _ _ _ => trivial) (fun _ _ => TBk) (fun _ _ _ => TGk))
theorem tk5 {sv : Int32} : TG (CT M0 L T K) (QC M0 L T K) (fun M => yCi false (yX 30 0 [some (.ref 8), some (.int 1), some (.int 24), none, none, none] [] M 0 0) fun v35 M34 => yCv false (yX 26 0 [some (.ref 8), some (.int 5), some (.int sv), some (.int v35), some (.int 0)] [] M34 0 0) fun M36 => yV M36) (gB (gN L T 1 24) fun b => gP (5, sv, b, 0)) := TG.bind (W := Vt) n24.2 (fun _ _ _ => trivial) (fun _ _ => TBk) (fun _ _ _ => TGk)
theorem tk6 : TB (CT M0 L T K) (fun M => yCi false (yX 31 0 [some (.ref 8), some (.int 0), some (.int 3), none] [] M 0 0) fun v38 M37 => yCv false (yX 26 0 [some (.ref 8), some (.int 6), some (.int 4), some (.int v38), some (.int 0)] [] M37 0 0) fun M39 => yV M39) ∧ TG (CT M0 L T K) (QC M0 L T K) (fun M => yCi false (yX 31 0 [some (.ref 8), some (.int 0), some (.int 3), none] [] M 0 0) fun v38 M37 => yCv false (yX 26 0 [some (.ref 8), some (.int 6), some (.int 4), some (.int v38), some (.int 0)] [] M37 0 0) fun M39 => yV M39) (gB (gD L T 0 3) fun b => gP (6, 4, b, 0)) := ⟨TB.bind (RB31t (l := 0) (h := 3) rfl rfl (by omega) (by omega)) (fun _ _ => TBk), TG.bind (W := Vt) (RG31t (l := 0) (h := 3) rfl rfl (by omega) (by omega)) (fun _ _ _ => trivial) (fun _ _ => TBk) (fun _ _ _ => TGk)⟩
theorem seven {k : Nat} (h : k < 7) : Int32.ofNat k = 0 ∨ Int32.ofNat k = 1 ∨ Int32.ofNat k = 2 ∨ Int32.ofNat k = 3 ∨ Int32.ofNat k = 4 ∨ Int32.ofNat k = 5 ∨ Int32.ofNat k = 6 := by
  have : k = 0 ∨ k = 1 ∨ k = 2 ∨ k = 3 ∨ k = 4 ∨ k = 5 ∨ k = 6 := by omega
  rcases this with h | h | h | h | h | h | h <;> subst h <;> decide
theorem gT_none {sv : Int32} {p q : Nat} (h : gI L T 5 7 p = (q, none)) : gT L T sv p = (q, none) := gB_none h
theorem gT_some {sv k : Int32} {p q : Nat} (h : gI L T 5 7 p = (q, some k)) : gT L T sv p = (if k = 0 then gB (gA L T) fun a => gP (0, a, 0, 0) else if k = 1 then gB (gN L T 1 90) fun m => gB (gD L T 0 4) fun h => gB (gD L T 0 1) fun d => gP (1, m, (if bet h 0 3 then h else -1), d) else if k = 2 then gB (gN L T 0 13) fun a => gB (gN L T 0 11) fun b => gP (2, a, b, 1) else if k = 3 then gB (gN L T 0 13) fun a => gB (gN L T 0 13) fun b => gP (3, a, b, 1) else if k = 4 then gB (gD L T 0 3) fun a => gB (gD L T 0 3) fun b => gP (4, a, b, 0) else if k = 5 then gB (gN L T 1 24) fun b => gP (5, sv, b, 0) else gB (gD L T 0 3) fun b => gP (6, 4, b, 0)) q := gB_some h
theorem n25 {d : Nat} (hd : yC d) (hd8 : d ≠ 8) : TG (CT M0 L T K) (QC M0 L T K) (fun M => yX 25 0 [some (.ref 8), some (.ref d)] [] M 0 0) (gT L T (M0 d 2)) := by
  intro M p hp
  obtain ⟨v, M1, a1, a2, a3⟩ := c32 (q := 5) (n := 7) s_g_5 (by omega) hp
  obtain ⟨b1, b2, b3⟩ := a3 rfl
  rcases hg : gI L T 5 7 p with ⟨q, o⟩
  rw [hg] at b1 b2 b3
  have e := e25 hd (M := M)
  rw [a1, yCi_I] at e
  cases o with
  | none =>
    have e1 : v = -1 := b3 rfl
    subst e1
    obtain ⟨M2, d1, d2⟩ := tk6.1 M1 q b1
    rw [if_neg (by decide), if_neg (by decide), if_neg (by decide), if_neg (by decide), if_neg (by decide), if_neg (by decide)] at e
    refine ⟨M2, yL.V e d1, fun q' z => ?_, fun q' t z => ?_⟩
    · rw [gT_none hg] at z
      cases z
      exact d2
    · rw [gT_none hg] at z
      cases z
  | some w =>
    have e1 : v = w := b2 w rfl
    subst e1
    obtain ⟨k, k1, k2⟩ := gI_v (L := L) (T := T) (q := 5) (n := 7) (p := p) (by omega) (v := v) (by rw [hg])
    have fin : ∀ {X : yM → Option yRes} {G : Nat → Nat × Option y4}, TG (CT M0 L T K) (QC M0 L T K) X G → yL (X M1) (yX 25 0 [some (.ref 8), some (.ref d)] [] M 0 0) → gT L T (M0 d 2) p = G q → ∃ M', yX 25 0 [some (.ref 8), some (.ref d)] [] M 0 0 = yV M' ∧ (∀ q', gT L T (M0 d 2) p = (q', none) → CT M0 L T K M' q' true) ∧ ∀ q' t, gT L T (M0 d 2) p = (q', some t) → QC M0 L T K M' q' t := by
      intro X G h e g
      obtain ⟨M2, d1, d2, d3⟩ := h M1 q b1
      exact ⟨M2, yL.V e d1, fun q' z => d2 q' (g.symm.trans z), fun q' t z => d3 q' t (g.symm.trans z)⟩
    have g := gT_some (sv := M0 d 2) hg
    rcases seven k1 with h | h | h | h | h | h | h <;> rw [h] at k2 <;> subst k2
    · rw [if_pos rfl] at e g
      exact fin tk0 e g
    · rw [if_neg (by decide), if_pos rfl] at e g
      exact fin tk1 e g
    · rw [if_neg (by decide), if_neg (by decide), if_pos rfl] at e g
      exact fin tk2 e g
    · rw [if_neg (by decide), if_neg (by decide), if_neg (by decide), if_pos rfl] at e g
      exact fin tk3 e g
    · rw [if_neg (by decide), if_neg (by decide), if_neg (by decide), if_neg (by decide), if_pos rfl] at e g
      exact fin tk4 e g
    · rw [if_neg (by decide), if_neg (by decide), if_neg (by decide), if_neg (by decide), if_neg (by decide), if_pos rfl] at e g
      rw [b1.2.2.1 d hd8] at e
      exact fin tk5 e g
    · rw [if_neg (by decide), if_neg (by decide), if_neg (by decide), if_neg (by decide), if_neg (by decide), if_neg (by decide)] at e g
      exact fin tk6.2 e g
end CMD
