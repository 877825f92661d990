/-! both sides over one abstract state: the row, what is remembered, what is saved, the text -/
abbrev yAb : Type := yRow × (Nat × (Nat → yRow)) × ((Nat → Bool) × (Nat → yRow)) × (Nat × (Nat → Int32))
def Aok (A : yAb) : Prop := rok A.1 ∧ acy A.1 ∧ A.2.1.1 ≤ 14 ∧ (∀ u, u < A.2.1.1 → rok (A.2.1.2 u) ∧ acy (A.2.1.2 u)) ∧ (∀ s, s < 2 → A.2.2.1.1 s = true → rok (A.2.2.1.2 s) ∧ acy (A.2.2.1.2 s)) ∧ A.2.2.2.1 ≤ 120 ∧ ∀ j, j < A.2.2.2.1 → bet (A.2.2.2.2 j) 0 255
def SlC (M : yM) (sv : Nat → Bool) (kp : Nat → yRow) : Prop := ∀ s, s < 2 → M 189 s = (if sv s = true then 1 else 0) ∧ (sv s = true → rc M (171 + 9 * s) (kp s))
def TxC (M : yM) (L : Nat) (T : Nat → Int32) : Prop := M 8 1 = Int32.ofNat L ∧ ∀ j, j < L → M 9 j = T j
def RelC (M : yM) (A : yAb) : Prop := rc M 11 A.1 ∧ MemC M A.2.1.1 A.2.1.2 ∧ SlC M A.2.2.1.1 A.2.2.1.2 ∧ TxC M A.2.2.2.1 A.2.2.2.2
section FR
variable {M M' : yM} {A : yAb}
theorem MemC_fr {c : Nat} {m : Nat → yRow} (h : MemC M c m) (hf : ∀ a, 42 ≤ a → a ≤ 169 → M' a = M a) : MemC M' c m := by
  obtain ⟨x, h1, h2, h3, h4⟩ := h
  refine ⟨x, h1, by rw [hf 42 (by omega) (by omega)]; exact h2, by rw [hf 42 (by omega) (by omega)]; exact h3, fun u hu => rc_fr (h4 u hu) (fun a b1 b2 => hf a (by omega) (by omega))⟩
theorem SlC_fr {sv : Nat → Bool} {kp : Nat → yRow} (h : SlC M sv kp) (hf : ∀ a, 171 ≤ a → a ≤ 189 → M' a = M a) : SlC M' sv kp := fun s hs0 => ⟨by rw [hf 189 (by omega) (by omega)]; exact (h s hs0).1, fun q => rc_fr ((h s hs0).2 q) (fun a b1 b2 => hf a (by omega) (by omega))⟩
theorem TxC_fr {L : Nat} {T : Nat → Int32} (h : TxC M L T) (h8 : M' 8 1 = M 8 1) (h9 : M' 9 = M 9) : TxC M' L T := ⟨h8.trans h.1, fun j hj => by rw [h9]; exact h.2 j hj⟩
/-- what only the plans' places changed -/
theorem RelC_fr (h : RelC M A) (hf : ∀ a, a ≠ 10 → (a < 20 ∨ 41 < a) → a < 190 → M' a = M a) : RelC M' A := ⟨rc_fr h.1 (fun a b1 b2 => hf a (by omega) (by omega) (by omega)), MemC_fr h.2.1 (fun a b1 b2 => hf a (by omega) (by omega) (by omega)), SlC_fr h.2.2.1 (fun a b1 b2 => hf a (by omega) (by omega) (by omega)), TxC_fr h.2.2.2 (by rw [hf 8 (by omega) (by omega) (by omega)]) (hf 9 (by omega) (by omega) (by omega))⟩
end FR
/-- an outcome: what is thrown (0 place, 1 argument, 2 state), or what is answered -/
abbrev yO : Type := Nat ⊕ Int32
def oX (o : yO) (M : yM) : Option yRes := match o with
  | .inl E => yTw E M
  | .inr v => yI v M
def ocd (cd : Nat → Int32) (o : yO) : Int32 := match o with
  | .inl E => cd E
  | .inr _ => 0
def CR (X : Option yRes) (M : yM) (o : yO) (A' : yAb) : Prop := ∃ M', X = oX o M' ∧ RelC M' A' ∧ ∀ a, (a = 0 ∨ 190 ≤ a) → M' a = M a
theorem oX_ok (o : yO) (M : yM) : oX o M ≠ none := by
  cases o <;> exact fun h => by cases h
theorem CR.of {X Y : Option yRes} {M : yM} {o : yO} {A' : yAb} (h : CR X M o A') (e : yL X Y) : CR Y M o A' := by
  obtain ⟨M', h1, h2, h3⟩ := h
  exact ⟨M', yL.to e h1 (oX_ok o M'), h2, h3⟩
theorem CR.eq {X Y : Option yRes} {M : yM} {o : yO} {A' : yAb} (h : CR X M o A') (e : Y = X) : CR Y M o A' := e ▸ h
/-- the same outcome handed on -/
theorem CR.pass {X : Option yRes} {M : yM} {o : yO} {A' : yAb} (h : CR X M o A') : CR (yCi true X fun v M => yI v M) M o A' := by
  obtain ⟨M', h1, h2, h3⟩ := h
  refine ⟨M', ?_, h2, h3⟩
  rw [h1]
  cases o <;> rfl
/-- a wrapper of the law -/
theorem CR.wrap {X Y : Option yRes} {M : yM} {o : yO} {A' : yAb} {cd : Nat → Int32} {g : Nat → yM → Option yRes} (h : CR X M o A') (e : yL (yCh X (fun v M => yLet (yU M 202 0 v) fun M => yI 0 M) g) Y) (hg : ∀ E M, o = .inl E → g E M = yI (cd E) M) : ∃ M', Y = yI (ocd cd o) M' ∧ (∀ v, o = .inr v → M' 202 0 = v) ∧ RelC M' A' ∧ ∀ a, (a = 0 ∨ 190 ≤ a) → a ≠ 202 → M' a = M a := by
  obtain ⟨M', h1, h2, h3⟩ := h
  cases o with
  | inl E =>
    refine ⟨M', yL.I e ?_, (fun v z => by cases z), h2, fun a b1 _ => h3 a b1⟩
    rw [h1]
    exact hg E M' rfl
  | inr v =>
    refine ⟨yU M' 202 0 v, yL.I e ?_, fun w z => ?_, ?_, fun a b1 b2 => by rw [yU_ne b2]; exact h3 a b1⟩
    · rw [h1]; rfl
    · cases z
      rw [yU_at, upd_eq, if_pos rfl]
    · exact RelC_fr h2 (fun a b1 b2 b3 => yU_ne (by omega))
-- refusals
theorem c91_0 {M : yM} : yX 91 0 [some (.int 0)] [] M 0 0 = yTw 0 M := yL.T e91 (if_pos rfl)
theorem c91_1 {M : yM} : yX 91 0 [some (.int 1)] [] M 0 0 = yV M := yL.V e91 (if_neg (by decide))
theorem c92_0 {M : yM} : yX 92 0 [some (.int 0)] [] M 0 0 = yTw 1 M := yL.T e92 (if_pos rfl)
theorem c92_1 {M : yM} : yX 92 0 [some (.int 1)] [] M 0 0 = yV M := yL.V e92 (if_neg (by decide))
theorem c93_0 {M : yM} : yX 93 0 [some (.int 0)] [] M 0 0 = yTw 2 M := yL.T e93 (if_pos rfl)
theorem c93_1 {M : yM} : yX 93 0 [some (.int 1)] [] M 0 0 = yV M := yL.V e93 (if_neg (by decide))
theorem c90 {f : Int32} {M : yM} : yX 90 0 [some (.int f)] [] M 0 0 = if f = 1 then yTw 0 M else if f = 2 then yTw 1 M else if f = 3 then yTw 2 M else yV M := by
  by_cases h1 : f = 1
  · rw [if_pos h1]
    refine yL.T e90 ?_
    rw [if_pos h1, c91_0]
    rfl
  · rw [if_neg h1]
    by_cases h2 : f = 2
    · rw [if_pos h2]
      refine yL.T e90 ?_
      rw [if_neg h1, c91_1, yCv_V, if_pos h2, c92_0]
      rfl
    · rw [if_neg h2]
      by_cases h3 : f = 3
      · rw [if_pos h3]
        refine yL.T e90 ?_
        rw [if_neg h1, c91_1, yCv_V, if_neg h2, c92_1, yCv_V, if_pos h3, c93_0]
        rfl
      · rw [if_neg h3]
        refine yL.V e90 ?_
        rw [if_neg h1, c91_1, yCv_V, if_neg h2, c92_1, yCv_V, if_neg h3, c93_1, yCv_V]
theorem flt_v (r : yRow) (act a b d : Int32) : flt r act a b d = 0 ∨ flt r act a b d = 1 ∨ flt r act a b d = 2 ∨ flt r act a b d = 3 := by
  unfold flt
  repeat' split
  all_goals first | exact Or.inl rfl | exact Or.inr (Or.inl rfl) | exact Or.inr (Or.inr (Or.inl rfl)) | exact Or.inr (Or.inr (Or.inr rfl))
/-- an action done: the row before it remembered -/
def aAct (A : yAb) (act a b d : Int32) : yAb := (prfR A.1 act a b d, (min (A.2.1.1 + 1) 14, mpu A.2.1.1 A.2.1.2 A.1), A.2.2)
def oAct (A : yAb) (act a b d : Int32) : yO := if flt A.1 act a b d = 1 then .inl 0 else if flt A.1 act a b d = 2 then .inl 1 else if flt A.1 act a b d = 3 then .inl 2 else .inr (prfV A.1 act a b d)
def nAct (A : yAb) (act a b d : Int32) : yAb := if flt A.1 act a b d = 0 then aAct A act a b d else A
theorem oAct_0 {A : yAb} {act a b d : Int32} (h : flt A.1 act a b d = 0) : oAct A act a b d = .inr (prfV A.1 act a b d) ∧ nAct A act a b d = aAct A act a b d := by
  unfold oAct nAct
  rw [h]
  exact ⟨rfl, rfl⟩
theorem aAct_ok {A : yAb} (hA : Aok A) {act a b d : Int32} (hd : bet d 0 1) (hf : flt A.1 act a b d = 0) : Aok (aAct A act a b d) := by
  obtain ⟨h1, h2, h3, h4, h5, h6, h7⟩ := hA
  obtain ⟨p1, p2⟩ := prf_ok h1 h2 hd hf
  refine ⟨p1, p2, Nat.min_le_right _ _, fun u hu => ?_, h5, h6, h7⟩
  show rok (mpu A.2.1.1 A.2.1.2 A.1 u) ∧ acy (mpu A.2.1.1 A.2.1.2 A.1 u)
  have hu : u < min (A.2.1.1 + 1) 14 := hu
  unfold mpu
  by_cases hc : A.2.1.1 = 14
  · rw [if_pos hc]
    by_cases hu2 : u = 13
    · rw [if_pos hu2]; exact ⟨h1, h2⟩
    · rw [if_neg hu2]; exact h4 (u + 1) (by omega)
  · rw [if_neg hc]
    by_cases hu2 : u = A.2.1.1
    · rw [if_pos hu2]; exact ⟨h1, h2⟩
    · rw [if_neg hu2]; exact h4 u (by omega)
theorem nAct_ok {A : yAb} (hA : Aok A) {act a b d : Int32} (hd : bet d 0 1) : Aok (nAct A act a b d) := by
  unfold nAct
  split
  · next h => exact aAct_ok hA hd h
  · exact hA
theorem c89 {M : yM} {A : yAb} (h : RelC M A) (hA : Aok A) {act a b d : Int32} : CR (yX 89 0 [some (.ref 7), some (.int act), some (.int a), some (.int b), some (.int d)] [] M 0 0) M (oAct A act a b d) (nAct A act a b d) := by
  obtain ⟨r1, r2, r3, r4⟩ := id h
  have ok := hA.1
  have e6' := c6 yC11 r1 ok (act := act) (a := a) (b := b) (d := d)
  have z1 : ¬ ((0 : Int32) = 1) ∧ ¬ ((0 : Int32) = 2) ∧ ¬ ((0 : Int32) = 3) ∧ ¬ ((2 : Int32) = 1) ∧ ¬ ((3 : Int32) = 1) ∧ ¬ ((3 : Int32) = 2) := by decide
  obtain ⟨y1, y2, y3, y4, y5, y6⟩ := z1
  rcases flt_v A.1 act a b d with hf | hf | hf | hf
  · obtain ⟨M2, a1, a2, a3⟩ := c36 ok r1 r2 hA.2.2.1
    have r1' : rc M2 11 A.1 := rc_fr r1 (fun q b1 b2 => a3 q (by omega))
    obtain ⟨M3, b1, b2, b3⟩ := c8 yC11 r1' ok hf
    rw [(oAct_0 hf).1, (oAct_0 hf).2]
    refine ⟨M3, yL.I e89 ?_, ⟨b2, MemC_fr a2 (fun q c1 c2 => b3 q (by omega)), SlC_fr r3 (fun q c1 c2 => by rw [b3 q (by omega), a3 q (by omega)]), TxC_fr r4 (by rw [b3 8 (by omega), a3 8 (by omega)]) (by rw [b3 9 (by omega), a3 9 (by omega)])⟩, fun q hq => by rw [b3 q (by omega), a3 q (by omega)]⟩
    rw [e6', yCi_I, c90, hf, if_neg y1, if_neg y2, if_neg y3, yCv_V, a1, yCv_V, b1, yCi_I]
  · have e1 : oAct A act a b d = .inl 0 := by unfold oAct; rw [if_pos hf]
    have e2 : nAct A act a b d = A := by unfold nAct; rw [hf]; exact if_neg (by decide)
    rw [e1, e2]
    refine ⟨M, yL.T e89 ?_, h, fun _ _ => rfl⟩
    rw [e6', yCi_I, c90, hf, if_pos rfl]
    rfl
  · have e1 : oAct A act a b d = .inl 1 := by unfold oAct; rw [hf, if_neg y4, if_pos rfl]
    have e2 : nAct A act a b d = A := by unfold nAct; rw [hf]; exact if_neg (by decide)
    rw [e1, e2]
    refine ⟨M, yL.T e89 ?_, h, fun _ _ => rfl⟩
    rw [e6', yCi_I, c90, hf, if_neg y4, if_pos rfl]
    rfl
  · have e1 : oAct A act a b d = .inl 2 := by unfold oAct; rw [hf, if_neg y5, if_neg y6, if_pos rfl]
    have e2 : nAct A act a b d = A := by unfold nAct; rw [hf]; exact if_neg (by decide)
    rw [e1, e2]
    refine ⟨M, yL.T e89 ?_, h, fun _ _ => rfl⟩
    rw [e6', yCi_I, c90, hf, if_neg y5, if_neg y6, if_pos rfl]
    rfl
section PUBA
variable {M : yM} {A : yAb}
theorem c70 (h : RelC M A) (hA : Aok A) {a : Int32} : CR (yX 70 0 [some (.ref 7), some (.int a)] [] M 0 0) M (oAct A 0 a 0 0) (nAct A 0 a 0 0) := (CR.pass (c89 h hA)).of e70
theorem c71 (h : RelC M A) (hA : Aok A) {a b : Int32} : CR (yX 71 0 [some (.ref 7), some (.int a), some (.int b)] [] M 0 0) M (oAct A 7 a b 0) (nAct A 7 a b 0) := (CR.pass (c89 h hA)).of e71
theorem c73 (h : RelC M A) (hA : Aok A) {a b : Int32} {p : Prop} [Decidable p] : CR (yX 73 0 [some (.ref 7), some (.int a), some (.int b), some (.int (yb p))] [] M 0 0) M (oAct A 1 a b (yb p)) (nAct A 1 a b (yb p)) := ((CR.pass (c89 h hA)).eq (by rw [c98, yCi_I])).of e73
theorem c74 (h : RelC M A) (hA : Aok A) {a b : Int32} : CR (yX 74 0 [some (.ref 7), some (.int a), some (.int b)] [] M 0 0) M (oAct A 8 a b 0) (nAct A 8 a b 0) := (CR.pass (c89 h hA)).of e74
theorem c75 (h : RelC M A) (hA : Aok A) {a b : Int32} {p : Prop} [Decidable p] : CR (yX 75 0 [some (.ref 7), some (.int a), some (.int b), some (.int (yb p))] [] M 0 0) M (oAct A 2 a b (yb p)) (nAct A 2 a b (yb p)) := ((CR.pass (c89 h hA)).eq (by rw [c98, yCi_I])).of e75
theorem c76 (h : RelC M A) (hA : Aok A) {a b : Int32} {p : Prop} [Decidable p] : CR (yX 76 0 [some (.ref 7), some (.int a), some (.int b), some (.int (yb p))] [] M 0 0) M (oAct A 3 a b (yb p)) (nAct A 3 a b (yb p)) := ((CR.pass (c89 h hA)).eq (by rw [c98, yCi_I])).of e76
theorem c77 (h : RelC M A) (hA : Aok A) {a b : Int32} : CR (yX 77 0 [some (.ref 7), some (.int a), some (.int b)] [] M 0 0) M (oAct A 4 a b 0) (nAct A 4 a b 0) := (CR.pass (c89 h hA)).of e77
theorem c78 (h : RelC M A) (hA : Aok A) {a b : Int32} : CR (yX 78 0 [some (.ref 7), some (.int a), some (.int b)] [] M 0 0) M (oAct A 6 a b 0) (nAct A 6 a b 0) := (CR.pass (c89 h hA)).of e78
/-- servings answer all spoons -/
def oSrv (A : yAb) (a b : Int32) : yO := match oAct A 5 a b 0 with
  | .inl E => .inl E
  | .inr v => .inr (Sall (prfR A.1 5 a b 0) v)
theorem flt5 {r : yRow} {a b : Int32} (hf : flt r 5 a b 0 = 0) : bet a 1 24 ∧ bet b 1 24 := by
  apply Classical.byContradiction
  intro z
  unfold flt at hf
  rw [if_neg (by decide), if_neg (by decide), if_neg (by decide), if_neg (by decide), if_neg (by decide), if_pos rfl, if_neg z] at hf
  exact absurd hf (by decide)
theorem c72 (h : RelC M A) (hA : Aok A) {a b : Int32} : CR (yX 72 0 [some (.ref 7), some (.int a), some (.int b)] [] M 0 0) M (oSrv A a b) (nAct A 5 a b 0) := by
  obtain ⟨M', h1, h2, h3⟩ := c89 h hA (act := 5) (a := a) (b := b) (d := 0)
  unfold oSrv
  cases ho : oAct A 5 a b 0 with
  | inl E =>
    rw [ho] at h1
    refine ⟨M', yL.T e72 ?_, h2, h3⟩
    rw [h1]
    rfl
  | inr v =>
    rw [ho] at h1
    have hf : flt A.1 5 a b 0 = 0 := by
      rcases flt_v A.1 5 a b 0 with hf | hf | hf | hf
      · exact hf
      · unfold oAct at ho; rw [hf, if_pos rfl] at ho; cases ho
      · unfold oAct at ho; rw [hf, if_neg (by decide), if_pos rfl] at ho; cases ho
      · unfold oAct at ho; rw [hf, if_neg (by decide), if_neg (by decide), if_pos rfl] at ho; cases ho
    have hv : v = b := by
      have := (oAct_0 hf).1
      rw [ho] at this
      have := Sum.inr.inj this
      rw [this]
      rfl
    have hq := flt5 hf
    have hok := (prf_ok hA.1 hA.2.1 (d := 0) ⟨by decide, by decide⟩ hf).1
    rw [(oAct_0 hf).2] at h2 ⊢
    refine ⟨M', yL.I e72 ?_, h2, h3⟩
    rw [h1]
    show (yCi false (yX 15 0 [some (.ref 11), some (.int v), none, none] [] M' 0 0) fun v4 M3 => yI v4 M3) = _
    rw [hv, c15 yC11 h2.1 hok hq.2, yCi_I]
    rfl
end PUBA
