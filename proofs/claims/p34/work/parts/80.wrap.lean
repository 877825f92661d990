/-! which exceptions can come; the law's wrappers over the abstract state -/
def oE (S : Nat → Prop) (o : yO) : Prop := ∀ E, o = .inl E → S E
def E0 (E : Nat) : Prop := E = 0
def E1 (E : Nat) : Prop := E = 1
def E2 (E : Nat) : Prop := E = 2
def E01 (E : Nat) : Prop := E = 0 ∨ E = 1
def E02 (E : Nat) : Prop := E = 0 ∨ E = 2
def E12 (E : Nat) : Prop := E = 1 ∨ E = 2
section OES
variable {S : Nat → Prop}
theorem oE_r {v : Int32} : oE S (.inr v) := fun E z => by cases z
theorem oE_l {n : Nat} (h : S n) : oE S (.inl n) := fun E z => by cases z; exact h
theorem oE_ite {c : Prop} [Decidable c] {a b : yO} (h1 : oE S a) (h2 : oE S b) : oE S (if c then a else b) := by
  split
  · exact h1
  · exact h2
theorem oE_act {A : yAb} {act a b d : Int32} (h1 : flt A.1 act a b d = 1 → S 0) (h2 : flt A.1 act a b d = 2 → S 1) (h3 : flt A.1 act a b d = 3 → S 2) : oE S (oAct A act a b d) := by
  unfold oAct
  split
  · next h => exact oE_l (h1 h)
  split
  · next h => exact oE_l (h2 h)
  split
  · next h => exact oE_l (h3 h)
  · exact oE_r
end OES
section FLN
variable {r : yRow} {a b d : Int32}
theorem fn_0_1 : ¬ flt r 0 a b d = 1 := by
  intro h
  unfold flt at h
  rw [if_pos rfl] at h
  repeat' split at h
  all_goals exact absurd h (by decide)
theorem fn_1_1 : ¬ flt r 1 a b d = 1 := by
  intro h
  unfold flt at h
  rw [if_neg (by decide), if_pos rfl] at h
  repeat' split at h
  all_goals exact absurd h (by decide)
theorem fn_2_2 : ¬ flt r 2 a b d = 2 := by
  intro h
  unfold flt at h
  rw [if_neg (by decide), if_neg (by decide), if_pos rfl] at h
  repeat' split at h
  all_goals exact absurd h (by decide)
theorem fn_2_3 : ¬ flt r 2 a b d = 3 := by
  intro h
  unfold flt at h
  rw [if_neg (by decide), if_neg (by decide), if_pos rfl] at h
  repeat' split at h
  all_goals exact absurd h (by decide)
theorem fn_3_2 : ¬ flt r 3 a b d = 2 := by
  intro h
  unfold flt at h
  rw [if_neg (by decide), if_neg (by decide), if_neg (by decide), if_pos rfl] at h
  repeat' split at h
  all_goals exact absurd h (by decide)
theorem fn_4_3 : ¬ flt r 4 a b d = 3 := by
  intro h
  unfold flt at h
  rw [if_neg (by decide), if_neg (by decide), if_neg (by decide), if_neg (by decide), if_pos rfl] at h
  repeat' split at h
  all_goals exact absurd h (by decide)
theorem fn_5_1 : ¬ flt r 5 a b d = 1 := by
  intro h
  unfold flt at h
  rw [if_neg (by decide), if_neg (by decide), if_neg (by decide), if_neg (by decide), if_neg (by decide), if_pos rfl] at h
  repeat' split at h
  all_goals exact absurd h (by decide)
theorem fn_5_3 : ¬ flt r 5 a b d = 3 := by
  intro h
  unfold flt at h
  rw [if_neg (by decide), if_neg (by decide), if_neg (by decide), if_neg (by decide), if_neg (by decide), if_pos rfl] at h
  repeat' split at h
  all_goals exact absurd h (by decide)
theorem fn_6_1 : ¬ flt r 6 a b d = 1 := by
  intro h
  unfold flt at h
  rw [if_neg (by decide), if_neg (by decide), if_neg (by decide), if_neg (by decide), if_neg (by decide), if_neg (by decide), if_pos rfl] at h
  repeat' split at h
  all_goals exact absurd h (by decide)
theorem fn_6_3 : ¬ flt r 6 a b d = 3 := by
  intro h
  unfold flt at h
  rw [if_neg (by decide), if_neg (by decide), if_neg (by decide), if_neg (by decide), if_neg (by decide), if_neg (by decide), if_pos rfl] at h
  repeat' split at h
  all_goals exact absurd h (by decide)
theorem fn_7_3 : ¬ flt r 7 a b d = 3 := by
  intro h
  unfold flt at h
  rw [if_neg (by decide), if_neg (by decide), if_neg (by decide), if_neg (by decide), if_neg (by decide), if_neg (by decide), if_neg (by decide), if_pos rfl] at h
  repeat' split at h
  all_goals exact absurd h (by decide)
theorem fn_8_3 : ¬ flt r 8 a b d = 3 := by
  intro h
  unfold flt at h
  rw [if_neg (by decide), if_neg (by decide), if_neg (by decide), if_neg (by decide), if_neg (by decide), if_neg (by decide), if_neg (by decide), if_neg (by decide)] at h
  repeat' split at h
  all_goals exact absurd h (by decide)
end FLN
section OXS
variable {A : yAb} {r g : yRow} {a b d : Int32}
theorem x_app : oE E12 (oApp A a) := oE_ite (oE_ite oE_r (oE_l (Or.inr rfl))) (oE_l (Or.inl rfl))
theorem x_ld : oE E2 (oLd A g) := oE_ite (oE_l rfl) oE_r
theorem x_abt : oE E1 (oAbt r a) := oE_ite oE_r (oE_l rfl)
theorem x_ing : oE E01 (oIng r a b) := oE_ite (oE_ite oE_r (oE_l (Or.inr rfl))) (oE_l (Or.inl rfl))
theorem x_spn : oE E01 (oSpn r a b) := oE_ite (oE_ite oE_r (oE_l (Or.inr rfl))) (oE_l (Or.inl rfl))
theorem x_stp : oE E01 (oStp r a b) := oE_ite (oE_ite oE_r (oE_l (Or.inr rfl))) (oE_l (Or.inl rfl))
theorem x_bgn : oE E0 (oBgn r a) := oE_ite oE_r (oE_l rfl)
theorem x_pcs : oE E0 (oPcs r a) := oE_ite oE_r (oE_l rfl)
theorem x_set : oE E1 (oSet r a) := oE_ite oE_r (oE_l rfl)
theorem x_dur : oE E1 (oDur r a b) := oE_ite oE_r (oE_l rfl)
theorem x_und : oE E2 (oUnd A) := oE_ite (oE_l rfl) oE_r
theorem x_sav : oE E0 (oSav A a) := oE_ite oE_r (oE_l rfl)
theorem x_res : oE E02 (oRes A a) := oE_ite (oE_ite oE_r (oE_l (Or.inr rfl))) (oE_l (Or.inl rfl))
theorem x_pan : oE E01 (oPan r g a b) := oE_ite (oE_ite oE_r (oE_l (Or.inr rfl))) (oE_l (Or.inl rfl))
theorem x_svd : oE E1 (oSvd r a b) := oE_ite oE_r (oE_l rfl)
theorem x_slk : oE E0 (oSlk r g a) := oE_ite oE_r (oE_l rfl)
theorem x_bsv : oE E1 (oBsv r a b) := oE_ite oE_r (oE_l rfl)
theorem x_run {w : Int64} : oE E1 (oRun r g a w) := oE_ite (oE_ite oE_r (oE_l rfl)) (oE_l rfl)
theorem x_sim {w : Int64} : oE E1 (oSim r g w a) := oE_ite oE_r (oE_l rfl)
theorem x_a0 : oE E12 (oAct A 0 a b d) := oE_act (fun h => absurd h fn_0_1) (fun _ => Or.inl rfl) (fun _ => Or.inr rfl)
theorem x_a1 : oE E12 (oAct A 1 a b d) := oE_act (fun h => absurd h fn_1_1) (fun _ => Or.inl rfl) (fun _ => Or.inr rfl)
theorem x_a2 : oE E0 (oAct A 2 a b d) := oE_act (fun _ => rfl) (fun h => absurd h fn_2_2) (fun h => absurd h fn_2_3)
theorem x_a3 : oE E02 (oAct A 3 a b d) := oE_act (fun _ => Or.inl rfl) (fun h => absurd h fn_3_2) (fun _ => Or.inr rfl)
theorem x_a4 : oE E01 (oAct A 4 a b d) := oE_act (fun _ => Or.inl rfl) (fun _ => Or.inr rfl) (fun h => absurd h fn_4_3)
theorem x_a5 : oE E1 (oAct A 5 a b d) := oE_act (fun h => absurd h fn_5_1) (fun _ => rfl) (fun h => absurd h fn_5_3)
theorem x_a6 : oE E1 (oAct A 6 a b d) := oE_act (fun h => absurd h fn_6_1) (fun _ => rfl) (fun h => absurd h fn_6_3)
theorem x_a7 : oE E01 (oAct A 7 a b d) := oE_act (fun _ => Or.inl rfl) (fun _ => Or.inr rfl) (fun h => absurd h fn_7_3)
theorem x_a8 : oE E01 (oAct A 8 a b d) := oE_act (fun _ => Or.inl rfl) (fun _ => Or.inr rfl) (fun h => absurd h fn_8_3)
theorem x_srv : oE E1 (oSrv A a b) := by
  have h := x_a5 (A := A) (a := a) (b := b) (d := 0)
  intro E z
  unfold oSrv at z
  cases ho : oAct A 5 a b 0 with
  | inl E' =>
    rw [ho] at z
    have z : (Sum.inl E' : yO) = Sum.inl E := z
    cases z
    exact h E ho
  | inr v =>
    rw [ho] at z
    have z : (Sum.inr (Sall (prfR A.1 5 a b 0) v) : yO) = Sum.inl E := z
    cases z
end OXS
/-- what a wrapper answers -/
def ol (o : yO) : Int64 := match o with
  | .inl E => if E = 0 then -9000000000000000001 else if E = 1 then -9000000000000000002 else -9000000000000000003
  | .inr v => v.toInt64
def LW (A : yAb) (M : yM) : Prop := RelC M A ∧ Aok A ∧ Atg A
def fr (M M' : yM) : Prop := ∀ a, (a = 0 ∨ 190 ≤ a) → M' a = M a
theorem fr.rf {M : yM} : fr M M := fun _ _ => rfl
theorem fr.tr {M M1 M2 : yM} (h : fr M M1) (h2 : fr M1 M2) : fr M M2 := fun a ha => (h2 a ha).trans (h a ha)
def LJ (X : Option yRes) (M : yM) (v : Int64) (A' : yAb) : Prop := ∃ M', X = yJr v M' ∧ LW A' M' ∧ fr M M'
def LI (X : Option yRes) (M : yM) (v : Int32) (A' : yAb) : Prop := ∃ M', X = yI v M' ∧ LW A' M' ∧ fr M M'
def St (M0 : yM) (A : yAb) (M : yM) : Prop := LW A M ∧ fr M0 M
def Ret (X : Option yRes) (Q : (Option Value ⊕ Nat) → yM → Prop) : Prop := ∃ o M', X = some (o, M') ∧ Q o M'
section RET
variable {X Y : Option yRes} {M M0 : yM} {A A' : yAb} {Q : (Option Value ⊕ Nat) → yM → Prop}
theorem Ret.E (e : yL X Y) (h : Ret X Q) : Ret Y Q := by
  obtain ⟨o, M', h1, h2⟩ := h
  exact ⟨o, M', e _ h1, h2⟩
theorem Ret.cj {v : Int64} {z : Bool} {f : Int64 → yM → Option yRes} (hS : St M0 A M) (h : LW A M → LJ X M v A') (hf : ∀ M', St M0 A' M' → Ret (f v M') Q) : Ret (yCj z X f) Q := by
  obtain ⟨M', h1, h2, h3⟩ := h hS.1
  rw [h1]
  exact hf M' ⟨h2, hS.2.tr h3⟩
theorem Ret.ci {v : Int32} {z : Bool} {f : Int32 → yM → Option yRes} (hS : St M0 A M) (h : LW A M → LI X M v A') (hf : ∀ M', St M0 A' M' → Ret (f v M') Q) : Ret (yCi z X f) Q := by
  obtain ⟨M', h1, h2, h3⟩ := h hS.1
  rw [h1]
  exact hf M' ⟨h2, hS.2.tr h3⟩
theorem Ret.J {v : Int64} (h : Q (.inl (some (.long v))) M) : Ret (yJr v M) Q := ⟨_, M, rfl, h⟩
theorem Ret.I {v : Int32} (h : Q (.inl (some (.int v))) M) : Ret (yI v M) Q := ⟨_, M, rfl, h⟩
theorem Ret.pos {p : Prop} [Decidable p] (hp : p) (h : Ret X Q) : Ret (if p then X else Y) Q := by rw [if_pos hp]; exact h
theorem Ret.neg {p : Prop} [Decidable p] (hp : ¬ p) (h : Ret Y Q) : Ret (if p then X else Y) Q := by rw [if_neg hp]; exact h
theorem Ret.ite {p : Prop} [Decidable p] (h : p → Ret X Q) (h2 : ¬ p → Ret Y Q) : Ret (if p then X else Y) Q := by
  by_cases hp : p
  · exact Ret.pos hp (h hp)
  · exact Ret.neg hp (h2 hp)
theorem Ret.LJ {v : Int64} (h : Ret X (fun o M' => o = .inl (some (.long v)) ∧ St M A' M')) : LJ X M v A' := by
  obtain ⟨o, M', h1, h2, h3, h4⟩ := h
  subst h2
  exact ⟨M', h1, h3, h4⟩
theorem Ret.LI {v : Int32} (h : Ret X (fun o M' => o = .inl (some (.int v)) ∧ St M A' M')) : LI X M v A' := by
  obtain ⟨o, M', h1, h2, h3, h4⟩ := h
  subst h2
  exact ⟨M', h1, h3, h4⟩
theorem St.rf (h : LW A M) : St M A M := ⟨h, fr.rf⟩
theorem CR.LJ {o : yO} {g : Nat → yM → Option yRes} (hc : CR X M o A') (e : yL (yCh X (fun v M => yJr v.toInt64 M) g) Y) (hg : ∀ E M, o = .inl E → g E M = yJr (ol o) M) (hok : Aok A') (htg : Atg A') : LJ Y M (ol o) A' := by
  obtain ⟨M', h1, h2, h3⟩ := hc
  refine ⟨M', yL.J e ?_, ⟨h2, hok, htg⟩, h3⟩
  rw [h1]
  cases o with
  | inl E => exact hg E M' rfl
  | inr v => rfl
theorem CR.LI {v : Int32} (hc : CR X M (.inr v) A') (hok : Aok A') (htg : Atg A') : LI X M v A' := by
  obtain ⟨M', h1, h2, h3⟩ := hc
  exact ⟨M', h1, ⟨h2, hok, htg⟩, h3⟩
theorem LW.act (h : LW A M) {act a b d : Int32} (hd : bet d 0 1) : Aok (nAct A act a b d) ∧ Atg (nAct A act a b d) := ⟨nAct_ok h.2.1 hd, nAct_tg h.2.1 h.2.2⟩
end RET
section GCT
variable {o : yO}
theorem g_12 (h : oE E12 o) : ∀ (E : Nat) (M : yM), o = .inl E → (if E = 1 then yJr (-9000000000000000002) M else if E = 2 then yJr (-9000000000000000003) M else none) = yJr (ol o) M := fun E M z => by
  rcases h E z with e | e <;> subst e <;> rw [z] <;> rfl
theorem g_1 (h : oE E1 o) : ∀ (E : Nat) (M : yM), o = .inl E → (if E = 1 then yJr (-9000000000000000002) M else none) = yJr (ol o) M := fun E M z => by
  have e : E = 1 := h E z
  subst e; rw [z]; rfl
theorem g_01 (h : oE E01 o) : ∀ (E : Nat) (M : yM), o = .inl E → (if E = 0 then yJr (-9000000000000000001) M else if E = 1 then yJr (-9000000000000000002) M else none) = yJr (ol o) M := fun E M z => by
  rcases h E z with e | e <;> subst e <;> rw [z] <;> rfl
theorem g_02 (h : oE E02 o) : ∀ (E : Nat) (M : yM), o = .inl E → (if E = 0 then yJr (-9000000000000000001) M else if E = 2 then yJr (-9000000000000000003) M else none) = yJr (ol o) M := fun E M z => by
  rcases h E z with e | e <;> subst e <;> rw [z] <;> rfl
theorem g_0 (h : oE E0 o) : ∀ (E : Nat) (M : yM), o = .inl E → (if E = 0 then yJr (-9000000000000000001) M else none) = yJr (ol o) M := fun E M z => by
  have e : E = 0 := h E z
  subst e; rw [z]; rfl
theorem g_2 (h : oE E2 o) : ∀ (E : Nat) (M : yM), o = .inl E → (if E = 2 then yJr (-9000000000000000003) M else none) = yJr (ol o) M := fun E M z => by
  have e : E = 2 := h E z
  subst e; rw [z]; rfl
end GCT
/-- the base of the rows that no call reads -/
def g0 : yRow := fun _ => 0
theorem yb_ge {p : Prop} [Decidable p] : 0 ≤ yb p := by
  unfold yb
  split <;> decide
section WRAP
variable {A : yAb} {M : yM}
theorem w107 {a : Int32} (h : LW A M) : LJ (yX 107 0 [some (.ref 7), some (.int a), none] [] M 0 0) M (ol (oApp A a)) (nApp A a) := (c58 h.1 h.2.1).LJ e107 (g_12 x_app) (nApp_ok h.2.1 h.2.2).1 (nApp_ok h.2.1 h.2.2).2
theorem w108 (h : LW A M) : LJ (yX 108 0 [some (.ref 7), none] [] M 0 0) M (ol (oLd A g0)) (nLd A g0) := (c61 h.1 h.2.1 g0).LJ e108 (g_2 x_ld) (nLd_ok h.2.1 h.2.2 g0).1 (nLd_ok h.2.1 h.2.2 g0).2
theorem w109 {a : Int32} (h : LW A M) : LJ (yX 109 0 [some (.ref 7), some (.int a), none] [] M 0 0) M (ol (oAbt A.1 a)) A := (c62 h.1 h.2.1).LJ e109 (g_1 x_abt) h.2.1 h.2.2
theorem w110 {a b : Int32} (h : LW A M) : LJ (yX 110 0 [some (.ref 7), some (.int a), some (.int b), none] [] M 0 0) M (ol (oIng A.1 a b)) A := (c63 h.1 h.2.1).LJ e110 (g_01 x_ing) h.2.1 h.2.2
theorem w111 {a b : Int32} (h : LW A M) : LJ (yX 111 0 [some (.ref 7), some (.int a), some (.int b), none] [] M 0 0) M (ol (oSpn A.1 a b)) A := (c64 h.1 h.2.1).LJ e111 (g_01 x_spn) h.2.1 h.2.2
theorem w112 {a b : Int32} (h : LW A M) : LJ (yX 112 0 [some (.ref 7), some (.int a), some (.int b), none] [] M 0 0) M (ol (oStp A.1 a b)) A := (c65 h.1 h.2.1).LJ e112 (g_01 x_stp) h.2.1 h.2.2
theorem w113 {a : Int32} (h : LW A M) : LJ (yX 113 0 [some (.ref 7), some (.int a), none] [] M 0 0) M (ol (oBgn A.1 a)) A := (c66 h.1 h.2.1).LJ e113 (g_0 x_bgn) h.2.1 h.2.2
theorem w114 {a : Int32} (h : LW A M) : LJ (yX 114 0 [some (.ref 7), some (.int a), none] [] M 0 0) M (ol (oPcs A.1 a)) A := (c67 h.1).LJ e114 (g_0 x_pcs) h.2.1 h.2.2
theorem w115 {a : Int32} (h : LW A M) : LJ (yX 115 0 [some (.ref 7), some (.int a), none] [] M 0 0) M (ol (oSet A.1 a)) A := (c68 h.1).LJ e115 (g_1 x_set) h.2.1 h.2.2
theorem w116 {a b : Int32} (h : LW A M) : LJ (yX 116 0 [some (.ref 7), some (.int a), some (.int b), none] [] M 0 0) M (ol (oDur A.1 a b)) A := (c69 h.1 h.2.1).LJ e116 (g_1 x_dur) h.2.1 h.2.2
theorem w117 {a : Int32} (h : LW A M) : LJ (yX 117 0 [some (.ref 7), some (.int a), none] [] M 0 0) M (ol (oAct A 0 a 0 0)) (nAct A 0 a 0 0) := (c70 h.1 h.2.1).LJ e117 (g_12 x_a0) (h.act ⟨by decide, by decide⟩).1 (h.act ⟨by decide, by decide⟩).2
theorem w118 {a b : Int32} (h : LW A M) : LJ (yX 118 0 [some (.ref 7), some (.int a), some (.int b), none] [] M 0 0) M (ol (oAct A 7 a b 0)) (nAct A 7 a b 0) := (c71 h.1 h.2.1).LJ e118 (g_01 x_a7) (h.act ⟨by decide, by decide⟩).1 (h.act ⟨by decide, by decide⟩).2
theorem w119 {a b : Int32} (h : LW A M) : LJ (yX 119 0 [some (.ref 7), some (.int a), some (.int b), none] [] M 0 0) M (ol (oSrv A a b)) (nAct A 5 a b 0) := (c72 h.1 h.2.1).LJ e119 (g_1 x_srv) (h.act ⟨by decide, by decide⟩).1 (h.act ⟨by decide, by decide⟩).2
theorem w121 {a b : Int32} (h : LW A M) : LJ (yX 121 0 [some (.ref 7), some (.int a), some (.int b), none] [] M 0 0) M (ol (oAct A 8 a b 0)) (nAct A 8 a b 0) := (c74 h.1 h.2.1).LJ e121 (g_01 x_a8) (h.act ⟨by decide, by decide⟩).1 (h.act ⟨by decide, by decide⟩).2
theorem w124 {a b : Int32} (h : LW A M) : LJ (yX 124 0 [some (.ref 7), some (.int a), some (.int b), none] [] M 0 0) M (ol (oAct A 4 a b 0)) (nAct A 4 a b 0) := (c77 h.1 h.2.1).LJ e124 (g_01 x_a4) (h.act ⟨by decide, by decide⟩).1 (h.act ⟨by decide, by decide⟩).2
theorem w125 {a b : Int32} (h : LW A M) : LJ (yX 125 0 [some (.ref 7), some (.int a), some (.int b), none] [] M 0 0) M (ol (oAct A 6 a b 0)) (nAct A 6 a b 0) := (c78 h.1 h.2.1).LJ e125 (g_1 x_a6) (h.act ⟨by decide, by decide⟩).1 (h.act ⟨by decide, by decide⟩).2
theorem w126 (h : LW A M) : LJ (yX 126 0 [some (.ref 7), none] [] M 0 0) M (ol (oUnd A)) (nUnd A) := (c79 h.1 h.2.1).LJ e126 (g_2 x_und) (nUnd_ok h.2.1 h.2.2).1 (nUnd_ok h.2.1 h.2.2).2
theorem w127 {a b : Int32} (h : LW A M) : LJ (yX 127 0 [some (.ref 7), some (.int a), some (.int b), none] [] M 0 0) M (ol (oPan A.1 g0 a b)) A := (c80 h.1 h.2.1 h.2.2 g0).LJ e127 (g_01 x_pan) h.2.1 h.2.2
theorem w128 {a b : Int32} (h : LW A M) : LJ (yX 128 0 [some (.ref 7), some (.int a), some (.int b), none] [] M 0 0) M (ol (oSvd A.1 a b)) A := (c81 h.1 h.2.1).LJ e128 (g_1 x_svd) h.2.1 h.2.2
theorem w129 {a : Int32} (h : LW A M) : LJ (yX 129 0 [some (.ref 7), some (.int a), none] [] M 0 0) M (ol (oSlk A.1 g0 a)) A := (c82 h.1 h.2.1 h.2.2 g0).LJ e129 (g_0 x_slk) h.2.1 h.2.2
theorem w130 {a b : Int32} (h : LW A M) : LJ (yX 130 0 [some (.ref 7), some (.int a), some (.int b), none] [] M 0 0) M (ol (oBsv A.1 a b)) A := (c84 h.1 h.2.1).LJ e130 (g_1 x_bsv) h.2.1 h.2.2
theorem w133 {a : Int32} (h : LW A M) : LJ (yX 133 0 [some (.ref 7), some (.int a), none] [] M 0 0) M (ol (oSav A a)) (nSav A a) := (c87 h.1 h.2.1).LJ e133 (g_0 x_sav) (nSav_ok h.2.1 h.2.2).1 (nSav_ok h.2.1 h.2.2).2
theorem w134 {a : Int32} (h : LW A M) : LJ (yX 134 0 [some (.ref 7), some (.int a), none] [] M 0 0) M (ol (oRes A a)) (nRes A a) := (c88 h.1 h.2.1).LJ e134 (g_02 x_res) (nRes_ok h.2.1 h.2.2).1 (nRes_ok h.2.1 h.2.2).2
theorem w120' {a b : Int32} {p : Prop} [Decidable p] (h : LW A M) : LJ (yX 120 0 [some (.ref 7), some (.int a), some (.int b), some (.int (yb p)), none] [] M 0 0) M (ol (oAct A 1 a b (yb p))) (nAct A 1 a b (yb p)) := (c73 h.1 h.2.1).LJ e120 (g_12 x_a1) (h.act ⟨yb_ge, yb_le⟩).1 (h.act ⟨yb_ge, yb_le⟩).2
theorem w120 {a b d : Int32} (h : LW A M) (hd : d = 0 ∨ d = 1) : LJ (yX 120 0 [some (.ref 7), some (.int a), some (.int b), some (.int d), none] [] M 0 0) M (ol (oAct A 1 a b d)) (nAct A 1 a b d) := by
  rw [yb_of hd (p := d = 1) Iff.rfl]
  exact w120' h
theorem w122' {a b : Int32} {p : Prop} [Decidable p] (h : LW A M) : LJ (yX 122 0 [some (.ref 7), some (.int a), some (.int b), some (.int (yb p)), none] [] M 0 0) M (ol (oAct A 2 a b (yb p))) (nAct A 2 a b (yb p)) := (c75 h.1 h.2.1).LJ e122 (g_0 x_a2) (h.act ⟨yb_ge, yb_le⟩).1 (h.act ⟨yb_ge, yb_le⟩).2
theorem w122 {a b d : Int32} (h : LW A M) (hd : d = 0 ∨ d = 1) : LJ (yX 122 0 [some (.ref 7), some (.int a), some (.int b), some (.int d), none] [] M 0 0) M (ol (oAct A 2 a b d)) (nAct A 2 a b d) := by
  rw [yb_of hd (p := d = 1) Iff.rfl]
  exact w122' h
theorem w123' {a b : Int32} {p : Prop} [Decidable p] (h : LW A M) : LJ (yX 123 0 [some (.ref 7), some (.int a), some (.int b), some (.int (yb p)), none] [] M 0 0) M (ol (oAct A 3 a b (yb p))) (nAct A 3 a b (yb p)) := (c76 h.1 h.2.1).LJ e123 (g_02 x_a3) (h.act ⟨yb_ge, yb_le⟩).1 (h.act ⟨yb_ge, yb_le⟩).2
theorem w123 {a b d : Int32} (h : LW A M) (hd : d = 0 ∨ d = 1) : LJ (yX 123 0 [some (.ref 7), some (.int a), some (.int b), some (.int d), none] [] M 0 0) M (ol (oAct A 3 a b d)) (nAct A 3 a b d) := by
  rw [yb_of hd (p := d = 1) Iff.rfl]
  exact w123' h
theorem w131 {a : Int32} {w : Int64} (h : LW A M) : LJ (yX 131 0 [some (.ref 7), some (.int a), some (.long w), none, none] [] M 0 0) M (ol (oRun A.1 g0 a w)) A := (c85 h.1 h.2.1 g0).LJ e131 (g_1 x_run) h.2.1 h.2.2
theorem w132 {w : Int64} {b : Int32} (h : LW A M) : LJ (yX 132 0 [some (.ref 7), some (.long w), none, some (.int b), none] [] M 0 0) M (ol (oSim A.1 g0 w b)) A := (c86 h.1 h.2.1 g0).LJ e132 (g_1 x_sim) h.2.1 h.2.2
theorem w59 (h : LW A M) : LI (yX 59 0 [some (.ref 7), none] [] M 0 0) M (Int32.ofNat A.2.2.2.1) (nClr A) := (c59 h.1).LI (nClr_ok h.2.1 h.2.2).1 (nClr_ok h.2.1 h.2.2).2
theorem w60 (h : LW A M) : LI (yX 60 0 [some (.ref 7)] [] M 0 0) M (pV (pAll A.2.2.2.1 A.2.2.2.2 g0)) A := CR.LI (c60 h.1 h.2.1 g0) h.2.1 h.2.2
theorem w83 (h : LW A M) : LI (yX 83 0 [some (.ref 7), none, none, none, none, none, none, none] [] M 0 0) M (Sbr A.1 g0) A := (c83 h.1 h.2.1 g0).LI h.2.1 h.2.2
end WRAP
