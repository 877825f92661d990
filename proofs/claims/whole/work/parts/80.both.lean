/-! which exceptions can come; one call of the law on both sides -/
def oE (S : Nat → Prop) (o : yO) : Prop := ∀ E, o = .inl E → S E
def E0 (E : Nat) : Prop := E = 0
def E1 (E : Nat) : Prop := E = 1
def E2 (E : Nat) : Prop := E = 2
def E01 (E : Nat) : Prop := E = 0 ∨ E = 1
def E02 (E : Nat) : Prop := E = 0 ∨ E = 2
def E12 (E : Nat) : Prop := E = 1 ∨ E = 2
section OES
variable {S : Nat → Prop}
theorem oE_r {v : Int32} : oE S (.inr v) := fun E z => by cases z
theorem oE_l {n : Nat} (h : S n) : oE S (.inl n) := fun E z => by cases z; exact h
theorem oE_ite {c : Prop} [Decidable c] {a b : yO} (h1 : oE S a) (h2 : oE S b) : oE S (if c then a else b) := by
  split
  · exact h1
  · exact h2
theorem oE_act {A : yAb} {act a b d : Int32} (h1 : flt A.1 act a b d = 1 → S 0) (h2 : flt A.1 act a b d = 2 → S 1) (h3 : flt A.1 act a b d = 3 → S 2) : oE S (oAct A act a b d) := by
  unfold oAct
  split
  · next h => exact oE_l (h1 h)
  split
  · next h => exact oE_l (h2 h)
  split
  · next h => exact oE_l (h3 h)
  · exact oE_r
end OES
section FLN
variable {r : yRow} {a b d : Int32}
theorem fn_0_1 : ¬ flt r 0 a b d = 1 := by
  intro h
  unfold flt at h
  rw [if_pos rfl] at h
  repeat' split at h
  all_goals exact absurd h (by decide)
theorem fn_1_1 : ¬ flt r 1 a b d = 1 := by
  intro h
  unfold flt at h
  rw [if_neg (by decide), if_pos rfl] at h
  repeat' split at h
  all_goals exact absurd h (by decide)
theorem fn_2_2 : ¬ flt r 2 a b d = 2 := by
  intro h
  unfold flt at h
  rw [if_neg (by decide), if_neg (by decide), if_pos rfl] at h
  repeat' split at h
  all_goals exact absurd h (by decide)
theorem fn_2_3 : ¬ flt r 2 a b d = 3 := by
  intro h
  unfold flt at h
  rw [if_neg (by decide), if_neg (by decide), if_pos rfl] at h
  repeat' split at h
  all_goals exact absurd h (by decide)
theorem fn_3_2 : ¬ flt r 3 a b d = 2 := by
  intro h
  unfold flt at h
  rw [if_neg (by decide), if_neg (by decide), if_neg (by decide), if_pos rfl] at h
  repeat' split at h
  all_goals exact absurd h (by decide)
theorem fn_4_3 : ¬ flt r 4 a b d = 3 := by
  intro h
  unfold flt at h
  rw [if_neg (by decide), if_neg (by decide), if_neg (by decide), if_neg (by decide), if_pos rfl] at h
  repeat' split at h
  all_goals exact absurd h (by decide)
theorem fn_5_1 : ¬ flt r 5 a b d = 1 := by
  intro h
  unfold flt at h
  rw [if_neg (by decide), if_neg (by decide), if_neg (by decide), if_neg (by decide), if_neg (by decide), if_pos rfl] at h
  repeat' split at h
  all_goals exact absurd h (by decide)
theorem fn_5_3 : ¬ flt r 5 a b d = 3 := by
  intro h
  unfold flt at h
  rw [if_neg (by decide), if_neg (by decide), if_neg (by decide), if_neg (by decide), if_neg (by decide), if_pos rfl] at h
  repeat' split at h
  all_goals exact absurd h (by decide)
theorem fn_6_1 : ¬ flt r 6 a b d = 1 := by
  intro h
  unfold flt at h
  rw [if_neg (by decide), if_neg (by decide), if_neg (by decide), if_neg (by decide), if_neg (by decide), if_neg (by decide), if_pos rfl] at h
  repeat' split at h
  all_goals exact absurd h (by decide)
theorem fn_6_3 : ¬ flt r 6 a b d = 3 := by
  intro h
  unfold flt at h
  rw [if_neg (by decide), if_neg (by decide), if_neg (by decide), if_neg (by decide), if_neg (by decide), if_neg (by decide), if_pos rfl] at h
  repeat' split at h
  all_goals exact absurd h (by decide)
theorem fn_7_3 : ¬ flt r 7 a b d = 3 := by
  intro h
  unfold flt at h
  rw [if_neg (by decide), if_neg (by decide), if_neg (by decide), if_neg (by decide), if_neg (by decide), if_neg (by decide), if_neg (by decide), if_pos rfl] at h
  repeat' split at h
  all_goals exact absurd h (by decide)
theorem fn_8_3 : ¬ flt r 8 a b d = 3 := by
  intro h
  unfold flt at h
  rw [if_neg (by decide), if_neg (by decide), if_neg (by decide), if_neg (by decide), if_neg (by decide), if_neg (by decide), if_neg (by decide), if_neg (by decide)] at h
  repeat' split at h
  all_goals exact absurd h (by decide)
end FLN
section OXS
variable {A : yAb} {r g : yRow} {a b d : Int32}
theorem x_app : oE E12 (oApp A a) := oE_ite (oE_ite oE_r (oE_l (Or.inr rfl))) (oE_l (Or.inl rfl))
theorem x_ld : oE E2 (oLd A g) := oE_ite (oE_l rfl) oE_r
theorem x_abt : oE E1 (oAbt r a) := oE_ite oE_r (oE_l rfl)
theorem x_ing : oE E01 (oIng r a b) := oE_ite (oE_ite oE_r (oE_l (Or.inr rfl))) (oE_l (Or.inl rfl))
theorem x_spn : oE E01 (oSpn r a b) := oE_ite (oE_ite oE_r (oE_l (Or.inr rfl))) (oE_l (Or.inl rfl))
theorem x_stp : oE E01 (oStp r a b) := oE_ite (oE_ite oE_r (oE_l (Or.inr rfl))) (oE_l (Or.inl rfl))
theorem x_bgn : oE E0 (oBgn r a) := oE_ite oE_r (oE_l rfl)
theorem x_pcs : oE E0 (oPcs r a) := oE_ite oE_r (oE_l rfl)
theorem x_set : oE E1 (oSet r a) := oE_ite oE_r (oE_l rfl)
theorem x_dur : oE E1 (oDur r a b) := oE_ite oE_r (oE_l rfl)
theorem x_und : oE E2 (oUnd A) := oE_ite (oE_l rfl) oE_r
theorem x_sav : oE E0 (oSav A a) := oE_ite oE_r (oE_l rfl)
theorem x_res : oE E02 (oRes A a) := oE_ite (oE_ite oE_r (oE_l (Or.inr rfl))) (oE_l (Or.inl rfl))
theorem x_pan : oE E01 (oPan r g a b) := oE_ite (oE_ite oE_r (oE_l (Or.inr rfl))) (oE_l (Or.inl rfl))
theorem x_svd : oE E1 (oSvd r a b) := oE_ite oE_r (oE_l rfl)
theorem x_slk : oE E0 (oSlk r g a) := oE_ite oE_r (oE_l rfl)
theorem x_bsv : oE E1 (oBsv r a b) := oE_ite oE_r (oE_l rfl)
theorem x_run {w : Int64} : oE E1 (oRun r g a w) := oE_ite (oE_ite oE_r (oE_l rfl)) (oE_l rfl)
theorem x_sim {w : Int64} : oE E1 (oSim r g w a) := oE_ite oE_r (oE_l rfl)
theorem x_a0 : oE E12 (oAct A 0 a b d) := oE_act (fun h => absurd h fn_0_1) (fun _ => Or.inl rfl) (fun _ => Or.inr rfl)
theorem x_a1 : oE E12 (oAct A 1 a b d) := oE_act (fun h => absurd h fn_1_1) (fun _ => Or.inl rfl) (fun _ => Or.inr rfl)
theorem x_a2 : oE E0 (oAct A 2 a b d) := oE_act (fun _ => rfl) (fun h => absurd h fn_2_2) (fun h => absurd h fn_2_3)
theorem x_a3 : oE E02 (oAct A 3 a b d) := oE_act (fun _ => Or.inl rfl) (fun h => absurd h fn_3_2) (fun _ => Or.inr rfl)
theorem x_a4 : oE E01 (oAct A 4 a b d) := oE_act (fun _ => Or.inl rfl) (fun _ => Or.inr rfl) (fun h => absurd h fn_4_3)
theorem x_a5 : oE E1 (oAct A 5 a b d) := oE_act (fun h => absurd h fn_5_1) (fun _ => rfl) (fun h => absurd h fn_5_3)
theorem x_a6 : oE E1 (oAct A 6 a b d) := oE_act (fun h => absurd h fn_6_1) (fun _ => rfl) (fun h => absurd h fn_6_3)
theorem x_a7 : oE E01 (oAct A 7 a b d) := oE_act (fun _ => Or.inl rfl) (fun _ => Or.inr rfl) (fun h => absurd h fn_7_3)
theorem x_a8 : oE E01 (oAct A 8 a b d) := oE_act (fun _ => Or.inl rfl) (fun _ => Or.inr rfl) (fun h => absurd h fn_8_3)
theorem x_srv : oE E1 (oSrv A a b) := by
  have h := x_a5 (A := A) (a := a) (b := b) (d := 0)
  intro E z
  unfold oSrv at z
  cases ho : oAct A 5 a b 0 with
  | inl E' =>
    rw [ho] at z
    have z : (Sum.inl E' : yO) = Sum.inl E := z
    cases z
    exact h E ho
  | inr v =>
    rw [ho] at z
    have z : (Sum.inr (Sall (prfR A.1 5 a b 0) v) : yO) = Sum.inl E := z
    cases z
end OXS
-- the catches of the law's own methods
section GCA
variable {o : yO}
theorem g_12A (h : oE E12 o) : ∀ (E : Nat) (M : yM), o = .inl E → (if E = 1 then yI 1 M else if E = 2 then yI 2 M else none) = yI (cdA E) M := fun E M z => by
  rcases h E z with e | e <;> subst e <;> rfl
theorem g_1A (h : oE E1 o) : ∀ (E : Nat) (M : yM), o = .inl E → (if E = 1 then yI 1 M else none) = yI (cdA E) M := fun E M z => by
  have e : E = 1 := h E z
  subst e
  rfl
theorem g_01B (h : oE E01 o) : ∀ (E : Nat) (M : yM), o = .inl E → (if E = 0 then yI 1 M else if E = 1 then yI 2 M else none) = yI (cdB E) M := fun E M z => by
  rcases h E z with e | e <;> subst e <;> rfl
theorem g_02B (h : oE E02 o) : ∀ (E : Nat) (M : yM), o = .inl E → (if E = 0 then yI 1 M else if E = 2 then yI 2 M else none) = yI (cdB E) M := fun E M z => by
  rcases h E z with e | e <;> subst e <;> rfl
theorem g_0B (h : oE E0 o) : ∀ (E : Nat) (M : yM), o = .inl E → (if E = 0 then yI 1 M else none) = yI (cdB E) M := fun E M z => by
  have e : E = 0 := h E z
  subst e
  rfl
theorem g_2U (h : oE E2 o) : ∀ (E : Nat) (M : yM), o = .inl E → (if E = 2 then yI 1 M else none) = yI (cdU E) M := fun E M z => by
  have e : E = 2 := h E z
  subst e
  rfl
theorem cd0A : ∀ E, ¬ cdA E = 0 := fun E => by
  unfold cdA
  split <;> decide
theorem cd0B : ∀ E, ¬ cdB E = 0 := fun E => by
  unfold cdB
  split <;> decide
theorem cd0U : ∀ E, ¬ cdU E = 0 := fun E => by
  unfold cdU
  decide
end GCA
/-- what holds between two calls of the law -/
def LI (M : yM) (A : yAb) (S : Nat → Int32) (N : Nat) : Prop := RelC M A ∧ RelR M A ∧ Aok A ∧ Atg A ∧ M 0 = S ∧ ylen M = N
theorem ylen_fr {M M' : yM} (h : M' 250 = M 250) : ylen M' = ylen M := by
  unfold ylen
  rw [h]
theorem RelR_c {M M' : yM} {A : yAb} (h : RelR M A) (hf : ∀ a, 190 ≤ a → a ≠ 202 → M' a = M a) : RelR M' A := by
  obtain ⟨r1, r2, r3, r4⟩ := h
  exact ⟨(hf 191 (by omega) (by omega)).trans r1, MemR_fr r2 (by rw [hf 190 (by omega) (by omega)]) (hf 194 (by omega) (by omega)), SlR_fr r3 (hf 195 (by omega) (by omega)) (hf 196 (by omega) (by omega)), TxR_fr r4 (by rw [hf 190 (by omega) (by omega)]) (hf 201 (by omega) (by omega))⟩
section BTH
variable {M : yM} {A A' : yAb} {S : Nat → Int32} {N : Nat}
theorem both {o : yO} {cd : Nat → Int32} {Y : Option yRes} (R : yM → Option yRes) (hI : LI M A S N) (hok : Aok A' ∧ Atg A') (h1 : ∃ M1, Y = yI (ocd cd o) M1 ∧ (∀ v, o = .inr v → M1 202 0 = v) ∧ RelC M1 A' ∧ ∀ a, (a = 0 ∨ 190 ≤ a) → a ≠ 202 → M1 a = M a) (h2 : ∀ M1, RelR M1 A → M1 192 = M 192 → M1 193 = M 193 → RR (R M1) M1 cd o A') (h0 : ∀ E, ¬ cd E = 0) : ∃ M1 b M2, Y = yI (ocd cd o) M1 ∧ M1 0 = M 0 ∧ ylen M1 = ylen M ∧ R M1 = yI b M2 ∧ yX 106 0 [some (.ref 190)] [] M2 0 0 = yI (ocd cd o) M2 ∧ (ocd cd o = 0 → M2 202 0 = b) ∧ LI M2 A' S N := by
  obtain ⟨i1, i2, i3, i4, i5, i6⟩ := hI
  obtain ⟨M1, a1, a2, a3, a4⟩ := h1
  obtain ⟨b, M2, b1, b2, b3, b4, b5⟩ := h2 M1 (RelR_c i2 (fun a z1 z2 => a4 a (Or.inr z1) z2)) (a4 192 (by omega) (by omega)) (a4 193 (by omega) (by omega))
  have y1 : M1 0 = M 0 := a4 0 (by omega) (by omega)
  have y2 : ylen M1 = ylen M := ylen_fr (a4 250 (by omega) (by omega))
  refine ⟨M1, b, M2, a1, y1, y2, b1, ?_, fun z => ?_, RelC_fr a3 (fun a z1 z2 z3 => b5 a (Or.inl z3)), b4, hok.1, hok.2, ?_, ?_⟩
  · rw [c106, b2]
  · cases o with
    | inl E => exact absurd z (h0 E)
    | inr v => rw [b5 202 (by omega), a2 v rfl, b3 v rfl]
  · rw [b5 0 (by omega), y1]; exact i5
  · rw [ylen_fr (b5 250 (by omega)), y2]; exact i6
/-- calls that throw nothing -/
theorem bothP {v : Int32} {cd : Nat → Int32} {Y : Option yRes} (R : yM → Option yRes) (hI : LI M A S N) (hok : Aok A' ∧ Atg A') (h1 : CR Y M (.inr v) A') (h2 : ∀ M1, RelR M1 A → M1 192 = M 192 → M1 193 = M 193 → RR (R M1) M1 cd (.inr v) A') : ∃ M1 M2, Y = yI v M1 ∧ R M1 = yI v M2 ∧ LI M2 A' S N := by
  obtain ⟨i1, i2, i3, i4, i5, i6⟩ := hI
  obtain ⟨M1, a1, a3, a4⟩ := h1
  obtain ⟨b, M2, b1, b2, b3, b4, b5⟩ := h2 M1 (RelR_c i2 (fun a z1 z2 => a4 a (Or.inr z1))) (a4 192 (by omega)) (a4 193 (by omega))
  have e := b3 v rfl
  subst e
  refine ⟨M1, M2, a1, b1, RelC_fr a3 (fun a z1 z2 z3 => b5 a (Or.inl z3)), b4, hok.1, hok.2, ?_, ?_⟩
  · rw [b5 0 (by omega), a4 0 (by omega)]; exact i5
  · rw [ylen_fr (b5 250 (by omega)), ylen_fr (a4 250 (by omega))]; exact i6
end BTH
