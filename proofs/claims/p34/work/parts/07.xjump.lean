theorem xq_some {a b : Nat} {x : xA} {y} (h : xq a b x = some y) : a = b ∧ x = some y := by
  unfold xq at h
  split at h
  · next e => exact ⟨e, h⟩
  · cases h
theorem xif_some {α : Type} {c : Prop} [Decidable c] {x : Option α} {y : α} (h : (if c then x else none) = some y) : c ∧ x = some y := by
  split at h
  · next e => exact ⟨e, h⟩
  · cases h
theorem xGo_some {pc : Nat} {ls : xLs} {st : List Value} {h : xHp} {nc ns : Nat} {j : xJ} (e : xGo pc ls st h nc ns = some (.inl j)) : j = (pc, ls, st, h, nc, ns) := by
  cases e
  rfl
theorem xpI_some {st : List Value} {q} (h : xpI st = some q) : st = .int q.1 :: q.2 := by
  unfold xpI at h
  split at h
  · cases h; rfl
  · cases h
theorem xpII_some {st : List Value} {q} (h : xpII st = some q) : st = .int q.2.1 :: .int q.1 :: q.2.2 := by
  unfold xpII at h
  split at h
  · cases h; rfl
  · cases h
theorem xpL_some {st : List Value} {q} (h : xpL st = some q) : st = .long q.1 :: q.2 := by
  unfold xpL at h
  split at h
  · cases h; rfl
  · cases h
theorem xpLL_some {st : List Value} {q} (h : xpLL st = some q) : st = .long q.2.1 :: .long q.1 :: q.2.2 := by
  unfold xpLL at h
  split at h
  · cases h; rfl
  · cases h
theorem xpLI_some {st : List Value} {q} (h : xpLI st = some q) : st = .int q.2.1 :: .long q.1 :: q.2.2 := by
  unfold xpLI at h
  split at h
  · cases h; rfl
  · cases h
theorem xpR_some {st : List Value} {q} (h : xpR st = some q) : st = .ref q.1 :: q.2 := by
  unfold xpR at h
  split at h
  · cases h; rfl
  · cases h
theorem xpRI_some {st : List Value} {q} (h : xpRI st = some q) : st = .int q.2.1 :: .ref q.1 :: q.2.2 := by
  unfold xpRI at h
  split at h
  · cases h; rfl
  · cases h
theorem xpRII_some {st : List Value} {q} (h : xpRII st = some q) : st = .int q.2.2.1 :: .int q.2.1 :: .ref q.1 :: q.2.2.2 := by
  unfold xpRII at h
  split at h
  · cases h; rfl
  · cases h
theorem xpRIL_some {st : List Value} {q} (h : xpRIL st = some q) : st = .long q.2.2.1 :: .int q.2.1 :: .ref q.1 :: q.2.2.2 := by
  unfold xpRIL at h
  split at h
  · cases h; rfl
  · cases h
theorem xpRIR_some {st : List Value} {q} (h : xpRIR st = some q) : st = .ref q.2.2.1 :: .int q.2.1 :: .ref q.1 :: q.2.2.2 := by
  unfold xpRIR at h
  split at h
  · cases h; rfl
  · cases h
theorem xpRV_some {st : List Value} {q} (h : xpRV st = some q) : st = q.2.1 :: .ref q.1 :: q.2.2 := by
  unfold xpRV at h
  split at h
  · cases h; rfl
  · cases h
theorem xpV_some {st : List Value} {q} (h : xpV st = some q) : st = q.1 :: q.2 ∧ xc1 q.1 = true := by
  unfold xpV at h
  split at h
  · obtain ⟨h1, h2⟩ := xif_some h
    cases h2
    exact ⟨rfl, h1⟩
  · cases h
theorem xpVV_some {st : List Value} {q} (h : xpVV st = some q) : st = q.1 :: q.2.1 :: q.2.2 ∧ xc1 q.1 = true ∧ xc1 q.2.1 = true := by
  unfold xpVV at h
  split at h
  · obtain ⟨h1, h2⟩ := xif_some h
    cases h2
    simp only [Bool.and_eq_true] at h1
    exact ⟨rfl, h1.1, h1.2⟩
  · cases h
theorem xc1_cat {G : xG} {v : Value} (h : xc1 v = true) : (xv G v).category = 1 := by
  cases v <;> first | (cases h; done) | rfl
theorem xin_vp {i : Int32} {n : Nat} (h : xin i n = true) : vp_in i n := (of_decide_eq_true h : ¬ (i < 0 ∨ n ≤ i.toNatClampNeg))
-- what the tables say
theorem xcI_ok {c i : Nat} {v : Int32} (h : xcI c i = some v) : Cond.constant (xcn c) i v ∈ xgt := by
  obtain ⟨r, h1, h2⟩ := Option.map_eq_some_iff.mp h
  have h3 := List.find?_some h1
  have h4 := List.all_eq_true.mp xci_ok r (List.mem_of_find?_eq_some h1)
  obtain ⟨a, b, v', d⟩ := r
  simp only [Bool.and_eq_true, beq_iff_eq] at h3
  simp only [decide_eq_true_eq] at h4
  obtain ⟨rfl, rfl⟩ := h3
  cases h2
  exact xg_in h4 rfl
theorem xcL_ok {c i : Nat} {v : Int64} (h : xcL c i = some v) : Cond.constantLong (xcn c) i v ∈ xgt := by
  obtain ⟨r, h1, h2⟩ := Option.map_eq_some_iff.mp h
  have h3 := List.find?_some h1
  have h4 := List.all_eq_true.mp xcl_ok r (List.mem_of_find?_eq_some h1)
  obtain ⟨a, b, v', d⟩ := r
  simp only [Bool.and_eq_true, beq_iff_eq] at h3
  simp only [decide_eq_true_eq] at h4
  obtain ⟨rfl, rfl⟩ := h3
  cases h2
  exact xg_in h4 rfl
theorem xfR_ok {c i t j : Nat} (h : xfR c i = some (t, j)) : j < (xcT t).2.2 ∧ t < 5 ∧ Cond.fieldLink (xcn c) i (xcT t).1 ((xcT t).2.1 j).2.1 ((xcT t).2.1 j).2.2.1 ∈ xgt := by
  obtain ⟨r, h1, h2⟩ := Option.map_eq_some_iff.mp h
  have h3 := List.find?_some h1
  have h4 := List.all_eq_true.mp xft_ok r (List.mem_of_find?_eq_some h1)
  obtain ⟨a, b, t', j', d⟩ := r
  simp only [Bool.and_eq_true, beq_iff_eq] at h3
  simp only [Bool.and_eq_true, decide_eq_true_eq] at h4
  obtain ⟨rfl, rfl⟩ := h3
  cases h2
  exact ⟨h4.1.1, h4.1.2, xg_in h4.2 rfl⟩
theorem xsR_ok {c i g : Nat} (h : xsR c i = some g) : 1 ≤ g ∧ g < 7 ∧ Cond.fieldLinkNest (xcn c) i "SpoonCards" (xsn g).1 (xsn g).2 "SpoonCards" ∈ xnes := by
  obtain ⟨r, h1, h2⟩ := Option.map_eq_some_iff.mp h
  have h3 := List.find?_some h1
  have h4 := List.all_eq_true.mp xst_ok r (List.mem_of_find?_eq_some h1)
  obtain ⟨a, b, g', d⟩ := r
  simp only [Bool.and_eq_true, beq_iff_eq] at h3
  simp only [Bool.and_eq_true, decide_eq_true_eq] at h4
  obtain ⟨rfl, rfl⟩ := h3
  cases h2
  exact ⟨h4.1.1, h4.1.2, xnes_in h4.2 rfl⟩
theorem xnR_ok {c i t : Nat} (h : xnR c i = some t) : t < 5 ∧ Cond.classLink (xcn c) i (xcT t).1 ∈ xgt ∧ Cond.instantiable (xcT t).1 (xcT t).2.2 ∈ xgt := by
  obtain ⟨r, h1, h2⟩ := Option.map_eq_some_iff.mp h
  have h3 := List.find?_some h1
  have h4 := List.all_eq_true.mp xnw_ok r (List.mem_of_find?_eq_some h1)
  obtain ⟨a, b, t', d, e⟩ := r
  simp only [Bool.and_eq_true, beq_iff_eq] at h3
  simp only [Bool.and_eq_true, decide_eq_true_eq] at h4
  obtain ⟨rfl, rfl⟩ := h3
  cases h2
  exact ⟨h4.1, xg_in h4.2.1 rfl, xg_in h4.2.2 rfl⟩
theorem xcl0_at {t : Nat} (h : t < 5) : xcl0[t]? = some (xcT t) := by
  match t, h with
  | 0, _ => rfl
  | 1, _ => rfl
  | 2, _ => rfl
  | 3, _ => rfl
  | 4, _ => rfl
theorem xcT_own {t : Nat} (h : t < 5) : ∀ j, j < (xcT t).2.2 → ((xcT t).2.1 j).1 = (xcT t).1 := by
  match t, h with
  | 0, _ => exact (by decide +kernel : ∀ j, j < 12 → (TX0 j).1 = RX0)
  | 1, _ => exact (by decide +kernel : ∀ j, j < 9 → (TX1 j).1 = RX1)
  | 2, _ => exact (by decide +kernel : ∀ j, j < 3 → (TX2 j).1 = RX2)
  | 3, _ => exact (by decide +kernel : ∀ j, j < 12 → (TX3 j).1 = RX3)
  | 4, _ => exact (by decide +kernel : ∀ j, j < 8 → (TX4 j).1 = RX4)
theorem xcT_ty {t : Nat} (h : t < 5) : ∀ j, j < (xcT t).2.2 → parseFieldDescriptor ((xcT t).2.1 j).2.2.1 = some (xty t j) := by
  match t, h with
  | 0, _ => exact tyX0_ok
  | 1, _ => exact tyX1_ok
  | 2, _ => exact tyX2_ok
  | 3, _ => exact tyX3_ok
  | 4, _ => exact tyX4_ok
theorem xcT_nm {t : Nat} (h : t < 5) : ∀ a, a < (xcT t).2.2 → ∀ b, b < (xcT t).2.2 → a ≠ b → ((xcT t).2.1 a).2.1 ≠ ((xcT t).2.1 b).2.1 := by
  match t, h with
  | 0, _ => exact nmX0
  | 1, _ => exact nmX1
  | 2, _ => exact nmX2
  | 3, _ => exact nmX3
  | 4, _ => exact nmX4
theorem xcT_in {t : Nat} (h : t < 5) : ∀ w ∈ u_ws (xcT t).1 (xcT t).2.1 (xcT t).2.2, w ∈ xgt := by
  intro w hw
  have h1 := List.all_eq_true.mp xct_ws t (List.mem_range.mpr h)
  have h2 := List.all_eq_true.mp h1 w hw
  simp only [Bool.and_eq_true, decide_eq_true_eq] at h2
  exact List.mem_filter.mpr ⟨h2.1, h2.2⟩
theorem xcT_cn {t : Nat} (h : t < 5) : (xcT t).1 = xcn t := by
  match t, h with
  | 0, _ => rfl
  | 1, _ => rfl
  | 2, _ => rfl
  | 3, _ => rfl
  | 4, _ => rfl
theorem xini_ws (t : Nat) (h : t < 5) : Cond.initialized (xcT t).1 ∈ xgt := by
  match t, h with
  | 0, _ => exact xg_in (i := 33) (by decide +kernel) rfl
  | 1, _ => exact xg_in (i := 31) (by decide +kernel) rfl
  | 2, _ => exact xg_in (i := 35) (by decide +kernel) rfl
  | 3, _ => exact xg_in (i := 32) (by decide +kernel) rfl
  | 4, _ => exact xg_in (i := 30) (by decide +kernel) rfl
theorem xfit_ok {G : xG} {ty : FieldType} {v : Value} (h : xfit ty v = true) : narrow ty (xv G v) = xv G v ∧ fits ty (xv G v) = true := by
  unfold xfit at h
  split at h
  · exact ⟨rfl, rfl⟩
  · rcases of_decide_eq_true h with rfl | rfl <;> exact ⟨rfl, rfl⟩
  · exact ⟨rfl, rfl⟩
  · exact ⟨rfl, rfl⟩
  · cases h
theorem xO_new {G : xG} {h : xHp} {H H1 : Heap} {c : xCel} (hO : xO G h H) (hh : h.1 = true) (h1 : xgvn c = false) (z : H1.size = H.size + 1) (o : ∀ q : Nat, q < H.size → H1[q]? = H[q]?) (e : va_at (xD G) xcl0 (H.size, xE G c) H1) : xO G (xNew h c) H1 ∧ xad G h.2.length = H.size := by
  obtain ⟨q1, q2, q3, q4, q5⟩ := hO
  have hs := q2 hh
  have ea : xad G h.2.length = H.size := by
    rw [xad, if_neg (by omega)]
    omega
  refine ⟨⟨?_, fun _ => by rw [z, xNew, List.length_append]; simp only [List.length_cons, List.length_nil]; omega, by rw [xNew, List.length_append]; omega, fun b hb => ?_, fun b d hb => ?_⟩, ea⟩
  · show va_P (xD G) xcl0 (xW G (h.2 ++ [c])) H1
    rw [xW_app q3, ea]
    refine va_P.app (va_P.kept q1 fun k q hk => o _ (q1 k q hk).lt) fun k q hk => ?_
    have hz : k < 1 := (List.getElem?_eq_some_iff.mp hk).1
    rw [show k = 0 by omega] at hk
    cases hk
    exact e
  · show (h.2 ++ [c])[b]? = _
    rw [List.getElem?_append_left (by omega)]
    exact q4 b hb
  · have hb' : (h.2 ++ [c])[b]? = some d := hb
    by_cases hl : b < h.2.length
    · rw [List.getElem?_append_left hl] at hb'
      exact q5 b d hb'
    · rw [List.getElem?_append_right (by omega)] at hb'
      have hz : b - h.2.length < 1 := (List.getElem?_eq_some_iff.mp hb').1
      rw [show b - h.2.length = 0 by omega] at hb'
      cases hb'
      constructor
      · intro hl2; omega
      · intro hl2; rw [h1] at hl2; cases hl2
theorem xsum_le (G : xG) : ∀ (st : List Value), ((st.map (xv G)).map fun v => v.category).sum ≤ 2 * st.length
  | [] => Nat.le_refl _
  | v :: t => by
    have h1 := xsum_le G t
    have h2 : (xv G v).category ≤ 2 := by cases v <;> simp [xv, Value.category]
    simp only [List.map_cons, List.sum_cons, List.length_cons]
    omega
def xAt (G : xG) (l : Launch) (k : Nat) (p : Program) (R : Room) (s : State) (m : MethodId) (args : Array Value) (meth : Method) (c : Code) : Prop :=
  p.tables.exec = Jvm.exec ∧ c.code = xmb k ∧ c.maxLocals = xml k ∧ meth.sig.returnType = xmr k ∧ meth.locks = false ∧ (xini k = true → meth.name = "<init>") ∧ s.vm.findClass (xcn (xmk k)) = some m.cls ∧ (xkd k < 3 → c.exceptionTable.toList = tableOf (xmh k)) ∧ (∀ w ∈ xgt, w.before args s = true) ∧ (xmc k ≤ R.cells ∧ xms k ≤ R.slots ∧ xmf k ≤ R.frames ∧ xmo k ≤ R.locals) ∧ xKn G s ∧ l.stackTraces = false
section XJ
variable {G : xG} {k pc len nc ns : Nat} {ls : xLs} {st : List Value} {h : xHp} {p : Program} {l : Launch} {e : Env} {R : Room} {s : State} {m : MethodId} {args : Array Value} {below : List Frame} {meth : Method} {c : Code} {H : Heap} {locs : List Loc} {lsM : Array Slot} {Q : State → Prop}
theorem xj_iconst {n : Int} {j : xJ} (hd : decode (xmb k) pc = .ok (.iconst n, len)) (ha : xAct k pc (.iconst n) len ls st h nc ns = some (.inl j)) (A : xAt G l k p R s m args meth c) (hO : xO G h H) (hS : va_S (xAr G) s.heap H locs) (hl : xlr G ls lsM (xml k)) (hn : nc ≤ xmc k ∧ ns ≤ xms k)
    (kk : ∀ (H' : Heap) (locs' : List Loc) (lsM' : Array Slot), xO G j.2.2.2.1 H' → va_S (xAr G) s.heap H' locs' → xlr G j.2.1 lsM' (xml k) → j.2.2.2.2.1 ≤ xmc k ∧ j.2.2.2.2.2 ≤ xms k → W p l e R s m args below meth c H' locs' j.2.2.2.2.1 j.2.2.2.2.2 Q (F0 m j.1 lsM' (j.2.2.1.map (xv G)))) : W p l e R s m args below meth c H locs nc ns Q (F0 m pc lsM (st.map (xv G))) := by
  obtain ⟨hx, hb, hml, hr, hlk, hnm, hown, htb, hts, hR, hK, hfl⟩ := A
  obtain ⟨rfl, ha1⟩ := xq_some ha
  obtain rfl := xGo_some ha1
  exact lv_iconst hx hb hd rfl (kk H locs lsM hO hS hl hn)
theorem xj_bipush {n : Int} {j : xJ} (hd : decode (xmb k) pc = .ok (.bipush n, len)) (ha : xAct k pc (.bipush n) len ls st h nc ns = some (.inl j)) (A : xAt G l k p R s m args meth c) (hO : xO G h H) (hS : va_S (xAr G) s.heap H locs) (hl : xlr G ls lsM (xml k)) (hn : nc ≤ xmc k ∧ ns ≤ xms k)
    (kk : ∀ (H' : Heap) (locs' : List Loc) (lsM' : Array Slot), xO G j.2.2.2.1 H' → va_S (xAr G) s.heap H' locs' → xlr G j.2.1 lsM' (xml k) → j.2.2.2.2.1 ≤ xmc k ∧ j.2.2.2.2.2 ≤ xms k → W p l e R s m args below meth c H' locs' j.2.2.2.2.1 j.2.2.2.2.2 Q (F0 m j.1 lsM' (j.2.2.1.map (xv G)))) : W p l e R s m args below meth c H locs nc ns Q (F0 m pc lsM (st.map (xv G))) := by
  obtain ⟨hx, hb, hml, hr, hlk, hnm, hown, htb, hts, hR, hK, hfl⟩ := A
  obtain ⟨rfl, ha1⟩ := xq_some ha
  obtain rfl := xGo_some ha1
  exact lv_bipush hx hb hd rfl (kk H locs lsM hO hS hl hn)
theorem xj_sipush {n : Int} {j : xJ} (hd : decode (xmb k) pc = .ok (.sipush n, len)) (ha : xAct k pc (.sipush n) len ls st h nc ns = some (.inl j)) (A : xAt G l k p R s m args meth c) (hO : xO G h H) (hS : va_S (xAr G) s.heap H locs) (hl : xlr G ls lsM (xml k)) (hn : nc ≤ xmc k ∧ ns ≤ xms k)
    (kk : ∀ (H' : Heap) (locs' : List Loc) (lsM' : Array Slot), xO G j.2.2.2.1 H' → va_S (xAr G) s.heap H' locs' → xlr G j.2.1 lsM' (xml k) → j.2.2.2.2.1 ≤ xmc k ∧ j.2.2.2.2.2 ≤ xms k → W p l e R s m args below meth c H' locs' j.2.2.2.2.1 j.2.2.2.2.2 Q (F0 m j.1 lsM' (j.2.2.1.map (xv G)))) : W p l e R s m args below meth c H locs nc ns Q (F0 m pc lsM (st.map (xv G))) := by
  obtain ⟨hx, hb, hml, hr, hlk, hnm, hown, htb, hts, hR, hK, hfl⟩ := A
  obtain ⟨rfl, ha1⟩ := xq_some ha
  obtain rfl := xGo_some ha1
  exact lv_sipush hx hb hd rfl (kk H locs lsM hO hS hl hn)
theorem xj_lconst {n : Fin 2} {j : xJ} (hd : decode (xmb k) pc = .ok (.lconst n, len)) (ha : xAct k pc (.lconst n) len ls st h nc ns = some (.inl j)) (A : xAt G l k p R s m args meth c) (hO : xO G h H) (hS : va_S (xAr G) s.heap H locs) (hl : xlr G ls lsM (xml k)) (hn : nc ≤ xmc k ∧ ns ≤ xms k)
    (kk : ∀ (H' : Heap) (locs' : List Loc) (lsM' : Array Slot), xO G j.2.2.2.1 H' → va_S (xAr G) s.heap H' locs' → xlr G j.2.1 lsM' (xml k) → j.2.2.2.2.1 ≤ xmc k ∧ j.2.2.2.2.2 ≤ xms k → W p l e R s m args below meth c H' locs' j.2.2.2.2.1 j.2.2.2.2.2 Q (F0 m j.1 lsM' (j.2.2.1.map (xv G)))) : W p l e R s m args below meth c H locs nc ns Q (F0 m pc lsM (st.map (xv G))) := by
  obtain ⟨hx, hb, hml, hr, hlk, hnm, hown, htb, hts, hR, hK, hfl⟩ := A
  obtain ⟨rfl, ha1⟩ := xq_some ha
  obtain rfl := xGo_some ha1
  exact lv_lconst hx hb hd rfl (kk H locs lsM hO hS hl hn)
theorem xj_ldc {ix : Nat} {j : xJ} (hd : decode (xmb k) pc = .ok (.ldc ix, len)) (ha : xAct k pc (.ldc ix) len ls st h nc ns = some (.inl j)) (A : xAt G l k p R s m args meth c) (hO : xO G h H) (hS : va_S (xAr G) s.heap H locs) (hl : xlr G ls lsM (xml k)) (hn : nc ≤ xmc k ∧ ns ≤ xms k)
    (kk : ∀ (H' : Heap) (locs' : List Loc) (lsM' : Array Slot), xO G j.2.2.2.1 H' → va_S (xAr G) s.heap H' locs' → xlr G j.2.1 lsM' (xml k) → j.2.2.2.2.1 ≤ xmc k ∧ j.2.2.2.2.2 ≤ xms k → W p l e R s m args below meth c H' locs' j.2.2.2.2.1 j.2.2.2.2.2 Q (F0 m j.1 lsM' (j.2.2.1.map (xv G)))) : W p l e R s m args below meth c H locs nc ns Q (F0 m pc lsM (st.map (xv G))) := by
  obtain ⟨hx, hb, hml, hr, hlk, hnm, hown, htb, hts, hR, hK, hfl⟩ := A
  obtain ⟨rfl, ha1⟩ := xq_some ha
  obtain ⟨v, hv, ha2⟩ := Option.bind_eq_some_iff.mp ha1
  obtain rfl := xGo_some ha2
  exact lv_ldc hx hb hown (hts _ (xcI_ok hv)) hd (kk H locs lsM hO hS hl hn)
theorem xj_ldc_w {ix : Nat} {j : xJ} (hd : decode (xmb k) pc = .ok (.ldc_w ix, len)) (ha : xAct k pc (.ldc_w ix) len ls st h nc ns = some (.inl j)) (A : xAt G l k p R s m args meth c) (hO : xO G h H) (hS : va_S (xAr G) s.heap H locs) (hl : xlr G ls lsM (xml k)) (hn : nc ≤ xmc k ∧ ns ≤ xms k)
    (kk : ∀ (H' : Heap) (locs' : List Loc) (lsM' : Array Slot), xO G j.2.2.2.1 H' → va_S (xAr G) s.heap H' locs' → xlr G j.2.1 lsM' (xml k) → j.2.2.2.2.1 ≤ xmc k ∧ j.2.2.2.2.2 ≤ xms k → W p l e R s m args below meth c H' locs' j.2.2.2.2.1 j.2.2.2.2.2 Q (F0 m j.1 lsM' (j.2.2.1.map (xv G)))) : W p l e R s m args below meth c H locs nc ns Q (F0 m pc lsM (st.map (xv G))) := by
  obtain ⟨hx, hb, hml, hr, hlk, hnm, hown, htb, hts, hR, hK, hfl⟩ := A
  obtain ⟨rfl, ha1⟩ := xq_some ha
  obtain ⟨v, hv, ha2⟩ := Option.bind_eq_some_iff.mp ha1
  obtain rfl := xGo_some ha2
  exact lv_ldcw hx hb hown (hts _ (xcI_ok hv)) hd (kk H locs lsM hO hS hl hn)
theorem xj_ldc2_w {ix : Nat} {j : xJ} (hd : decode (xmb k) pc = .ok (.ldc2_w ix, len)) (ha : xAct k pc (.ldc2_w ix) len ls st h nc ns = some (.inl j)) (A : xAt G l k p R s m args meth c) (hO : xO G h H) (hS : va_S (xAr G) s.heap H locs) (hl : xlr G ls lsM (xml k)) (hn : nc ≤ xmc k ∧ ns ≤ xms k)
    (kk : ∀ (H' : Heap) (locs' : List Loc) (lsM' : Array Slot), xO G j.2.2.2.1 H' → va_S (xAr G) s.heap H' locs' → xlr G j.2.1 lsM' (xml k) → j.2.2.2.2.1 ≤ xmc k ∧ j.2.2.2.2.2 ≤ xms k → W p l e R s m args below meth c H' locs' j.2.2.2.2.1 j.2.2.2.2.2 Q (F0 m j.1 lsM' (j.2.2.1.map (xv G)))) : W p l e R s m args below meth c H locs nc ns Q (F0 m pc lsM (st.map (xv G))) := by
  obtain ⟨hx, hb, hml, hr, hlk, hnm, hown, htb, hts, hR, hK, hfl⟩ := A
  obtain ⟨rfl, ha1⟩ := xq_some ha
  obtain ⟨v, hv, ha2⟩ := Option.bind_eq_some_iff.mp ha1
  obtain rfl := xGo_some ha2
  exact lv_ldc2 hx hb hown (hts _ (xcL_ok hv)) hd (kk H locs lsM hO hS hl hn)
theorem xj_iload_n {n : Fin 4} {j : xJ} (hd : decode (xmb k) pc = .ok (.iload_n n, len)) (ha : xAct k pc (.iload_n n) len ls st h nc ns = some (.inl j)) (A : xAt G l k p R s m args meth c) (hO : xO G h H) (hS : va_S (xAr G) s.heap H locs) (hl : xlr G ls lsM (xml k)) (hn : nc ≤ xmc k ∧ ns ≤ xms k)
    (kk : ∀ (H' : Heap) (locs' : List Loc) (lsM' : Array Slot), xO G j.2.2.2.1 H' → va_S (xAr G) s.heap H' locs' → xlr G j.2.1 lsM' (xml k) → j.2.2.2.2.1 ≤ xmc k ∧ j.2.2.2.2.2 ≤ xms k → W p l e R s m args below meth c H' locs' j.2.2.2.2.1 j.2.2.2.2.2 Q (F0 m j.1 lsM' (j.2.2.1.map (xv G)))) : W p l e R s m args below meth c H locs nc ns Q (F0 m pc lsM (st.map (xv G))) := by
  obtain ⟨hx, hb, hml, hr, hlk, hnm, hown, htb, hts, hR, hK, hfl⟩ := A
  obtain ⟨rfl, ha1⟩ := xq_some ha
  obtain ⟨v, hv, ha2⟩ := Option.bind_eq_some_iff.mp ha1
  obtain rfl := xGo_some ha2
  exact lv_iload_n hx hb hd rfl (xlr_get hl (xlI_some hv)) (kk H locs lsM hO hS hl hn)
theorem xj_iload {n : Nat} {j : xJ} (hd : decode (xmb k) pc = .ok (.iload n, len)) (ha : xAct k pc (.iload n) len ls st h nc ns = some (.inl j)) (A : xAt G l k p R s m args meth c) (hO : xO G h H) (hS : va_S (xAr G) s.heap H locs) (hl : xlr G ls lsM (xml k)) (hn : nc ≤ xmc k ∧ ns ≤ xms k)
    (kk : ∀ (H' : Heap) (locs' : List Loc) (lsM' : Array Slot), xO G j.2.2.2.1 H' → va_S (xAr G) s.heap H' locs' → xlr G j.2.1 lsM' (xml k) → j.2.2.2.2.1 ≤ xmc k ∧ j.2.2.2.2.2 ≤ xms k → W p l e R s m args below meth c H' locs' j.2.2.2.2.1 j.2.2.2.2.2 Q (F0 m j.1 lsM' (j.2.2.1.map (xv G)))) : W p l e R s m args below meth c H locs nc ns Q (F0 m pc lsM (st.map (xv G))) := by
  obtain ⟨hx, hb, hml, hr, hlk, hnm, hown, htb, hts, hR, hK, hfl⟩ := A
  obtain ⟨rfl, ha1⟩ := xq_some ha
  obtain ⟨v, hv, ha2⟩ := Option.bind_eq_some_iff.mp ha1
  obtain rfl := xGo_some ha2
  exact lv_iload hx hb hd (xlr_get hl (xlI_some hv)) (kk H locs lsM hO hS hl hn)
theorem xj_lload_n {n : Fin 4} {j : xJ} (hd : decode (xmb k) pc = .ok (.lload_n n, len)) (ha : xAct k pc (.lload_n n) len ls st h nc ns = some (.inl j)) (A : xAt G l k p R s m args meth c) (hO : xO G h H) (hS : va_S (xAr G) s.heap H locs) (hl : xlr G ls lsM (xml k)) (hn : nc ≤ xmc k ∧ ns ≤ xms k)
    (kk : ∀ (H' : Heap) (locs' : List Loc) (lsM' : Array Slot), xO G j.2.2.2.1 H' → va_S (xAr G) s.heap H' locs' → xlr G j.2.1 lsM' (xml k) → j.2.2.2.2.1 ≤ xmc k ∧ j.2.2.2.2.2 ≤ xms k → W p l e R s m args below meth c H' locs' j.2.2.2.2.1 j.2.2.2.2.2 Q (F0 m j.1 lsM' (j.2.2.1.map (xv G)))) : W p l e R s m args below meth c H locs nc ns Q (F0 m pc lsM (st.map (xv G))) := by
  obtain ⟨hx, hb, hml, hr, hlk, hnm, hown, htb, hts, hR, hK, hfl⟩ := A
  obtain ⟨rfl, ha1⟩ := xq_some ha
  obtain ⟨v, hv, ha2⟩ := Option.bind_eq_some_iff.mp ha1
  obtain rfl := xGo_some ha2
  exact lv_lload_n hx hb hd rfl (xlr_get hl (xlL_some hv)) (kk H locs lsM hO hS hl hn)
theorem xj_lload {n : Nat} {j : xJ} (hd : decode (xmb k) pc = .ok (.lload n, len)) (ha : xAct k pc (.lload n) len ls st h nc ns = some (.inl j)) (A : xAt G l k p R s m args meth c) (hO : xO G h H) (hS : va_S (xAr G) s.heap H locs) (hl : xlr G ls lsM (xml k)) (hn : nc ≤ xmc k ∧ ns ≤ xms k)
    (kk : ∀ (H' : Heap) (locs' : List Loc) (lsM' : Array Slot), xO G j.2.2.2.1 H' → va_S (xAr G) s.heap H' locs' → xlr G j.2.1 lsM' (xml k) → j.2.2.2.2.1 ≤ xmc k ∧ j.2.2.2.2.2 ≤ xms k → W p l e R s m args below meth c H' locs' j.2.2.2.2.1 j.2.2.2.2.2 Q (F0 m j.1 lsM' (j.2.2.1.map (xv G)))) : W p l e R s m args below meth c H locs nc ns Q (F0 m pc lsM (st.map (xv G))) := by
  obtain ⟨hx, hb, hml, hr, hlk, hnm, hown, htb, hts, hR, hK, hfl⟩ := A
  obtain ⟨rfl, ha1⟩ := xq_some ha
  obtain ⟨v, hv, ha2⟩ := Option.bind_eq_some_iff.mp ha1
  obtain rfl := xGo_some ha2
  exact lv_lload hx hb hd (xlr_get hl (xlL_some hv)) (kk H locs lsM hO hS hl hn)
theorem xj_aload_n {n : Fin 4} {j : xJ} (hd : decode (xmb k) pc = .ok (.aload_n n, len)) (ha : xAct k pc (.aload_n n) len ls st h nc ns = some (.inl j)) (A : xAt G l k p R s m args meth c) (hO : xO G h H) (hS : va_S (xAr G) s.heap H locs) (hl : xlr G ls lsM (xml k)) (hn : nc ≤ xmc k ∧ ns ≤ xms k)
    (kk : ∀ (H' : Heap) (locs' : List Loc) (lsM' : Array Slot), xO G j.2.2.2.1 H' → va_S (xAr G) s.heap H' locs' → xlr G j.2.1 lsM' (xml k) → j.2.2.2.2.1 ≤ xmc k ∧ j.2.2.2.2.2 ≤ xms k → W p l e R s m args below meth c H' locs' j.2.2.2.2.1 j.2.2.2.2.2 Q (F0 m j.1 lsM' (j.2.2.1.map (xv G)))) : W p l e R s m args below meth c H locs nc ns Q (F0 m pc lsM (st.map (xv G))) := by
  obtain ⟨hx, hb, hml, hr, hlk, hnm, hown, htb, hts, hR, hK, hfl⟩ := A
  obtain ⟨rfl, ha1⟩ := xq_some ha
  obtain ⟨v, hv, ha2⟩ := Option.bind_eq_some_iff.mp ha1
  obtain rfl := xGo_some ha2
  exact lv_aload_n hx hb hd rfl (xlr_get hl (xlR_some hv)) (kk H locs lsM hO hS hl hn)
theorem xj_aload {n : Nat} {j : xJ} (hd : decode (xmb k) pc = .ok (.aload n, len)) (ha : xAct k pc (.aload n) len ls st h nc ns = some (.inl j)) (A : xAt G l k p R s m args meth c) (hO : xO G h H) (hS : va_S (xAr G) s.heap H locs) (hl : xlr G ls lsM (xml k)) (hn : nc ≤ xmc k ∧ ns ≤ xms k)
    (kk : ∀ (H' : Heap) (locs' : List Loc) (lsM' : Array Slot), xO G j.2.2.2.1 H' → va_S (xAr G) s.heap H' locs' → xlr G j.2.1 lsM' (xml k) → j.2.2.2.2.1 ≤ xmc k ∧ j.2.2.2.2.2 ≤ xms k → W p l e R s m args below meth c H' locs' j.2.2.2.2.1 j.2.2.2.2.2 Q (F0 m j.1 lsM' (j.2.2.1.map (xv G)))) : W p l e R s m args below meth c H locs nc ns Q (F0 m pc lsM (st.map (xv G))) := by
  obtain ⟨hx, hb, hml, hr, hlk, hnm, hown, htb, hts, hR, hK, hfl⟩ := A
  obtain ⟨rfl, ha1⟩ := xq_some ha
  obtain ⟨v, hv, ha2⟩ := Option.bind_eq_some_iff.mp ha1
  obtain rfl := xGo_some ha2
  exact lv_aload hx hb hd (xlr_get hl (xlR_some hv)) (kk H locs lsM hO hS hl hn)
theorem xj_istore_n {n : Fin 4} {j : xJ} (hd : decode (xmb k) pc = .ok (.istore_n n, len)) (ha : xAct k pc (.istore_n n) len ls st h nc ns = some (.inl j)) (A : xAt G l k p R s m args meth c) (hO : xO G h H) (hS : va_S (xAr G) s.heap H locs) (hl : xlr G ls lsM (xml k)) (hn : nc ≤ xmc k ∧ ns ≤ xms k)
    (kk : ∀ (H' : Heap) (locs' : List Loc) (lsM' : Array Slot), xO G j.2.2.2.1 H' → va_S (xAr G) s.heap H' locs' → xlr G j.2.1 lsM' (xml k) → j.2.2.2.2.1 ≤ xmc k ∧ j.2.2.2.2.2 ≤ xms k → W p l e R s m args below meth c H' locs' j.2.2.2.2.1 j.2.2.2.2.2 Q (F0 m j.1 lsM' (j.2.2.1.map (xv G)))) : W p l e R s m args below meth c H locs nc ns Q (F0 m pc lsM (st.map (xv G))) := by
  obtain ⟨hx, hb, hml, hr, hlk, hnm, hown, htb, hts, hR, hK, hfl⟩ := A
  obtain ⟨rfl, ha1⟩ := xq_some ha
  obtain ⟨q, hp, ha2⟩ := Option.bind_eq_some_iff.mp ha1
  obtain rfl := xpI_some hp
  obtain ⟨hlt, ha3⟩ := xif_some ha2
  obtain rfl := xGo_some ha3
  exact lv_istore_n hx hb hd rfl hl.1 (by rw [← hl.2]; exact hlt) rfl (fun ls1 h1 => kk H locs ls1 hO hS (xlr_s1 (v := .int q.1) hl.2 h1) hn)
theorem xj_istore {n : Nat} {j : xJ} (hd : decode (xmb k) pc = .ok (.istore n, len)) (ha : xAct k pc (.istore n) len ls st h nc ns = some (.inl j)) (A : xAt G l k p R s m args meth c) (hO : xO G h H) (hS : va_S (xAr G) s.heap H locs) (hl : xlr G ls lsM (xml k)) (hn : nc ≤ xmc k ∧ ns ≤ xms k)
    (kk : ∀ (H' : Heap) (locs' : List Loc) (lsM' : Array Slot), xO G j.2.2.2.1 H' → va_S (xAr G) s.heap H' locs' → xlr G j.2.1 lsM' (xml k) → j.2.2.2.2.1 ≤ xmc k ∧ j.2.2.2.2.2 ≤ xms k → W p l e R s m args below meth c H' locs' j.2.2.2.2.1 j.2.2.2.2.2 Q (F0 m j.1 lsM' (j.2.2.1.map (xv G)))) : W p l e R s m args below meth c H locs nc ns Q (F0 m pc lsM (st.map (xv G))) := by
  obtain ⟨hx, hb, hml, hr, hlk, hnm, hown, htb, hts, hR, hK, hfl⟩ := A
  obtain ⟨rfl, ha1⟩ := xq_some ha
  obtain ⟨q, hp, ha2⟩ := Option.bind_eq_some_iff.mp ha1
  obtain rfl := xpI_some hp
  obtain ⟨hlt, ha3⟩ := xif_some ha2
  obtain rfl := xGo_some ha3
  exact lv_istore hx hb hd hl.1 (by rw [← hl.2]; exact hlt) rfl (fun ls1 h1 => kk H locs ls1 hO hS (xlr_s1 (v := .int q.1) hl.2 h1) hn)
theorem xj_astore_n {n : Fin 4} {j : xJ} (hd : decode (xmb k) pc = .ok (.astore_n n, len)) (ha : xAct k pc (.astore_n n) len ls st h nc ns = some (.inl j)) (A : xAt G l k p R s m args meth c) (hO : xO G h H) (hS : va_S (xAr G) s.heap H locs) (hl : xlr G ls lsM (xml k)) (hn : nc ≤ xmc k ∧ ns ≤ xms k)
    (kk : ∀ (H' : Heap) (locs' : List Loc) (lsM' : Array Slot), xO G j.2.2.2.1 H' → va_S (xAr G) s.heap H' locs' → xlr G j.2.1 lsM' (xml k) → j.2.2.2.2.1 ≤ xmc k ∧ j.2.2.2.2.2 ≤ xms k → W p l e R s m args below meth c H' locs' j.2.2.2.2.1 j.2.2.2.2.2 Q (F0 m j.1 lsM' (j.2.2.1.map (xv G)))) : W p l e R s m args below meth c H locs nc ns Q (F0 m pc lsM (st.map (xv G))) := by
  obtain ⟨hx, hb, hml, hr, hlk, hnm, hown, htb, hts, hR, hK, hfl⟩ := A
  obtain ⟨rfl, ha1⟩ := xq_some ha
  obtain ⟨q, hp, ha2⟩ := Option.bind_eq_some_iff.mp ha1
  obtain rfl := xpR_some hp
  obtain ⟨hlt, ha3⟩ := xif_some ha2
  obtain rfl := xGo_some ha3
  exact lv_astore_n hx hb hd rfl hl.1 (by rw [← hl.2]; exact hlt) rfl (fun ls1 h1 => kk H locs ls1 hO hS (xlr_s1 (v := .ref q.1) hl.2 h1) hn)
theorem xj_astore {n : Nat} {j : xJ} (hd : decode (xmb k) pc = .ok (.astore n, len)) (ha : xAct k pc (.astore n) len ls st h nc ns = some (.inl j)) (A : xAt G l k p R s m args meth c) (hO : xO G h H) (hS : va_S (xAr G) s.heap H locs) (hl : xlr G ls lsM (xml k)) (hn : nc ≤ xmc k ∧ ns ≤ xms k)
    (kk : ∀ (H' : Heap) (locs' : List Loc) (lsM' : Array Slot), xO G j.2.2.2.1 H' → va_S (xAr G) s.heap H' locs' → xlr G j.2.1 lsM' (xml k) → j.2.2.2.2.1 ≤ xmc k ∧ j.2.2.2.2.2 ≤ xms k → W p l e R s m args below meth c H' locs' j.2.2.2.2.1 j.2.2.2.2.2 Q (F0 m j.1 lsM' (j.2.2.1.map (xv G)))) : W p l e R s m args below meth c H locs nc ns Q (F0 m pc lsM (st.map (xv G))) := by
  obtain ⟨hx, hb, hml, hr, hlk, hnm, hown, htb, hts, hR, hK, hfl⟩ := A
  obtain ⟨rfl, ha1⟩ := xq_some ha
  obtain ⟨q, hp, ha2⟩ := Option.bind_eq_some_iff.mp ha1
  obtain rfl := xpR_some hp
  obtain ⟨hlt, ha3⟩ := xif_some ha2
  obtain rfl := xGo_some ha3
  exact lv_astore hx hb hd hl.1 (by rw [← hl.2]; exact hlt) rfl (fun ls1 h1 => kk H locs ls1 hO hS (xlr_s1 (v := .ref q.1) hl.2 h1) hn)
theorem xj_lstore_n {n : Fin 4} {j : xJ} (hd : decode (xmb k) pc = .ok (.lstore_n n, len)) (ha : xAct k pc (.lstore_n n) len ls st h nc ns = some (.inl j)) (A : xAt G l k p R s m args meth c) (hO : xO G h H) (hS : va_S (xAr G) s.heap H locs) (hl : xlr G ls lsM (xml k)) (hn : nc ≤ xmc k ∧ ns ≤ xms k)
    (kk : ∀ (H' : Heap) (locs' : List Loc) (lsM' : Array Slot), xO G j.2.2.2.1 H' → va_S (xAr G) s.heap H' locs' → xlr G j.2.1 lsM' (xml k) → j.2.2.2.2.1 ≤ xmc k ∧ j.2.2.2.2.2 ≤ xms k → W p l e R s m args below meth c H' locs' j.2.2.2.2.1 j.2.2.2.2.2 Q (F0 m j.1 lsM' (j.2.2.1.map (xv G)))) : W p l e R s m args below meth c H locs nc ns Q (F0 m pc lsM (st.map (xv G))) := by
  obtain ⟨hx, hb, hml, hr, hlk, hnm, hown, htb, hts, hR, hK, hfl⟩ := A
  obtain ⟨rfl, ha1⟩ := xq_some ha
  obtain ⟨q, hp, ha2⟩ := Option.bind_eq_some_iff.mp ha1
  obtain rfl := xpL_some hp
  obtain ⟨hlt, ha3⟩ := xif_some ha2
  obtain rfl := xGo_some ha3
  exact lv_lstore_n hx hb hd rfl hl.1 (by rw [← hl.2]; exact hlt) rfl (fun ls1 h1 => kk H locs ls1 hO hS (xlr_s2 (v := .long q.1) hl.2 h1) hn)
theorem xj_lstore {n : Nat} {j : xJ} (hd : decode (xmb k) pc = .ok (.lstore n, len)) (ha : xAct k pc (.lstore n) len ls st h nc ns = some (.inl j)) (A : xAt G l k p R s m args meth c) (hO : xO G h H) (hS : va_S (xAr G) s.heap H locs) (hl : xlr G ls lsM (xml k)) (hn : nc ≤ xmc k ∧ ns ≤ xms k)
    (kk : ∀ (H' : Heap) (locs' : List Loc) (lsM' : Array Slot), xO G j.2.2.2.1 H' → va_S (xAr G) s.heap H' locs' → xlr G j.2.1 lsM' (xml k) → j.2.2.2.2.1 ≤ xmc k ∧ j.2.2.2.2.2 ≤ xms k → W p l e R s m args below meth c H' locs' j.2.2.2.2.1 j.2.2.2.2.2 Q (F0 m j.1 lsM' (j.2.2.1.map (xv G)))) : W p l e R s m args below meth c H locs nc ns Q (F0 m pc lsM (st.map (xv G))) := by
  obtain ⟨hx, hb, hml, hr, hlk, hnm, hown, htb, hts, hR, hK, hfl⟩ := A
  obtain ⟨rfl, ha1⟩ := xq_some ha
  obtain ⟨q, hp, ha2⟩ := Option.bind_eq_some_iff.mp ha1
  obtain rfl := xpL_some hp
  obtain ⟨hlt, ha3⟩ := xif_some ha2
  obtain rfl := xGo_some ha3
  exact lv_lstore hx hb hd hl.1 (by rw [← hl.2]; exact hlt) rfl (fun ls1 h1 => kk H locs ls1 hO hS (xlr_s2 (v := .long q.1) hl.2 h1) hn)
theorem xj_iinc {i : Nat} {n : Int} {j : xJ} (hd : decode (xmb k) pc = .ok (.iinc i n, len)) (ha : xAct k pc (.iinc i n) len ls st h nc ns = some (.inl j)) (A : xAt G l k p R s m args meth c) (hO : xO G h H) (hS : va_S (xAr G) s.heap H locs) (hl : xlr G ls lsM (xml k)) (hn : nc ≤ xmc k ∧ ns ≤ xms k)
    (kk : ∀ (H' : Heap) (locs' : List Loc) (lsM' : Array Slot), xO G j.2.2.2.1 H' → va_S (xAr G) s.heap H' locs' → xlr G j.2.1 lsM' (xml k) → j.2.2.2.2.1 ≤ xmc k ∧ j.2.2.2.2.2 ≤ xms k → W p l e R s m args below meth c H' locs' j.2.2.2.2.1 j.2.2.2.2.2 Q (F0 m j.1 lsM' (j.2.2.1.map (xv G)))) : W p l e R s m args below meth c H locs nc ns Q (F0 m pc lsM (st.map (xv G))) := by
  obtain ⟨hx, hb, hml, hr, hlk, hnm, hown, htb, hts, hR, hK, hfl⟩ := A
  obtain ⟨rfl, ha1⟩ := xq_some ha
  obtain ⟨x, hv, ha2⟩ := Option.bind_eq_some_iff.mp ha1
  obtain ⟨hlt, ha3⟩ := xif_some ha2
  obtain rfl := xGo_some ha3
  obtain ⟨k0, hk0⟩ := List.getElem?_of_mem (xll_mem (G := G) (q := (i, .int x)) |>.mpr ⟨.int x, xlI_some hv, rfl⟩)
  exact lv_iinc hx hb hd hl.1 hk0 rfl (by rw [← hl.2]; exact hlt) rfl (fun ls1 h1 => kk H locs ls1 hO hS (xlr_s1 (v := .int (x + Int32.ofInt n)) hl.2 h1) hn)
theorem xj_iadd {j : xJ} (hd : decode (xmb k) pc = .ok (.iadd, len)) (ha : xAct k pc (.iadd) len ls st h nc ns = some (.inl j)) (A : xAt G l k p R s m args meth c) (hO : xO G h H) (hS : va_S (xAr G) s.heap H locs) (hl : xlr G ls lsM (xml k)) (hn : nc ≤ xmc k ∧ ns ≤ xms k)
    (kk : ∀ (H' : Heap) (locs' : List Loc) (lsM' : Array Slot), xO G j.2.2.2.1 H' → va_S (xAr G) s.heap H' locs' → xlr G j.2.1 lsM' (xml k) → j.2.2.2.2.1 ≤ xmc k ∧ j.2.2.2.2.2 ≤ xms k → W p l e R s m args below meth c H' locs' j.2.2.2.2.1 j.2.2.2.2.2 Q (F0 m j.1 lsM' (j.2.2.1.map (xv G)))) : W p l e R s m args below meth c H locs nc ns Q (F0 m pc lsM (st.map (xv G))) := by
  obtain ⟨hx, hb, hml, hr, hlk, hnm, hown, htb, hts, hR, hK, hfl⟩ := A
  obtain ⟨rfl, ha1⟩ := xq_some ha
  obtain ⟨q, hp, ha2⟩ := Option.bind_eq_some_iff.mp ha1
  obtain rfl := xpII_some hp
  obtain rfl := xGo_some ha2
  exact lv_iadd hx hb hd (kk H locs lsM hO hS hl hn)
theorem xj_isub {j : xJ} (hd : decode (xmb k) pc = .ok (.isub, len)) (ha : xAct k pc (.isub) len ls st h nc ns = some (.inl j)) (A : xAt G l k p R s m args meth c) (hO : xO G h H) (hS : va_S (xAr G) s.heap H locs) (hl : xlr G ls lsM (xml k)) (hn : nc ≤ xmc k ∧ ns ≤ xms k)
    (kk : ∀ (H' : Heap) (locs' : List Loc) (lsM' : Array Slot), xO G j.2.2.2.1 H' → va_S (xAr G) s.heap H' locs' → xlr G j.2.1 lsM' (xml k) → j.2.2.2.2.1 ≤ xmc k ∧ j.2.2.2.2.2 ≤ xms k → W p l e R s m args below meth c H' locs' j.2.2.2.2.1 j.2.2.2.2.2 Q (F0 m j.1 lsM' (j.2.2.1.map (xv G)))) : W p l e R s m args below meth c H locs nc ns Q (F0 m pc lsM (st.map (xv G))) := by
  obtain ⟨hx, hb, hml, hr, hlk, hnm, hown, htb, hts, hR, hK, hfl⟩ := A
  obtain ⟨rfl, ha1⟩ := xq_some ha
  obtain ⟨q, hp, ha2⟩ := Option.bind_eq_some_iff.mp ha1
  obtain rfl := xpII_some hp
  obtain rfl := xGo_some ha2
  exact lv_isub hx hb hd (kk H locs lsM hO hS hl hn)
theorem xj_imul {j : xJ} (hd : decode (xmb k) pc = .ok (.imul, len)) (ha : xAct k pc (.imul) len ls st h nc ns = some (.inl j)) (A : xAt G l k p R s m args meth c) (hO : xO G h H) (hS : va_S (xAr G) s.heap H locs) (hl : xlr G ls lsM (xml k)) (hn : nc ≤ xmc k ∧ ns ≤ xms k)
    (kk : ∀ (H' : Heap) (locs' : List Loc) (lsM' : Array Slot), xO G j.2.2.2.1 H' → va_S (xAr G) s.heap H' locs' → xlr G j.2.1 lsM' (xml k) → j.2.2.2.2.1 ≤ xmc k ∧ j.2.2.2.2.2 ≤ xms k → W p l e R s m args below meth c H' locs' j.2.2.2.2.1 j.2.2.2.2.2 Q (F0 m j.1 lsM' (j.2.2.1.map (xv G)))) : W p l e R s m args below meth c H locs nc ns Q (F0 m pc lsM (st.map (xv G))) := by
  obtain ⟨hx, hb, hml, hr, hlk, hnm, hown, htb, hts, hR, hK, hfl⟩ := A
  obtain ⟨rfl, ha1⟩ := xq_some ha
  obtain ⟨q, hp, ha2⟩ := Option.bind_eq_some_iff.mp ha1
  obtain rfl := xpII_some hp
  obtain rfl := xGo_some ha2
  exact lv_imul hx hb hd (kk H locs lsM hO hS hl hn)
theorem xj_ishl {j : xJ} (hd : decode (xmb k) pc = .ok (.ishl, len)) (ha : xAct k pc (.ishl) len ls st h nc ns = some (.inl j)) (A : xAt G l k p R s m args meth c) (hO : xO G h H) (hS : va_S (xAr G) s.heap H locs) (hl : xlr G ls lsM (xml k)) (hn : nc ≤ xmc k ∧ ns ≤ xms k)
    (kk : ∀ (H' : Heap) (locs' : List Loc) (lsM' : Array Slot), xO G j.2.2.2.1 H' → va_S (xAr G) s.heap H' locs' → xlr G j.2.1 lsM' (xml k) → j.2.2.2.2.1 ≤ xmc k ∧ j.2.2.2.2.2 ≤ xms k → W p l e R s m args below meth c H' locs' j.2.2.2.2.1 j.2.2.2.2.2 Q (F0 m j.1 lsM' (j.2.2.1.map (xv G)))) : W p l e R s m args below meth c H locs nc ns Q (F0 m pc lsM (st.map (xv G))) := by
  obtain ⟨hx, hb, hml, hr, hlk, hnm, hown, htb, hts, hR, hK, hfl⟩ := A
  obtain ⟨rfl, ha1⟩ := xq_some ha
  obtain ⟨q, hp, ha2⟩ := Option.bind_eq_some_iff.mp ha1
  obtain rfl := xpII_some hp
  obtain rfl := xGo_some ha2
  exact lv_ishl hx hb hd (kk H locs lsM hO hS hl hn)
theorem xj_ishr {j : xJ} (hd : decode (xmb k) pc = .ok (.ishr, len)) (ha : xAct k pc (.ishr) len ls st h nc ns = some (.inl j)) (A : xAt G l k p R s m args meth c) (hO : xO G h H) (hS : va_S (xAr G) s.heap H locs) (hl : xlr G ls lsM (xml k)) (hn : nc ≤ xmc k ∧ ns ≤ xms k)
    (kk : ∀ (H' : Heap) (locs' : List Loc) (lsM' : Array Slot), xO G j.2.2.2.1 H' → va_S (xAr G) s.heap H' locs' → xlr G j.2.1 lsM' (xml k) → j.2.2.2.2.1 ≤ xmc k ∧ j.2.2.2.2.2 ≤ xms k → W p l e R s m args below meth c H' locs' j.2.2.2.2.1 j.2.2.2.2.2 Q (F0 m j.1 lsM' (j.2.2.1.map (xv G)))) : W p l e R s m args below meth c H locs nc ns Q (F0 m pc lsM (st.map (xv G))) := by
  obtain ⟨hx, hb, hml, hr, hlk, hnm, hown, htb, hts, hR, hK, hfl⟩ := A
  obtain ⟨rfl, ha1⟩ := xq_some ha
  obtain ⟨q, hp, ha2⟩ := Option.bind_eq_some_iff.mp ha1
  obtain rfl := xpII_some hp
  obtain rfl := xGo_some ha2
  exact lv_ishr hx hb hd (kk H locs lsM hO hS hl hn)
theorem xj_iand {j : xJ} (hd : decode (xmb k) pc = .ok (.iand, len)) (ha : xAct k pc (.iand) len ls st h nc ns = some (.inl j)) (A : xAt G l k p R s m args meth c) (hO : xO G h H) (hS : va_S (xAr G) s.heap H locs) (hl : xlr G ls lsM (xml k)) (hn : nc ≤ xmc k ∧ ns ≤ xms k)
    (kk : ∀ (H' : Heap) (locs' : List Loc) (lsM' : Array Slot), xO G j.2.2.2.1 H' → va_S (xAr G) s.heap H' locs' → xlr G j.2.1 lsM' (xml k) → j.2.2.2.2.1 ≤ xmc k ∧ j.2.2.2.2.2 ≤ xms k → W p l e R s m args below meth c H' locs' j.2.2.2.2.1 j.2.2.2.2.2 Q (F0 m j.1 lsM' (j.2.2.1.map (xv G)))) : W p l e R s m args below meth c H locs nc ns Q (F0 m pc lsM (st.map (xv G))) := by
  obtain ⟨hx, hb, hml, hr, hlk, hnm, hown, htb, hts, hR, hK, hfl⟩ := A
  obtain ⟨rfl, ha1⟩ := xq_some ha
  obtain ⟨q, hp, ha2⟩ := Option.bind_eq_some_iff.mp ha1
  obtain rfl := xpII_some hp
  obtain rfl := xGo_some ha2
  exact lv_iand hx hb hd (kk H locs lsM hO hS hl hn)
theorem xj_ior {j : xJ} (hd : decode (xmb k) pc = .ok (.ior, len)) (ha : xAct k pc (.ior) len ls st h nc ns = some (.inl j)) (A : xAt G l k p R s m args meth c) (hO : xO G h H) (hS : va_S (xAr G) s.heap H locs) (hl : xlr G ls lsM (xml k)) (hn : nc ≤ xmc k ∧ ns ≤ xms k)
    (kk : ∀ (H' : Heap) (locs' : List Loc) (lsM' : Array Slot), xO G j.2.2.2.1 H' → va_S (xAr G) s.heap H' locs' → xlr G j.2.1 lsM' (xml k) → j.2.2.2.2.1 ≤ xmc k ∧ j.2.2.2.2.2 ≤ xms k → W p l e R s m args below meth c H' locs' j.2.2.2.2.1 j.2.2.2.2.2 Q (F0 m j.1 lsM' (j.2.2.1.map (xv G)))) : W p l e R s m args below meth c H locs nc ns Q (F0 m pc lsM (st.map (xv G))) := by
  obtain ⟨hx, hb, hml, hr, hlk, hnm, hown, htb, hts, hR, hK, hfl⟩ := A
  obtain ⟨rfl, ha1⟩ := xq_some ha
  obtain ⟨q, hp, ha2⟩ := Option.bind_eq_some_iff.mp ha1
  obtain rfl := xpII_some hp
  obtain rfl := xGo_some ha2
  exact lv_ior hx hb hd (kk H locs lsM hO hS hl hn)
theorem xj_ixor {j : xJ} (hd : decode (xmb k) pc = .ok (.ixor, len)) (ha : xAct k pc (.ixor) len ls st h nc ns = some (.inl j)) (A : xAt G l k p R s m args meth c) (hO : xO G h H) (hS : va_S (xAr G) s.heap H locs) (hl : xlr G ls lsM (xml k)) (hn : nc ≤ xmc k ∧ ns ≤ xms k)
    (kk : ∀ (H' : Heap) (locs' : List Loc) (lsM' : Array Slot), xO G j.2.2.2.1 H' → va_S (xAr G) s.heap H' locs' → xlr G j.2.1 lsM' (xml k) → j.2.2.2.2.1 ≤ xmc k ∧ j.2.2.2.2.2 ≤ xms k → W p l e R s m args below meth c H' locs' j.2.2.2.2.1 j.2.2.2.2.2 Q (F0 m j.1 lsM' (j.2.2.1.map (xv G)))) : W p l e R s m args below meth c H locs nc ns Q (F0 m pc lsM (st.map (xv G))) := by
  obtain ⟨hx, hb, hml, hr, hlk, hnm, hown, htb, hts, hR, hK, hfl⟩ := A
  obtain ⟨rfl, ha1⟩ := xq_some ha
  obtain ⟨q, hp, ha2⟩ := Option.bind_eq_some_iff.mp ha1
  obtain rfl := xpII_some hp
  obtain rfl := xGo_some ha2
  exact lv_ixor hx hb hd (kk H locs lsM hO hS hl hn)
theorem xj_idiv {j : xJ} (hd : decode (xmb k) pc = .ok (.idiv, len)) (ha : xAct k pc (.idiv) len ls st h nc ns = some (.inl j)) (A : xAt G l k p R s m args meth c) (hO : xO G h H) (hS : va_S (xAr G) s.heap H locs) (hl : xlr G ls lsM (xml k)) (hn : nc ≤ xmc k ∧ ns ≤ xms k)
    (kk : ∀ (H' : Heap) (locs' : List Loc) (lsM' : Array Slot), xO G j.2.2.2.1 H' → va_S (xAr G) s.heap H' locs' → xlr G j.2.1 lsM' (xml k) → j.2.2.2.2.1 ≤ xmc k ∧ j.2.2.2.2.2 ≤ xms k → W p l e R s m args below meth c H' locs' j.2.2.2.2.1 j.2.2.2.2.2 Q (F0 m j.1 lsM' (j.2.2.1.map (xv G)))) : W p l e R s m args below meth c H locs nc ns Q (F0 m pc lsM (st.map (xv G))) := by
  obtain ⟨hx, hb, hml, hr, hlk, hnm, hown, htb, hts, hR, hK, hfl⟩ := A
  obtain ⟨rfl, ha1⟩ := xq_some ha
  obtain ⟨q, hp, ha2⟩ := Option.bind_eq_some_iff.mp ha1
  obtain rfl := xpII_some hp
  split at ha2
  · cases ha2
  · next hne =>
    obtain rfl := xGo_some ha2
    exact lv_idiv hx hb hd hne (kk H locs lsM hO hS hl hn)
theorem xj_irem {j : xJ} (hd : decode (xmb k) pc = .ok (.irem, len)) (ha : xAct k pc (.irem) len ls st h nc ns = some (.inl j)) (A : xAt G l k p R s m args meth c) (hO : xO G h H) (hS : va_S (xAr G) s.heap H locs) (hl : xlr G ls lsM (xml k)) (hn : nc ≤ xmc k ∧ ns ≤ xms k)
    (kk : ∀ (H' : Heap) (locs' : List Loc) (lsM' : Array Slot), xO G j.2.2.2.1 H' → va_S (xAr G) s.heap H' locs' → xlr G j.2.1 lsM' (xml k) → j.2.2.2.2.1 ≤ xmc k ∧ j.2.2.2.2.2 ≤ xms k → W p l e R s m args below meth c H' locs' j.2.2.2.2.1 j.2.2.2.2.2 Q (F0 m j.1 lsM' (j.2.2.1.map (xv G)))) : W p l e R s m args below meth c H locs nc ns Q (F0 m pc lsM (st.map (xv G))) := by
  obtain ⟨hx, hb, hml, hr, hlk, hnm, hown, htb, hts, hR, hK, hfl⟩ := A
  obtain ⟨rfl, ha1⟩ := xq_some ha
  obtain ⟨q, hp, ha2⟩ := Option.bind_eq_some_iff.mp ha1
  obtain rfl := xpII_some hp
  split at ha2
  · cases ha2
  · next hne =>
    obtain rfl := xGo_some ha2
    exact lv_irem hx hb hd hne (kk H locs lsM hO hS hl hn)
theorem xj_iushr {j : xJ} (hd : decode (xmb k) pc = .ok (.iushr, len)) (ha : xAct k pc (.iushr) len ls st h nc ns = some (.inl j)) (A : xAt G l k p R s m args meth c) (hO : xO G h H) (hS : va_S (xAr G) s.heap H locs) (hl : xlr G ls lsM (xml k)) (hn : nc ≤ xmc k ∧ ns ≤ xms k)
    (kk : ∀ (H' : Heap) (locs' : List Loc) (lsM' : Array Slot), xO G j.2.2.2.1 H' → va_S (xAr G) s.heap H' locs' → xlr G j.2.1 lsM' (xml k) → j.2.2.2.2.1 ≤ xmc k ∧ j.2.2.2.2.2 ≤ xms k → W p l e R s m args below meth c H' locs' j.2.2.2.2.1 j.2.2.2.2.2 Q (F0 m j.1 lsM' (j.2.2.1.map (xv G)))) : W p l e R s m args below meth c H locs nc ns Q (F0 m pc lsM (st.map (xv G))) := by
  obtain ⟨hx, hb, hml, hr, hlk, hnm, hown, htb, hts, hR, hK, hfl⟩ := A
  obtain ⟨rfl, ha1⟩ := xq_some ha
  obtain ⟨q, hp, ha2⟩ := Option.bind_eq_some_iff.mp ha1
  obtain rfl := xpII_some hp
  obtain rfl := xGo_some ha2
  exact lv_iushr hx hb hd rfl (kk H locs lsM hO hS hl hn)
theorem xj_ineg {j : xJ} (hd : decode (xmb k) pc = .ok (.ineg, len)) (ha : xAct k pc (.ineg) len ls st h nc ns = some (.inl j)) (A : xAt G l k p R s m args meth c) (hO : xO G h H) (hS : va_S (xAr G) s.heap H locs) (hl : xlr G ls lsM (xml k)) (hn : nc ≤ xmc k ∧ ns ≤ xms k)
    (kk : ∀ (H' : Heap) (locs' : List Loc) (lsM' : Array Slot), xO G j.2.2.2.1 H' → va_S (xAr G) s.heap H' locs' → xlr G j.2.1 lsM' (xml k) → j.2.2.2.2.1 ≤ xmc k ∧ j.2.2.2.2.2 ≤ xms k → W p l e R s m args below meth c H' locs' j.2.2.2.2.1 j.2.2.2.2.2 Q (F0 m j.1 lsM' (j.2.2.1.map (xv G)))) : W p l e R s m args below meth c H locs nc ns Q (F0 m pc lsM (st.map (xv G))) := by
  obtain ⟨hx, hb, hml, hr, hlk, hnm, hown, htb, hts, hR, hK, hfl⟩ := A
  obtain ⟨rfl, ha1⟩ := xq_some ha
  obtain ⟨q, hp, ha2⟩ := Option.bind_eq_some_iff.mp ha1
  obtain rfl := xpI_some hp
  obtain rfl := xGo_some ha2
  exact lv_ineg hx hb hd (kk H locs lsM hO hS hl hn)
theorem xj_i2l {j : xJ} (hd : decode (xmb k) pc = .ok (.i2l, len)) (ha : xAct k pc (.i2l) len ls st h nc ns = some (.inl j)) (A : xAt G l k p R s m args meth c) (hO : xO G h H) (hS : va_S (xAr G) s.heap H locs) (hl : xlr G ls lsM (xml k)) (hn : nc ≤ xmc k ∧ ns ≤ xms k)
    (kk : ∀ (H' : Heap) (locs' : List Loc) (lsM' : Array Slot), xO G j.2.2.2.1 H' → va_S (xAr G) s.heap H' locs' → xlr G j.2.1 lsM' (xml k) → j.2.2.2.2.1 ≤ xmc k ∧ j.2.2.2.2.2 ≤ xms k → W p l e R s m args below meth c H' locs' j.2.2.2.2.1 j.2.2.2.2.2 Q (F0 m j.1 lsM' (j.2.2.1.map (xv G)))) : W p l e R s m args below meth c H locs nc ns Q (F0 m pc lsM (st.map (xv G))) := by
  obtain ⟨hx, hb, hml, hr, hlk, hnm, hown, htb, hts, hR, hK, hfl⟩ := A
  obtain ⟨rfl, ha1⟩ := xq_some ha
  obtain ⟨q, hp, ha2⟩ := Option.bind_eq_some_iff.mp ha1
  obtain rfl := xpI_some hp
  obtain rfl := xGo_some ha2
  exact lv_i2l hx hb hd rfl (kk H locs lsM hO hS hl hn)
theorem xj_i2c {j : xJ} (hd : decode (xmb k) pc = .ok (.i2c, len)) (ha : xAct k pc (.i2c) len ls st h nc ns = some (.inl j)) (A : xAt G l k p R s m args meth c) (hO : xO G h H) (hS : va_S (xAr G) s.heap H locs) (hl : xlr G ls lsM (xml k)) (hn : nc ≤ xmc k ∧ ns ≤ xms k)
    (kk : ∀ (H' : Heap) (locs' : List Loc) (lsM' : Array Slot), xO G j.2.2.2.1 H' → va_S (xAr G) s.heap H' locs' → xlr G j.2.1 lsM' (xml k) → j.2.2.2.2.1 ≤ xmc k ∧ j.2.2.2.2.2 ≤ xms k → W p l e R s m args below meth c H' locs' j.2.2.2.2.1 j.2.2.2.2.2 Q (F0 m j.1 lsM' (j.2.2.1.map (xv G)))) : W p l e R s m args below meth c H locs nc ns Q (F0 m pc lsM (st.map (xv G))) := by
  obtain ⟨hx, hb, hml, hr, hlk, hnm, hown, htb, hts, hR, hK, hfl⟩ := A
  obtain ⟨rfl, ha1⟩ := xq_some ha
  obtain ⟨q, hp, ha2⟩ := Option.bind_eq_some_iff.mp ha1
  obtain rfl := xpI_some hp
  obtain rfl := xGo_some ha2
  exact lv_i2c hx hb hd rfl (kk H locs lsM hO hS hl hn)
theorem xj_l2i {j : xJ} (hd : decode (xmb k) pc = .ok (.l2i, len)) (ha : xAct k pc (.l2i) len ls st h nc ns = some (.inl j)) (A : xAt G l k p R s m args meth c) (hO : xO G h H) (hS : va_S (xAr G) s.heap H locs) (hl : xlr G ls lsM (xml k)) (hn : nc ≤ xmc k ∧ ns ≤ xms k)
    (kk : ∀ (H' : Heap) (locs' : List Loc) (lsM' : Array Slot), xO G j.2.2.2.1 H' → va_S (xAr G) s.heap H' locs' → xlr G j.2.1 lsM' (xml k) → j.2.2.2.2.1 ≤ xmc k ∧ j.2.2.2.2.2 ≤ xms k → W p l e R s m args below meth c H' locs' j.2.2.2.2.1 j.2.2.2.2.2 Q (F0 m j.1 lsM' (j.2.2.1.map (xv G)))) : W p l e R s m args below meth c H locs nc ns Q (F0 m pc lsM (st.map (xv G))) := by
  obtain ⟨hx, hb, hml, hr, hlk, hnm, hown, htb, hts, hR, hK, hfl⟩ := A
  obtain ⟨rfl, ha1⟩ := xq_some ha
  obtain ⟨q, hp, ha2⟩ := Option.bind_eq_some_iff.mp ha1
  obtain rfl := xpL_some hp
  obtain rfl := xGo_some ha2
  exact lv_l2i hx hb hd rfl (kk H locs lsM hO hS hl hn)
theorem xj_ladd {j : xJ} (hd : decode (xmb k) pc = .ok (.ladd, len)) (ha : xAct k pc (.ladd) len ls st h nc ns = some (.inl j)) (A : xAt G l k p R s m args meth c) (hO : xO G h H) (hS : va_S (xAr G) s.heap H locs) (hl : xlr G ls lsM (xml k)) (hn : nc ≤ xmc k ∧ ns ≤ xms k)
    (kk : ∀ (H' : Heap) (locs' : List Loc) (lsM' : Array Slot), xO G j.2.2.2.1 H' → va_S (xAr G) s.heap H' locs' → xlr G j.2.1 lsM' (xml k) → j.2.2.2.2.1 ≤ xmc k ∧ j.2.2.2.2.2 ≤ xms k → W p l e R s m args below meth c H' locs' j.2.2.2.2.1 j.2.2.2.2.2 Q (F0 m j.1 lsM' (j.2.2.1.map (xv G)))) : W p l e R s m args below meth c H locs nc ns Q (F0 m pc lsM (st.map (xv G))) := by
  obtain ⟨hx, hb, hml, hr, hlk, hnm, hown, htb, hts, hR, hK, hfl⟩ := A
  obtain ⟨rfl, ha1⟩ := xq_some ha
  obtain ⟨q, hp, ha2⟩ := Option.bind_eq_some_iff.mp ha1
  obtain rfl := xpLL_some hp
  obtain rfl := xGo_some ha2
  exact lv_ladd hx hb hd (kk H locs lsM hO hS hl hn)
theorem xj_lsub {j : xJ} (hd : decode (xmb k) pc = .ok (.lsub, len)) (ha : xAct k pc (.lsub) len ls st h nc ns = some (.inl j)) (A : xAt G l k p R s m args meth c) (hO : xO G h H) (hS : va_S (xAr G) s.heap H locs) (hl : xlr G ls lsM (xml k)) (hn : nc ≤ xmc k ∧ ns ≤ xms k)
    (kk : ∀ (H' : Heap) (locs' : List Loc) (lsM' : Array Slot), xO G j.2.2.2.1 H' → va_S (xAr G) s.heap H' locs' → xlr G j.2.1 lsM' (xml k) → j.2.2.2.2.1 ≤ xmc k ∧ j.2.2.2.2.2 ≤ xms k → W p l e R s m args below meth c H' locs' j.2.2.2.2.1 j.2.2.2.2.2 Q (F0 m j.1 lsM' (j.2.2.1.map (xv G)))) : W p l e R s m args below meth c H locs nc ns Q (F0 m pc lsM (st.map (xv G))) := by
  obtain ⟨hx, hb, hml, hr, hlk, hnm, hown, htb, hts, hR, hK, hfl⟩ := A
  obtain ⟨rfl, ha1⟩ := xq_some ha
  obtain ⟨q, hp, ha2⟩ := Option.bind_eq_some_iff.mp ha1
  obtain rfl := xpLL_some hp
  obtain rfl := xGo_some ha2
  exact lv_lsub hx hb hd (kk H locs lsM hO hS hl hn)
theorem xj_lmul {j : xJ} (hd : decode (xmb k) pc = .ok (.lmul, len)) (ha : xAct k pc (.lmul) len ls st h nc ns = some (.inl j)) (A : xAt G l k p R s m args meth c) (hO : xO G h H) (hS : va_S (xAr G) s.heap H locs) (hl : xlr G ls lsM (xml k)) (hn : nc ≤ xmc k ∧ ns ≤ xms k)
    (kk : ∀ (H' : Heap) (locs' : List Loc) (lsM' : Array Slot), xO G j.2.2.2.1 H' → va_S (xAr G) s.heap H' locs' → xlr G j.2.1 lsM' (xml k) → j.2.2.2.2.1 ≤ xmc k ∧ j.2.2.2.2.2 ≤ xms k → W p l e R s m args below meth c H' locs' j.2.2.2.2.1 j.2.2.2.2.2 Q (F0 m j.1 lsM' (j.2.2.1.map (xv G)))) : W p l e R s m args below meth c H locs nc ns Q (F0 m pc lsM (st.map (xv G))) := by
  obtain ⟨hx, hb, hml, hr, hlk, hnm, hown, htb, hts, hR, hK, hfl⟩ := A
  obtain ⟨rfl, ha1⟩ := xq_some ha
  obtain ⟨q, hp, ha2⟩ := Option.bind_eq_some_iff.mp ha1
  obtain rfl := xpLL_some hp
  obtain rfl := xGo_some ha2
  exact lv_lmul hx hb hd (kk H locs lsM hO hS hl hn)
theorem xj_land {j : xJ} (hd : decode (xmb k) pc = .ok (.land, len)) (ha : xAct k pc (.land) len ls st h nc ns = some (.inl j)) (A : xAt G l k p R s m args meth c) (hO : xO G h H) (hS : va_S (xAr G) s.heap H locs) (hl : xlr G ls lsM (xml k)) (hn : nc ≤ xmc k ∧ ns ≤ xms k)
    (kk : ∀ (H' : Heap) (locs' : List Loc) (lsM' : Array Slot), xO G j.2.2.2.1 H' → va_S (xAr G) s.heap H' locs' → xlr G j.2.1 lsM' (xml k) → j.2.2.2.2.1 ≤ xmc k ∧ j.2.2.2.2.2 ≤ xms k → W p l e R s m args below meth c H' locs' j.2.2.2.2.1 j.2.2.2.2.2 Q (F0 m j.1 lsM' (j.2.2.1.map (xv G)))) : W p l e R s m args below meth c H locs nc ns Q (F0 m pc lsM (st.map (xv G))) := by
  obtain ⟨hx, hb, hml, hr, hlk, hnm, hown, htb, hts, hR, hK, hfl⟩ := A
  obtain ⟨rfl, ha1⟩ := xq_some ha
  obtain ⟨q, hp, ha2⟩ := Option.bind_eq_some_iff.mp ha1
  obtain rfl := xpLL_some hp
  obtain rfl := xGo_some ha2
  exact lv_land hx hb hd (kk H locs lsM hO hS hl hn)
theorem xj_lor {j : xJ} (hd : decode (xmb k) pc = .ok (.lor, len)) (ha : xAct k pc (.lor) len ls st h nc ns = some (.inl j)) (A : xAt G l k p R s m args meth c) (hO : xO G h H) (hS : va_S (xAr G) s.heap H locs) (hl : xlr G ls lsM (xml k)) (hn : nc ≤ xmc k ∧ ns ≤ xms k)
    (kk : ∀ (H' : Heap) (locs' : List Loc) (lsM' : Array Slot), xO G j.2.2.2.1 H' → va_S (xAr G) s.heap H' locs' → xlr G j.2.1 lsM' (xml k) → j.2.2.2.2.1 ≤ xmc k ∧ j.2.2.2.2.2 ≤ xms k → W p l e R s m args below meth c H' locs' j.2.2.2.2.1 j.2.2.2.2.2 Q (F0 m j.1 lsM' (j.2.2.1.map (xv G)))) : W p l e R s m args below meth c H locs nc ns Q (F0 m pc lsM (st.map (xv G))) := by
  obtain ⟨hx, hb, hml, hr, hlk, hnm, hown, htb, hts, hR, hK, hfl⟩ := A
  obtain ⟨rfl, ha1⟩ := xq_some ha
  obtain ⟨q, hp, ha2⟩ := Option.bind_eq_some_iff.mp ha1
  obtain rfl := xpLL_some hp
  obtain rfl := xGo_some ha2
  exact lv_lor hx hb hd (kk H locs lsM hO hS hl hn)
theorem xj_ldiv {j : xJ} (hd : decode (xmb k) pc = .ok (.ldiv, len)) (ha : xAct k pc (.ldiv) len ls st h nc ns = some (.inl j)) (A : xAt G l k p R s m args meth c) (hO : xO G h H) (hS : va_S (xAr G) s.heap H locs) (hl : xlr G ls lsM (xml k)) (hn : nc ≤ xmc k ∧ ns ≤ xms k)
    (kk : ∀ (H' : Heap) (locs' : List Loc) (lsM' : Array Slot), xO G j.2.2.2.1 H' → va_S (xAr G) s.heap H' locs' → xlr G j.2.1 lsM' (xml k) → j.2.2.2.2.1 ≤ xmc k ∧ j.2.2.2.2.2 ≤ xms k → W p l e R s m args below meth c H' locs' j.2.2.2.2.1 j.2.2.2.2.2 Q (F0 m j.1 lsM' (j.2.2.1.map (xv G)))) : W p l e R s m args below meth c H locs nc ns Q (F0 m pc lsM (st.map (xv G))) := by
  obtain ⟨hx, hb, hml, hr, hlk, hnm, hown, htb, hts, hR, hK, hfl⟩ := A
  obtain ⟨rfl, ha1⟩ := xq_some ha
  obtain ⟨q, hp, ha2⟩ := Option.bind_eq_some_iff.mp ha1
  obtain rfl := xpLL_some hp
  split at ha2
  · cases ha2
  · next hne =>
    obtain rfl := xGo_some ha2
    exact lv_ldiv hx hb hd hne (kk H locs lsM hO hS hl hn)
theorem xj_lrem {j : xJ} (hd : decode (xmb k) pc = .ok (.lrem, len)) (ha : xAct k pc (.lrem) len ls st h nc ns = some (.inl j)) (A : xAt G l k p R s m args meth c) (hO : xO G h H) (hS : va_S (xAr G) s.heap H locs) (hl : xlr G ls lsM (xml k)) (hn : nc ≤ xmc k ∧ ns ≤ xms k)
    (kk : ∀ (H' : Heap) (locs' : List Loc) (lsM' : Array Slot), xO G j.2.2.2.1 H' → va_S (xAr G) s.heap H' locs' → xlr G j.2.1 lsM' (xml k) → j.2.2.2.2.1 ≤ xmc k ∧ j.2.2.2.2.2 ≤ xms k → W p l e R s m args below meth c H' locs' j.2.2.2.2.1 j.2.2.2.2.2 Q (F0 m j.1 lsM' (j.2.2.1.map (xv G)))) : W p l e R s m args below meth c H locs nc ns Q (F0 m pc lsM (st.map (xv G))) := by
  obtain ⟨hx, hb, hml, hr, hlk, hnm, hown, htb, hts, hR, hK, hfl⟩ := A
  obtain ⟨rfl, ha1⟩ := xq_some ha
  obtain ⟨q, hp, ha2⟩ := Option.bind_eq_some_iff.mp ha1
  obtain rfl := xpLL_some hp
  split at ha2
  · cases ha2
  · next hne =>
    obtain rfl := xGo_some ha2
    exact lv_lrem hx hb hd hne (kk H locs lsM hO hS hl hn)
theorem xj_lshl {j : xJ} (hd : decode (xmb k) pc = .ok (.lshl, len)) (ha : xAct k pc (.lshl) len ls st h nc ns = some (.inl j)) (A : xAt G l k p R s m args meth c) (hO : xO G h H) (hS : va_S (xAr G) s.heap H locs) (hl : xlr G ls lsM (xml k)) (hn : nc ≤ xmc k ∧ ns ≤ xms k)
    (kk : ∀ (H' : Heap) (locs' : List Loc) (lsM' : Array Slot), xO G j.2.2.2.1 H' → va_S (xAr G) s.heap H' locs' → xlr G j.2.1 lsM' (xml k) → j.2.2.2.2.1 ≤ xmc k ∧ j.2.2.2.2.2 ≤ xms k → W p l e R s m args below meth c H' locs' j.2.2.2.2.1 j.2.2.2.2.2 Q (F0 m j.1 lsM' (j.2.2.1.map (xv G)))) : W p l e R s m args below meth c H locs nc ns Q (F0 m pc lsM (st.map (xv G))) := by
  obtain ⟨hx, hb, hml, hr, hlk, hnm, hown, htb, hts, hR, hK, hfl⟩ := A
  obtain ⟨rfl, ha1⟩ := xq_some ha
  obtain ⟨q, hp, ha2⟩ := Option.bind_eq_some_iff.mp ha1
  obtain rfl := xpLI_some hp
  obtain rfl := xGo_some ha2
  exact lv_lshl hx hb hd rfl (kk H locs lsM hO hS hl hn)
theorem xj_lshr {j : xJ} (hd : decode (xmb k) pc = .ok (.lshr, len)) (ha : xAct k pc (.lshr) len ls st h nc ns = some (.inl j)) (A : xAt G l k p R s m args meth c) (hO : xO G h H) (hS : va_S (xAr G) s.heap H locs) (hl : xlr G ls lsM (xml k)) (hn : nc ≤ xmc k ∧ ns ≤ xms k)
    (kk : ∀ (H' : Heap) (locs' : List Loc) (lsM' : Array Slot), xO G j.2.2.2.1 H' → va_S (xAr G) s.heap H' locs' → xlr G j.2.1 lsM' (xml k) → j.2.2.2.2.1 ≤ xmc k ∧ j.2.2.2.2.2 ≤ xms k → W p l e R s m args below meth c H' locs' j.2.2.2.2.1 j.2.2.2.2.2 Q (F0 m j.1 lsM' (j.2.2.1.map (xv G)))) : W p l e R s m args below meth c H locs nc ns Q (F0 m pc lsM (st.map (xv G))) := by
  obtain ⟨hx, hb, hml, hr, hlk, hnm, hown, htb, hts, hR, hK, hfl⟩ := A
  obtain ⟨rfl, ha1⟩ := xq_some ha
  obtain ⟨q, hp, ha2⟩ := Option.bind_eq_some_iff.mp ha1
  obtain rfl := xpLI_some hp
  obtain rfl := xGo_some ha2
  exact lv_lshr hx hb hd rfl (kk H locs lsM hO hS hl hn)
theorem xj_lushr {j : xJ} (hd : decode (xmb k) pc = .ok (.lushr, len)) (ha : xAct k pc (.lushr) len ls st h nc ns = some (.inl j)) (A : xAt G l k p R s m args meth c) (hO : xO G h H) (hS : va_S (xAr G) s.heap H locs) (hl : xlr G ls lsM (xml k)) (hn : nc ≤ xmc k ∧ ns ≤ xms k)
    (kk : ∀ (H' : Heap) (locs' : List Loc) (lsM' : Array Slot), xO G j.2.2.2.1 H' → va_S (xAr G) s.heap H' locs' → xlr G j.2.1 lsM' (xml k) → j.2.2.2.2.1 ≤ xmc k ∧ j.2.2.2.2.2 ≤ xms k → W p l e R s m args below meth c H' locs' j.2.2.2.2.1 j.2.2.2.2.2 Q (F0 m j.1 lsM' (j.2.2.1.map (xv G)))) : W p l e R s m args below meth c H locs nc ns Q (F0 m pc lsM (st.map (xv G))) := by
  obtain ⟨hx, hb, hml, hr, hlk, hnm, hown, htb, hts, hR, hK, hfl⟩ := A
  obtain ⟨rfl, ha1⟩ := xq_some ha
  obtain ⟨q, hp, ha2⟩ := Option.bind_eq_some_iff.mp ha1
  obtain rfl := xpLI_some hp
  obtain rfl := xGo_some ha2
  exact lv_lushr hx hb hd rfl (kk H locs lsM hO hS hl hn)
theorem xj_lcmp {j : xJ} (hd : decode (xmb k) pc = .ok (.lcmp, len)) (ha : xAct k pc (.lcmp) len ls st h nc ns = some (.inl j)) (A : xAt G l k p R s m args meth c) (hO : xO G h H) (hS : va_S (xAr G) s.heap H locs) (hl : xlr G ls lsM (xml k)) (hn : nc ≤ xmc k ∧ ns ≤ xms k)
    (kk : ∀ (H' : Heap) (locs' : List Loc) (lsM' : Array Slot), xO G j.2.2.2.1 H' → va_S (xAr G) s.heap H' locs' → xlr G j.2.1 lsM' (xml k) → j.2.2.2.2.1 ≤ xmc k ∧ j.2.2.2.2.2 ≤ xms k → W p l e R s m args below meth c H' locs' j.2.2.2.2.1 j.2.2.2.2.2 Q (F0 m j.1 lsM' (j.2.2.1.map (xv G)))) : W p l e R s m args below meth c H locs nc ns Q (F0 m pc lsM (st.map (xv G))) := by
  obtain ⟨hx, hb, hml, hr, hlk, hnm, hown, htb, hts, hR, hK, hfl⟩ := A
  obtain ⟨rfl, ha1⟩ := xq_some ha
  obtain ⟨q, hp, ha2⟩ := Option.bind_eq_some_iff.mp ha1
  obtain rfl := xpLL_some hp
  obtain rfl := xGo_some ha2
  exact W.lcmp hx hb hd (kk H locs lsM hO hS hl hn)
theorem xj_dup {j : xJ} (hd : decode (xmb k) pc = .ok (.dup, len)) (ha : xAct k pc (.dup) len ls st h nc ns = some (.inl j)) (A : xAt G l k p R s m args meth c) (hO : xO G h H) (hS : va_S (xAr G) s.heap H locs) (hl : xlr G ls lsM (xml k)) (hn : nc ≤ xmc k ∧ ns ≤ xms k)
    (kk : ∀ (H' : Heap) (locs' : List Loc) (lsM' : Array Slot), xO G j.2.2.2.1 H' → va_S (xAr G) s.heap H' locs' → xlr G j.2.1 lsM' (xml k) → j.2.2.2.2.1 ≤ xmc k ∧ j.2.2.2.2.2 ≤ xms k → W p l e R s m args below meth c H' locs' j.2.2.2.2.1 j.2.2.2.2.2 Q (F0 m j.1 lsM' (j.2.2.1.map (xv G)))) : W p l e R s m args below meth c H locs nc ns Q (F0 m pc lsM (st.map (xv G))) := by
  obtain ⟨hx, hb, hml, hr, hlk, hnm, hown, htb, hts, hR, hK, hfl⟩ := A
  obtain ⟨rfl, ha1⟩ := xq_some ha
  obtain ⟨q, hp, ha2⟩ := Option.bind_eq_some_iff.mp ha1
  obtain ⟨rfl, h1⟩ := xpV_some hp
  obtain rfl := xGo_some ha2
  exact lv_dup hx hb hd (xc1_cat h1) (kk H locs lsM hO hS hl hn)
theorem xj_pop {j : xJ} (hd : decode (xmb k) pc = .ok (.pop, len)) (ha : xAct k pc (.pop) len ls st h nc ns = some (.inl j)) (A : xAt G l k p R s m args meth c) (hO : xO G h H) (hS : va_S (xAr G) s.heap H locs) (hl : xlr G ls lsM (xml k)) (hn : nc ≤ xmc k ∧ ns ≤ xms k)
    (kk : ∀ (H' : Heap) (locs' : List Loc) (lsM' : Array Slot), xO G j.2.2.2.1 H' → va_S (xAr G) s.heap H' locs' → xlr G j.2.1 lsM' (xml k) → j.2.2.2.2.1 ≤ xmc k ∧ j.2.2.2.2.2 ≤ xms k → W p l e R s m args below meth c H' locs' j.2.2.2.2.1 j.2.2.2.2.2 Q (F0 m j.1 lsM' (j.2.2.1.map (xv G)))) : W p l e R s m args below meth c H locs nc ns Q (F0 m pc lsM (st.map (xv G))) := by
  obtain ⟨hx, hb, hml, hr, hlk, hnm, hown, htb, hts, hR, hK, hfl⟩ := A
  obtain ⟨rfl, ha1⟩ := xq_some ha
  obtain ⟨q, hp, ha2⟩ := Option.bind_eq_some_iff.mp ha1
  obtain ⟨rfl, h1⟩ := xpV_some hp
  obtain rfl := xGo_some ha2
  exact lv_pop hx hb hd (xc1_cat h1) (kk H locs lsM hO hS hl hn)
theorem xj_dup_x1 {j : xJ} (hd : decode (xmb k) pc = .ok (.dup_x1, len)) (ha : xAct k pc (.dup_x1) len ls st h nc ns = some (.inl j)) (A : xAt G l k p R s m args meth c) (hO : xO G h H) (hS : va_S (xAr G) s.heap H locs) (hl : xlr G ls lsM (xml k)) (hn : nc ≤ xmc k ∧ ns ≤ xms k)
    (kk : ∀ (H' : Heap) (locs' : List Loc) (lsM' : Array Slot), xO G j.2.2.2.1 H' → va_S (xAr G) s.heap H' locs' → xlr G j.2.1 lsM' (xml k) → j.2.2.2.2.1 ≤ xmc k ∧ j.2.2.2.2.2 ≤ xms k → W p l e R s m args below meth c H' locs' j.2.2.2.2.1 j.2.2.2.2.2 Q (F0 m j.1 lsM' (j.2.2.1.map (xv G)))) : W p l e R s m args below meth c H locs nc ns Q (F0 m pc lsM (st.map (xv G))) := by
  obtain ⟨hx, hb, hml, hr, hlk, hnm, hown, htb, hts, hR, hK, hfl⟩ := A
  obtain ⟨rfl, ha1⟩ := xq_some ha
  obtain ⟨q, hp, ha2⟩ := Option.bind_eq_some_iff.mp ha1
  obtain ⟨rfl, h1, h2⟩ := xpVV_some hp
  obtain rfl := xGo_some ha2
  exact lv_dup_x1 hx hb hd (xc1_cat h1) (xc1_cat h2) (kk H locs lsM hO hS hl hn)
theorem xj_dup2 {j : xJ} (hd : decode (xmb k) pc = .ok (.dup2, len)) (ha : xAct k pc (.dup2) len ls st h nc ns = some (.inl j)) (A : xAt G l k p R s m args meth c) (hO : xO G h H) (hS : va_S (xAr G) s.heap H locs) (hl : xlr G ls lsM (xml k)) (hn : nc ≤ xmc k ∧ ns ≤ xms k)
    (kk : ∀ (H' : Heap) (locs' : List Loc) (lsM' : Array Slot), xO G j.2.2.2.1 H' → va_S (xAr G) s.heap H' locs' → xlr G j.2.1 lsM' (xml k) → j.2.2.2.2.1 ≤ xmc k ∧ j.2.2.2.2.2 ≤ xms k → W p l e R s m args below meth c H' locs' j.2.2.2.2.1 j.2.2.2.2.2 Q (F0 m j.1 lsM' (j.2.2.1.map (xv G)))) : W p l e R s m args below meth c H locs nc ns Q (F0 m pc lsM (st.map (xv G))) := by
  obtain ⟨hx, hb, hml, hr, hlk, hnm, hown, htb, hts, hR, hK, hfl⟩ := A
  obtain ⟨rfl, ha1⟩ := xq_some ha
  obtain ⟨q, hp, ha2⟩ := Option.bind_eq_some_iff.mp ha1
  obtain ⟨rfl, h1, h2⟩ := xpVV_some hp
  obtain rfl := xGo_some ha2
  exact lv_dup2_11 hx hb hd (xc1_cat h1) (xc1_cat h2) (kk H locs lsM hO hS hl hn)
theorem xj_goto {off : Int} {j : xJ} (hd : decode (xmb k) pc = .ok (.goto off, len)) (ha : xAct k pc (.goto off) len ls st h nc ns = some (.inl j)) (A : xAt G l k p R s m args meth c) (hO : xO G h H) (hS : va_S (xAr G) s.heap H locs) (hl : xlr G ls lsM (xml k)) (hn : nc ≤ xmc k ∧ ns ≤ xms k)
    (kk : ∀ (H' : Heap) (locs' : List Loc) (lsM' : Array Slot), xO G j.2.2.2.1 H' → va_S (xAr G) s.heap H' locs' → xlr G j.2.1 lsM' (xml k) → j.2.2.2.2.1 ≤ xmc k ∧ j.2.2.2.2.2 ≤ xms k → W p l e R s m args below meth c H' locs' j.2.2.2.2.1 j.2.2.2.2.2 Q (F0 m j.1 lsM' (j.2.2.1.map (xv G)))) : W p l e R s m args below meth c H locs nc ns Q (F0 m pc lsM (st.map (xv G))) := by
  obtain ⟨hx, hb, hml, hr, hlk, hnm, hown, htb, hts, hR, hK, hfl⟩ := A
  obtain ⟨rfl, ha1⟩ := xq_some ha
  obtain ⟨h0, ha2⟩ := xif_some ha1
  obtain rfl := xGo_some ha2
  exact lv_goto hx hb hd (Int.toNat_of_nonneg h0).symm (kk H locs lsM hO hS hl hn)
theorem xj_icmp_eq {off : Int} {j : xJ} (hd : decode (xmb k) pc = .ok (.if_icmp .eq off, len)) (ha : xAct k pc (.if_icmp .eq off) len ls st h nc ns = some (.inl j)) (A : xAt G l k p R s m args meth c) (hO : xO G h H) (hS : va_S (xAr G) s.heap H locs) (hl : xlr G ls lsM (xml k)) (hn : nc ≤ xmc k ∧ ns ≤ xms k)
    (kk : ∀ (H' : Heap) (locs' : List Loc) (lsM' : Array Slot), xO G j.2.2.2.1 H' → va_S (xAr G) s.heap H' locs' → xlr G j.2.1 lsM' (xml k) → j.2.2.2.2.1 ≤ xmc k ∧ j.2.2.2.2.2 ≤ xms k → W p l e R s m args below meth c H' locs' j.2.2.2.2.1 j.2.2.2.2.2 Q (F0 m j.1 lsM' (j.2.2.1.map (xv G)))) : W p l e R s m args below meth c H locs nc ns Q (F0 m pc lsM (st.map (xv G))) := by
  obtain ⟨hx, hb, hml, hr, hlk, hnm, hown, htb, hts, hR, hK, hfl⟩ := A
  obtain ⟨rfl, ha1⟩ := xq_some ha
  obtain ⟨q, hp, ha2⟩ := Option.bind_eq_some_iff.mp ha1
  obtain rfl := xpII_some hp
  obtain ⟨h0, ha3⟩ := xif_some ha2
  have T : xCm .eq q.1 q.2.1 = true → W p l e R s m args below meth c H locs nc ns Q (F0 m ((pc : Int) + off).toNat lsM (q.2.2.map (xv G))) := fun hc => by
    rw [if_pos hc] at ha3
    obtain rfl := xGo_some ha3
    exact (kk H locs lsM hO hS hl hn)
  have F : ¬ xCm .eq q.1 q.2.1 = true → W p l e R s m args below meth c H locs nc ns Q (F0 m (pc + 3) lsM (q.2.2.map (xv G))) := fun hc => by
    rw [if_neg hc] at ha3
    obtain rfl := xGo_some ha3
    exact (kk H locs lsM hO hS hl hn)
  exact lv_icmp_eq hx hb hd (Int.toNat_of_nonneg h0).symm (fun hc => T (decide_eq_true hc)) (fun hc => F (fun z => hc (of_decide_eq_true z)))
theorem xj_if_eq {off : Int} {j : xJ} (hd : decode (xmb k) pc = .ok (.ifCond .eq off, len)) (ha : xAct k pc (.ifCond .eq off) len ls st h nc ns = some (.inl j)) (A : xAt G l k p R s m args meth c) (hO : xO G h H) (hS : va_S (xAr G) s.heap H locs) (hl : xlr G ls lsM (xml k)) (hn : nc ≤ xmc k ∧ ns ≤ xms k)
    (kk : ∀ (H' : Heap) (locs' : List Loc) (lsM' : Array Slot), xO G j.2.2.2.1 H' → va_S (xAr G) s.heap H' locs' → xlr G j.2.1 lsM' (xml k) → j.2.2.2.2.1 ≤ xmc k ∧ j.2.2.2.2.2 ≤ xms k → W p l e R s m args below meth c H' locs' j.2.2.2.2.1 j.2.2.2.2.2 Q (F0 m j.1 lsM' (j.2.2.1.map (xv G)))) : W p l e R s m args below meth c H locs nc ns Q (F0 m pc lsM (st.map (xv G))) := by
  obtain ⟨hx, hb, hml, hr, hlk, hnm, hown, htb, hts, hR, hK, hfl⟩ := A
  obtain ⟨rfl, ha1⟩ := xq_some ha
  obtain ⟨q, hp, ha2⟩ := Option.bind_eq_some_iff.mp ha1
  obtain rfl := xpI_some hp
  obtain ⟨h0, ha3⟩ := xif_some ha2
  have T : xCm .eq q.1 0 = true → W p l e R s m args below meth c H locs nc ns Q (F0 m ((pc : Int) + off).toNat lsM (q.2.map (xv G))) := fun hc => by
    rw [if_pos hc] at ha3
    obtain rfl := xGo_some ha3
    exact (kk H locs lsM hO hS hl hn)
  have F : ¬ xCm .eq q.1 0 = true → W p l e R s m args below meth c H locs nc ns Q (F0 m (pc + 3) lsM (q.2.map (xv G))) := fun hc => by
    rw [if_neg hc] at ha3
    obtain rfl := xGo_some ha3
    exact (kk H locs lsM hO hS hl hn)
  exact lv_if_eq hx hb hd (Int.toNat_of_nonneg h0).symm (fun hc => T (decide_eq_true hc)) (fun hc => F (fun z => hc (of_decide_eq_true z)))
theorem xj_icmp_ne {off : Int} {j : xJ} (hd : decode (xmb k) pc = .ok (.if_icmp .ne off, len)) (ha : xAct k pc (.if_icmp .ne off) len ls st h nc ns = some (.inl j)) (A : xAt G l k p R s m args meth c) (hO : xO G h H) (hS : va_S (xAr G) s.heap H locs) (hl : xlr G ls lsM (xml k)) (hn : nc ≤ xmc k ∧ ns ≤ xms k)
    (kk : ∀ (H' : Heap) (locs' : List Loc) (lsM' : Array Slot), xO G j.2.2.2.1 H' → va_S (xAr G) s.heap H' locs' → xlr G j.2.1 lsM' (xml k) → j.2.2.2.2.1 ≤ xmc k ∧ j.2.2.2.2.2 ≤ xms k → W p l e R s m args below meth c H' locs' j.2.2.2.2.1 j.2.2.2.2.2 Q (F0 m j.1 lsM' (j.2.2.1.map (xv G)))) : W p l e R s m args below meth c H locs nc ns Q (F0 m pc lsM (st.map (xv G))) := by
  obtain ⟨hx, hb, hml, hr, hlk, hnm, hown, htb, hts, hR, hK, hfl⟩ := A
  obtain ⟨rfl, ha1⟩ := xq_some ha
  obtain ⟨q, hp, ha2⟩ := Option.bind_eq_some_iff.mp ha1
  obtain rfl := xpII_some hp
  obtain ⟨h0, ha3⟩ := xif_some ha2
  have T : xCm .ne q.1 q.2.1 = true → W p l e R s m args below meth c H locs nc ns Q (F0 m ((pc : Int) + off).toNat lsM (q.2.2.map (xv G))) := fun hc => by
    rw [if_pos hc] at ha3
    obtain rfl := xGo_some ha3
    exact (kk H locs lsM hO hS hl hn)
  have F : ¬ xCm .ne q.1 q.2.1 = true → W p l e R s m args below meth c H locs nc ns Q (F0 m (pc + 3) lsM (q.2.2.map (xv G))) := fun hc => by
    rw [if_neg hc] at ha3
    obtain rfl := xGo_some ha3
    exact (kk H locs lsM hO hS hl hn)
  exact lv_icmp_ne hx hb hd (Int.toNat_of_nonneg h0).symm (fun hc => T (decide_eq_true hc)) (fun hc => F (fun z => (of_decide_eq_true z) hc))
theorem xj_if_ne {off : Int} {j : xJ} (hd : decode (xmb k) pc = .ok (.ifCond .ne off, len)) (ha : xAct k pc (.ifCond .ne off) len ls st h nc ns = some (.inl j)) (A : xAt G l k p R s m args meth c) (hO : xO G h H) (hS : va_S (xAr G) s.heap H locs) (hl : xlr G ls lsM (xml k)) (hn : nc ≤ xmc k ∧ ns ≤ xms k)
    (kk : ∀ (H' : Heap) (locs' : List Loc) (lsM' : Array Slot), xO G j.2.2.2.1 H' → va_S (xAr G) s.heap H' locs' → xlr G j.2.1 lsM' (xml k) → j.2.2.2.2.1 ≤ xmc k ∧ j.2.2.2.2.2 ≤ xms k → W p l e R s m args below meth c H' locs' j.2.2.2.2.1 j.2.2.2.2.2 Q (F0 m j.1 lsM' (j.2.2.1.map (xv G)))) : W p l e R s m args below meth c H locs nc ns Q (F0 m pc lsM (st.map (xv G))) := by
  obtain ⟨hx, hb, hml, hr, hlk, hnm, hown, htb, hts, hR, hK, hfl⟩ := A
  obtain ⟨rfl, ha1⟩ := xq_some ha
  obtain ⟨q, hp, ha2⟩ := Option.bind_eq_some_iff.mp ha1
  obtain rfl := xpI_some hp
  obtain ⟨h0, ha3⟩ := xif_some ha2
  have T : xCm .ne q.1 0 = true → W p l e R s m args below meth c H locs nc ns Q (F0 m ((pc : Int) + off).toNat lsM (q.2.map (xv G))) := fun hc => by
    rw [if_pos hc] at ha3
    obtain rfl := xGo_some ha3
    exact (kk H locs lsM hO hS hl hn)
  have F : ¬ xCm .ne q.1 0 = true → W p l e R s m args below meth c H locs nc ns Q (F0 m (pc + 3) lsM (q.2.map (xv G))) := fun hc => by
    rw [if_neg hc] at ha3
    obtain rfl := xGo_some ha3
    exact (kk H locs lsM hO hS hl hn)
  exact lv_if_ne hx hb hd (Int.toNat_of_nonneg h0).symm (fun hc => T (decide_eq_true hc)) (fun hc => F (fun z => (of_decide_eq_true z) hc))
theorem xj_icmp_lt {off : Int} {j : xJ} (hd : decode (xmb k) pc = .ok (.if_icmp .lt off, len)) (ha : xAct k pc (.if_icmp .lt off) len ls st h nc ns = some (.inl j)) (A : xAt G l k p R s m args meth c) (hO : xO G h H) (hS : va_S (xAr G) s.heap H locs) (hl : xlr G ls lsM (xml k)) (hn : nc ≤ xmc k ∧ ns ≤ xms k)
    (kk : ∀ (H' : Heap) (locs' : List Loc) (lsM' : Array Slot), xO G j.2.2.2.1 H' → va_S (xAr G) s.heap H' locs' → xlr G j.2.1 lsM' (xml k) → j.2.2.2.2.1 ≤ xmc k ∧ j.2.2.2.2.2 ≤ xms k → W p l e R s m args below meth c H' locs' j.2.2.2.2.1 j.2.2.2.2.2 Q (F0 m j.1 lsM' (j.2.2.1.map (xv G)))) : W p l e R s m args below meth c H locs nc ns Q (F0 m pc lsM (st.map (xv G))) := by
  obtain ⟨hx, hb, hml, hr, hlk, hnm, hown, htb, hts, hR, hK, hfl⟩ := A
  obtain ⟨rfl, ha1⟩ := xq_some ha
  obtain ⟨q, hp, ha2⟩ := Option.bind_eq_some_iff.mp ha1
  obtain rfl := xpII_some hp
  obtain ⟨h0, ha3⟩ := xif_some ha2
  have T : xCm .lt q.1 q.2.1 = true → W p l e R s m args below meth c H locs nc ns Q (F0 m ((pc : Int) + off).toNat lsM (q.2.2.map (xv G))) := fun hc => by
    rw [if_pos hc] at ha3
    obtain rfl := xGo_some ha3
    exact (kk H locs lsM hO hS hl hn)
  have F : ¬ xCm .lt q.1 q.2.1 = true → W p l e R s m args below meth c H locs nc ns Q (F0 m (pc + 3) lsM (q.2.2.map (xv G))) := fun hc => by
    rw [if_neg hc] at ha3
    obtain rfl := xGo_some ha3
    exact (kk H locs lsM hO hS hl hn)
  exact lv_icmp_lt hx hb hd (Int.toNat_of_nonneg h0).symm (fun hc => T (decide_eq_true hc)) (fun hc => F (fun z => hc (of_decide_eq_true z)))
theorem xj_if_lt {off : Int} {j : xJ} (hd : decode (xmb k) pc = .ok (.ifCond .lt off, len)) (ha : xAct k pc (.ifCond .lt off) len ls st h nc ns = some (.inl j)) (A : xAt G l k p R s m args meth c) (hO : xO G h H) (hS : va_S (xAr G) s.heap H locs) (hl : xlr G ls lsM (xml k)) (hn : nc ≤ xmc k ∧ ns ≤ xms k)
    (kk : ∀ (H' : Heap) (locs' : List Loc) (lsM' : Array Slot), xO G j.2.2.2.1 H' → va_S (xAr G) s.heap H' locs' → xlr G j.2.1 lsM' (xml k) → j.2.2.2.2.1 ≤ xmc k ∧ j.2.2.2.2.2 ≤ xms k → W p l e R s m args below meth c H' locs' j.2.2.2.2.1 j.2.2.2.2.2 Q (F0 m j.1 lsM' (j.2.2.1.map (xv G)))) : W p l e R s m args below meth c H locs nc ns Q (F0 m pc lsM (st.map (xv G))) := by
  obtain ⟨hx, hb, hml, hr, hlk, hnm, hown, htb, hts, hR, hK, hfl⟩ := A
  obtain ⟨rfl, ha1⟩ := xq_some ha
  obtain ⟨q, hp, ha2⟩ := Option.bind_eq_some_iff.mp ha1
  obtain rfl := xpI_some hp
  obtain ⟨h0, ha3⟩ := xif_some ha2
  have T : xCm .lt q.1 0 = true → W p l e R s m args below meth c H locs nc ns Q (F0 m ((pc : Int) + off).toNat lsM (q.2.map (xv G))) := fun hc => by
    rw [if_pos hc] at ha3
    obtain rfl := xGo_some ha3
    exact (kk H locs lsM hO hS hl hn)
  have F : ¬ xCm .lt q.1 0 = true → W p l e R s m args below meth c H locs nc ns Q (F0 m (pc + 3) lsM (q.2.map (xv G))) := fun hc => by
    rw [if_neg hc] at ha3
    obtain rfl := xGo_some ha3
    exact (kk H locs lsM hO hS hl hn)
  exact lv_if_lt hx hb hd (Int.toNat_of_nonneg h0).symm (fun hc => T (decide_eq_true hc)) (fun hc => F (fun z => hc (of_decide_eq_true z)))
theorem xj_icmp_ge {off : Int} {j : xJ} (hd : decode (xmb k) pc = .ok (.if_icmp .ge off, len)) (ha : xAct k pc (.if_icmp .ge off) len ls st h nc ns = some (.inl j)) (A : xAt G l k p R s m args meth c) (hO : xO G h H) (hS : va_S (xAr G) s.heap H locs) (hl : xlr G ls lsM (xml k)) (hn : nc ≤ xmc k ∧ ns ≤ xms k)
    (kk : ∀ (H' : Heap) (locs' : List Loc) (lsM' : Array Slot), xO G j.2.2.2.1 H' → va_S (xAr G) s.heap H' locs' → xlr G j.2.1 lsM' (xml k) → j.2.2.2.2.1 ≤ xmc k ∧ j.2.2.2.2.2 ≤ xms k → W p l e R s m args below meth c H' locs' j.2.2.2.2.1 j.2.2.2.2.2 Q (F0 m j.1 lsM' (j.2.2.1.map (xv G)))) : W p l e R s m args below meth c H locs nc ns Q (F0 m pc lsM (st.map (xv G))) := by
  obtain ⟨hx, hb, hml, hr, hlk, hnm, hown, htb, hts, hR, hK, hfl⟩ := A
  obtain ⟨rfl, ha1⟩ := xq_some ha
  obtain ⟨q, hp, ha2⟩ := Option.bind_eq_some_iff.mp ha1
  obtain rfl := xpII_some hp
  obtain ⟨h0, ha3⟩ := xif_some ha2
  have T : xCm .ge q.1 q.2.1 = true → W p l e R s m args below meth c H locs nc ns Q (F0 m ((pc : Int) + off).toNat lsM (q.2.2.map (xv G))) := fun hc => by
    rw [if_pos hc] at ha3
    obtain rfl := xGo_some ha3
    exact (kk H locs lsM hO hS hl hn)
  have F : ¬ xCm .ge q.1 q.2.1 = true → W p l e R s m args below meth c H locs nc ns Q (F0 m (pc + 3) lsM (q.2.2.map (xv G))) := fun hc => by
    rw [if_neg hc] at ha3
    obtain rfl := xGo_some ha3
    exact (kk H locs lsM hO hS hl hn)
  exact lv_icmp_ge hx hb hd (Int.toNat_of_nonneg h0).symm (fun hc => T (decide_eq_true hc)) (fun hc => F (fun z => hc (of_decide_eq_true z)))
theorem xj_if_ge {off : Int} {j : xJ} (hd : decode (xmb k) pc = .ok (.ifCond .ge off, len)) (ha : xAct k pc (.ifCond .ge off) len ls st h nc ns = some (.inl j)) (A : xAt G l k p R s m args meth c) (hO : xO G h H) (hS : va_S (xAr G) s.heap H locs) (hl : xlr G ls lsM (xml k)) (hn : nc ≤ xmc k ∧ ns ≤ xms k)
    (kk : ∀ (H' : Heap) (locs' : List Loc) (lsM' : Array Slot), xO G j.2.2.2.1 H' → va_S (xAr G) s.heap H' locs' → xlr G j.2.1 lsM' (xml k) → j.2.2.2.2.1 ≤ xmc k ∧ j.2.2.2.2.2 ≤ xms k → W p l e R s m args below meth c H' locs' j.2.2.2.2.1 j.2.2.2.2.2 Q (F0 m j.1 lsM' (j.2.2.1.map (xv G)))) : W p l e R s m args below meth c H locs nc ns Q (F0 m pc lsM (st.map (xv G))) := by
  obtain ⟨hx, hb, hml, hr, hlk, hnm, hown, htb, hts, hR, hK, hfl⟩ := A
  obtain ⟨rfl, ha1⟩ := xq_some ha
  obtain ⟨q, hp, ha2⟩ := Option.bind_eq_some_iff.mp ha1
  obtain rfl := xpI_some hp
  obtain ⟨h0, ha3⟩ := xif_some ha2
  have T : xCm .ge q.1 0 = true → W p l e R s m args below meth c H locs nc ns Q (F0 m ((pc : Int) + off).toNat lsM (q.2.map (xv G))) := fun hc => by
    rw [if_pos hc] at ha3
    obtain rfl := xGo_some ha3
    exact (kk H locs lsM hO hS hl hn)
  have F : ¬ xCm .ge q.1 0 = true → W p l e R s m args below meth c H locs nc ns Q (F0 m (pc + 3) lsM (q.2.map (xv G))) := fun hc => by
    rw [if_neg hc] at ha3
    obtain rfl := xGo_some ha3
    exact (kk H locs lsM hO hS hl hn)
  exact lv_if_ge hx hb hd (Int.toNat_of_nonneg h0).symm (fun hc => T (decide_eq_true hc)) (fun hc => F (fun z => hc (of_decide_eq_true z)))
theorem xj_icmp_gt {off : Int} {j : xJ} (hd : decode (xmb k) pc = .ok (.if_icmp .gt off, len)) (ha : xAct k pc (.if_icmp .gt off) len ls st h nc ns = some (.inl j)) (A : xAt G l k p R s m args meth c) (hO : xO G h H) (hS : va_S (xAr G) s.heap H locs) (hl : xlr G ls lsM (xml k)) (hn : nc ≤ xmc k ∧ ns ≤ xms k)
    (kk : ∀ (H' : Heap) (locs' : List Loc) (lsM' : Array Slot), xO G j.2.2.2.1 H' → va_S (xAr G) s.heap H' locs' → xlr G j.2.1 lsM' (xml k) → j.2.2.2.2.1 ≤ xmc k ∧ j.2.2.2.2.2 ≤ xms k → W p l e R s m args below meth c H' locs' j.2.2.2.2.1 j.2.2.2.2.2 Q (F0 m j.1 lsM' (j.2.2.1.map (xv G)))) : W p l e R s m args below meth c H locs nc ns Q (F0 m pc lsM (st.map (xv G))) := by
  obtain ⟨hx, hb, hml, hr, hlk, hnm, hown, htb, hts, hR, hK, hfl⟩ := A
  obtain ⟨rfl, ha1⟩ := xq_some ha
  obtain ⟨q, hp, ha2⟩ := Option.bind_eq_some_iff.mp ha1
  obtain rfl := xpII_some hp
  obtain ⟨h0, ha3⟩ := xif_some ha2
  have T : xCm .gt q.1 q.2.1 = true → W p l e R s m args below meth c H locs nc ns Q (F0 m ((pc : Int) + off).toNat lsM (q.2.2.map (xv G))) := fun hc => by
    rw [if_pos hc] at ha3
    obtain rfl := xGo_some ha3
    exact (kk H locs lsM hO hS hl hn)
  have F : ¬ xCm .gt q.1 q.2.1 = true → W p l e R s m args below meth c H locs nc ns Q (F0 m (pc + 3) lsM (q.2.2.map (xv G))) := fun hc => by
    rw [if_neg hc] at ha3
    obtain rfl := xGo_some ha3
    exact (kk H locs lsM hO hS hl hn)
  exact lv_icmp_gt hx hb hd (Int.toNat_of_nonneg h0).symm (fun hc => T (decide_eq_true hc)) (fun hc => F (fun z => hc (of_decide_eq_true z)))
theorem xj_if_gt {off : Int} {j : xJ} (hd : decode (xmb k) pc = .ok (.ifCond .gt off, len)) (ha : xAct k pc (.ifCond .gt off) len ls st h nc ns = some (.inl j)) (A : xAt G l k p R s m args meth c) (hO : xO G h H) (hS : va_S (xAr G) s.heap H locs) (hl : xlr G ls lsM (xml k)) (hn : nc ≤ xmc k ∧ ns ≤ xms k)
    (kk : ∀ (H' : Heap) (locs' : List Loc) (lsM' : Array Slot), xO G j.2.2.2.1 H' → va_S (xAr G) s.heap H' locs' → xlr G j.2.1 lsM' (xml k) → j.2.2.2.2.1 ≤ xmc k ∧ j.2.2.2.2.2 ≤ xms k → W p l e R s m args below meth c H' locs' j.2.2.2.2.1 j.2.2.2.2.2 Q (F0 m j.1 lsM' (j.2.2.1.map (xv G)))) : W p l e R s m args below meth c H locs nc ns Q (F0 m pc lsM (st.map (xv G))) := by
  obtain ⟨hx, hb, hml, hr, hlk, hnm, hown, htb, hts, hR, hK, hfl⟩ := A
  obtain ⟨rfl, ha1⟩ := xq_some ha
  obtain ⟨q, hp, ha2⟩ := Option.bind_eq_some_iff.mp ha1
  obtain rfl := xpI_some hp
  obtain ⟨h0, ha3⟩ := xif_some ha2
  have T : xCm .gt q.1 0 = true → W p l e R s m args below meth c H locs nc ns Q (F0 m ((pc : Int) + off).toNat lsM (q.2.map (xv G))) := fun hc => by
    rw [if_pos hc] at ha3
    obtain rfl := xGo_some ha3
    exact (kk H locs lsM hO hS hl hn)
  have F : ¬ xCm .gt q.1 0 = true → W p l e R s m args below meth c H locs nc ns Q (F0 m (pc + 3) lsM (q.2.map (xv G))) := fun hc => by
    rw [if_neg hc] at ha3
    obtain rfl := xGo_some ha3
    exact (kk H locs lsM hO hS hl hn)
  exact lv_if_gt hx hb hd (Int.toNat_of_nonneg h0).symm (fun hc => T (decide_eq_true hc)) (fun hc => F (fun z => hc (of_decide_eq_true z)))
theorem xj_icmp_le {off : Int} {j : xJ} (hd : decode (xmb k) pc = .ok (.if_icmp .le off, len)) (ha : xAct k pc (.if_icmp .le off) len ls st h nc ns = some (.inl j)) (A : xAt G l k p R s m args meth c) (hO : xO G h H) (hS : va_S (xAr G) s.heap H locs) (hl : xlr G ls lsM (xml k)) (hn : nc ≤ xmc k ∧ ns ≤ xms k)
    (kk : ∀ (H' : Heap) (locs' : List Loc) (lsM' : Array Slot), xO G j.2.2.2.1 H' → va_S (xAr G) s.heap H' locs' → xlr G j.2.1 lsM' (xml k) → j.2.2.2.2.1 ≤ xmc k ∧ j.2.2.2.2.2 ≤ xms k → W p l e R s m args below meth c H' locs' j.2.2.2.2.1 j.2.2.2.2.2 Q (F0 m j.1 lsM' (j.2.2.1.map (xv G)))) : W p l e R s m args below meth c H locs nc ns Q (F0 m pc lsM (st.map (xv G))) := by
  obtain ⟨hx, hb, hml, hr, hlk, hnm, hown, htb, hts, hR, hK, hfl⟩ := A
  obtain ⟨rfl, ha1⟩ := xq_some ha
  obtain ⟨q, hp, ha2⟩ := Option.bind_eq_some_iff.mp ha1
  obtain rfl := xpII_some hp
  obtain ⟨h0, ha3⟩ := xif_some ha2
  have T : xCm .le q.1 q.2.1 = true → W p l e R s m args below meth c H locs nc ns Q (F0 m ((pc : Int) + off).toNat lsM (q.2.2.map (xv G))) := fun hc => by
    rw [if_pos hc] at ha3
    obtain rfl := xGo_some ha3
    exact (kk H locs lsM hO hS hl hn)
  have F : ¬ xCm .le q.1 q.2.1 = true → W p l e R s m args below meth c H locs nc ns Q (F0 m (pc + 3) lsM (q.2.2.map (xv G))) := fun hc => by
    rw [if_neg hc] at ha3
    obtain rfl := xGo_some ha3
    exact (kk H locs lsM hO hS hl hn)
  exact lv_icmp_le hx hb hd (Int.toNat_of_nonneg h0).symm (fun hc => T (decide_eq_true hc)) (fun hc => F (fun z => hc (of_decide_eq_true z)))
theorem xj_if_le {off : Int} {j : xJ} (hd : decode (xmb k) pc = .ok (.ifCond .le off, len)) (ha : xAct k pc (.ifCond .le off) len ls st h nc ns = some (.inl j)) (A : xAt G l k p R s m args meth c) (hO : xO G h H) (hS : va_S (xAr G) s.heap H locs) (hl : xlr G ls lsM (xml k)) (hn : nc ≤ xmc k ∧ ns ≤ xms k)
    (kk : ∀ (H' : Heap) (locs' : List Loc) (lsM' : Array Slot), xO G j.2.2.2.1 H' → va_S (xAr G) s.heap H' locs' → xlr G j.2.1 lsM' (xml k) → j.2.2.2.2.1 ≤ xmc k ∧ j.2.2.2.2.2 ≤ xms k → W p l e R s m args below meth c H' locs' j.2.2.2.2.1 j.2.2.2.2.2 Q (F0 m j.1 lsM' (j.2.2.1.map (xv G)))) : W p l e R s m args below meth c H locs nc ns Q (F0 m pc lsM (st.map (xv G))) := by
  obtain ⟨hx, hb, hml, hr, hlk, hnm, hown, htb, hts, hR, hK, hfl⟩ := A
  obtain ⟨rfl, ha1⟩ := xq_some ha
  obtain ⟨q, hp, ha2⟩ := Option.bind_eq_some_iff.mp ha1
  obtain rfl := xpI_some hp
  obtain ⟨h0, ha3⟩ := xif_some ha2
  have T : xCm .le q.1 0 = true → W p l e R s m args below meth c H locs nc ns Q (F0 m ((pc : Int) + off).toNat lsM (q.2.map (xv G))) := fun hc => by
    rw [if_pos hc] at ha3
    obtain rfl := xGo_some ha3
    exact (kk H locs lsM hO hS hl hn)
  have F : ¬ xCm .le q.1 0 = true → W p l e R s m args below meth c H locs nc ns Q (F0 m (pc + 3) lsM (q.2.map (xv G))) := fun hc => by
    rw [if_neg hc] at ha3
    obtain rfl := xGo_some ha3
    exact (kk H locs lsM hO hS hl hn)
  exact lv_if_le hx hb hd (Int.toNat_of_nonneg h0).symm (fun hc => T (decide_eq_true hc)) (fun hc => F (fun z => hc (of_decide_eq_true z)))
theorem xj_tableswitch {dflt lo hi : Int} {offs : Array Int} {j : xJ} (hd : decode (xmb k) pc = .ok (.tableswitch dflt lo hi offs, len)) (ha : xAct k pc (.tableswitch dflt lo hi offs) len ls st h nc ns = some (.inl j)) (A : xAt G l k p R s m args meth c) (hO : xO G h H) (hS : va_S (xAr G) s.heap H locs) (hl : xlr G ls lsM (xml k)) (hn : nc ≤ xmc k ∧ ns ≤ xms k)
    (kk : ∀ (H' : Heap) (locs' : List Loc) (lsM' : Array Slot), xO G j.2.2.2.1 H' → va_S (xAr G) s.heap H' locs' → xlr G j.2.1 lsM' (xml k) → j.2.2.2.2.1 ≤ xmc k ∧ j.2.2.2.2.2 ≤ xms k → W p l e R s m args below meth c H' locs' j.2.2.2.2.1 j.2.2.2.2.2 Q (F0 m j.1 lsM' (j.2.2.1.map (xv G)))) : W p l e R s m args below meth c H locs nc ns Q (F0 m pc lsM (st.map (xv G))) := by
  obtain ⟨hx, hb, hml, hr, hlk, hnm, hown, htb, hts, hR, hK, hfl⟩ := A
  obtain ⟨q, hp, ha1⟩ := Option.bind_eq_some_iff.mp ha
  obtain rfl := xpI_some hp
  obtain ⟨off, ho, ha2⟩ := Option.bind_eq_some_iff.mp ha1
  obtain ⟨h0, ha3⟩ := xif_some ha2
  obtain rfl := xGo_some ha3
  unfold xSw at ho
  split at ho
  · next hc =>
    cases ho
    exact lv_tableOut hx hb hd hc (Int.toNat_of_nonneg h0).symm (kk H locs lsM hO hS hl hn)
  · next hc =>
    exact lv_tableIn hx hb hd (fun z => hc (Or.inl z)) (fun z => hc (Or.inr z)) ho (Int.toNat_of_nonneg h0).symm (kk H locs lsM hO hS hl hn)
theorem xj_lookupswitch {dflt : Int} {ps : Array (Int × Int)} {j : xJ} (hd : decode (xmb k) pc = .ok (.lookupswitch dflt ps, len)) (ha : xAct k pc (.lookupswitch dflt ps) len ls st h nc ns = some (.inl j)) (A : xAt G l k p R s m args meth c) (hO : xO G h H) (hS : va_S (xAr G) s.heap H locs) (hl : xlr G ls lsM (xml k)) (hn : nc ≤ xmc k ∧ ns ≤ xms k)
    (kk : ∀ (H' : Heap) (locs' : List Loc) (lsM' : Array Slot), xO G j.2.2.2.1 H' → va_S (xAr G) s.heap H' locs' → xlr G j.2.1 lsM' (xml k) → j.2.2.2.2.1 ≤ xmc k ∧ j.2.2.2.2.2 ≤ xms k → W p l e R s m args below meth c H' locs' j.2.2.2.2.1 j.2.2.2.2.2 Q (F0 m j.1 lsM' (j.2.2.1.map (xv G)))) : W p l e R s m args below meth c H locs nc ns Q (F0 m pc lsM (st.map (xv G))) := by
  obtain ⟨hx, hb, hml, hr, hlk, hnm, hown, htb, hts, hR, hK, hfl⟩ := A
  obtain ⟨q, hp, ha1⟩ := Option.bind_eq_some_iff.mp ha
  obtain rfl := xpI_some hp
  obtain ⟨hs, ha2⟩ := xif_some ha1
  obtain ⟨h0, ha3⟩ := xif_some ha2
  obtain rfl := xGo_some ha3
  exact lv_lookup hx hb hd hs rfl (Int.toNat_of_nonneg h0).symm (kk H locs lsM hO hS hl hn)
end XJ
