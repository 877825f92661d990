/-! how X's heap stands for the machine's -/
/-- base, given cells' addresses, class numbers, fields' slots, row classes, given contents, the messages' addresses -/
abbrev xG : Type := Nat × (Nat → Nat) × (Nat → ClassId) × (Nat → Nat → Nat) × (Nat → ClassId) × List xCel × (Nat → Nat)
abbrev xb (G : xG) : Nat := G.1
abbrev xgv (G : xG) : Nat → Nat := G.2.1
abbrev xD (G : xG) : va_G := (G.2.2.1, G.2.2.2.1)
abbrev xca (G : xG) : Nat → ClassId := G.2.2.2.2.1
abbrev xgl (G : xG) : List xCel := G.2.2.2.2.2.1
abbrev xsa (G : xG) : Nat → Nat := G.2.2.2.2.2.2
def xad (G : xG) (k : Nat) : Nat := if k < 7 then xgv G k else xb G + (k - 7)
def xv (G : xG) : Value → Value
  | .ref k => .ref (xad G k)
  | v => v
def xrf (G : xG) : Value → Option Nat
  | .ref k => some (xad G k)
  | _ => none
def xlg : Value → Int64
  | .long x => x
  | _ => 0
def xE (G : xG) : xCel → va_E
  | .inl (t, vs) => if t = 21 then .inl (xca G 3, vs.length, .inr (.inl fun j => xlg (vs.getD j .null))) else if t = 22 then .inl (xca G 4, vs.length, .inr (.inr (.inr (.inr fun j => xrf G (vs.getD j .null))))) else .inr (t, vs.map (xv G))
  | .inr (t, n, f) => .inl (xca G t, n, .inl f)
def xW (G : xG) (l : List xCel) : va_W := (l.drop 7).mapIdx fun i c => (xb G + i, xE G c)
theorem xW_get {G : xG} {l : List xCel} {a : Nat} {c : xCel} (h : l[a]? = some c) (h7 : 7 ≤ a) : (xW G l)[a - 7]? = some (xad G a, xE G c) := by
  rw [xW, List.getElem?_mapIdx, List.getElem?_drop, show 7 + (a - 7) = a by omega, h, xad, if_neg (by omega)]
  rfl
theorem xW_len (G : xG) (l : List xCel) : (xW G l).length = l.length - 7 := by simp [xW]
theorem xW_at {G : xG} {l : List xCel} {i : Nat} {q : Nat × va_E} (h : (xW G l)[i]? = some q) : ∃ c, l[i + 7]? = some c ∧ q = (xb G + i, xE G c) := by
  rw [xW, List.getElem?_mapIdx, List.getElem?_drop] at h
  obtain ⟨c, h1, h2⟩ := Option.map_eq_some_iff.mp h
  exact ⟨c, by rw [Nat.add_comm]; exact h1, h2.symm⟩
theorem xW_set {G : xG} {l : List xCel} {a : Nat} {c : xCel} (h7 : 7 ≤ a) : xW G (l.set a c) = (xW G l).set (a - 7) (xad G a, xE G c) := by
  apply List.ext_getElem?
  intro i
  rw [xW, List.getElem?_mapIdx, List.getElem?_drop, List.getElem?_set, List.getElem?_set, xW_len]
  by_cases hi : a = 7 + i
  · subst hi
    have e1 : 7 + i - 7 = i := by omega
    rw [e1, if_pos rfl, if_pos rfl]
    by_cases hl : 7 + i < l.length
    · rw [if_pos hl, if_pos (by omega), xad, if_neg (by omega), e1]
      rfl
    · rw [if_neg hl, if_neg (by omega)]
      rfl
  · rw [if_neg hi, if_neg (by omega), xW, List.getElem?_mapIdx, List.getElem?_drop]
theorem xW_app {G : xG} {l : List xCel} {c : xCel} (h7 : 7 ≤ l.length) : xW G (l ++ [c]) = xW G l ++ [(xad G l.length, xE G c)] := by
  apply List.ext_getElem?
  intro i
  rw [xW, List.getElem?_mapIdx, List.getElem?_drop]
  by_cases hi : i < l.length - 7
  · rw [List.getElem?_append_left (by omega), List.getElem?_append_left (by rw [xW_len]; exact hi), xW, List.getElem?_mapIdx, List.getElem?_drop]
  · rw [List.getElem?_append_right (by omega), List.getElem?_append_right (by rw [xW_len]; omega), xW_len]
    by_cases hj : i = l.length - 7
    · rw [show 7 + i - l.length = 0 by omega, show i - (l.length - 7) = 0 by omega]
      show some (xb G + i, xE G c) = some (xad G l.length, xE G c)
      rw [xad, if_neg (by omega), hj]
    · rw [List.getElem?_eq_none (by simp; omega), List.getElem?_eq_none (by simp; omega)]
      rfl
def xAr (G : xG) : Nat → Prop := fun q => xb G ≤ q
theorem xW_D (G : xG) (l : List xCel) : va_D (xAr G) (xW G l) := by
  refine ⟨fun i j p q hi hj hpq => ?_, fun k q hk => ?_⟩
  · obtain ⟨c, -, rfl⟩ := xW_at hi
    obtain ⟨d, -, rfl⟩ := xW_at hj
    simp only at hpq
    omega
  · obtain ⟨c, -, rfl⟩ := xW_at hk
    exact Nat.le_add_right _ _
def xgvn : xCel → Bool
  | .inr (t, _, _) => decide (10 ≤ t)
  | _ => false
def xO (G : xG) (h : xHp) (H : Heap) : Prop :=
  va_P (xD G) xcl0 (xW G h.2) H ∧ (h.1 = true → H.size + 7 = xb G + h.2.length) ∧ 7 ≤ h.2.length ∧ (∀ a, a < 7 → h.2[a]? = (xgl G)[a]?) ∧ ∀ a c, h.2[a]? = some c → (a < 7 ↔ xgvn c = true)
def xtys (G : xG) : List (ClassId × FieldType) := [(xca G 0, .int), (xca G 1, .char), (xca G 2, .boolean), (xca G 3, .byte), (xca G 4, .object RX0)]
theorem xad_A {G : xG} {a : Nat} (h : 7 ≤ a) : xAr G (xad G a) := by
  rw [xad, if_neg (by omega)]
  exact Nat.le_add_right _ _
theorem xO_upd {G : xG} {h : xHp} {H H1 : Heap} {a : Nat} {c0 c : xCel} (hO : xO G h H) (hc : h.2[a]? = some c0) (h0 : xgvn c0 = false) (h1 : xgvn c = false) (e : va_at (xD G) xcl0 (xad G a, xE G c) H1) (z : H1.size = H.size) (o : ∀ q : Nat, q ≠ xad G a → H1[q]? = H[q]?) : xO G (xSt h a c) H1 := by
  obtain ⟨q1, q2, q3, q4, q5⟩ := hO
  have h7 : 7 ≤ a := by
    rcases Nat.lt_or_ge a 7 with hl | hl
    · have := (q5 a c0 hc).mp hl
      rw [h0] at this
      cases this
    · exact hl
  refine ⟨?_, fun hh => by rw [z, xSt, List.length_set]; exact q2 hh, by rw [xSt, List.length_set]; exact q3, fun b hb => ?_, fun b d hb => ?_⟩
  · show va_P (xD G) xcl0 (xW G (h.2.set a c)) H1
    rw [xW_set h7]
    exact q1.set (xW_D G h.2) (xW_get hc h7) e o
  · show (h.2.set a c)[b]? = _
    rw [List.getElem?_set_ne (by omega)]
    exact q4 b hb
  · have hb' : (h.2.set a c)[b]? = some d := hb
    by_cases hab : a = b
    · subst hab
      rw [List.getElem?_set_self (List.getElem?_eq_some_iff.mp hc).1] at hb'
      cases hb'
      constructor
      · intro hl; omega
      · intro hl; rw [h1] at hl; cases hl
    · rw [List.getElem?_set_ne hab] at hb'
      exact q5 b d hb'
theorem xO_7 {G : xG} {h : xHp} {H : Heap} {a : Nat} {c0 : xCel} (hO : xO G h H) (hc : h.2[a]? = some c0) (h0 : xgvn c0 = false) : 7 ≤ a := by
  rcases Nat.lt_or_ge a 7 with hl | hl
  · have := (hO.2.2.2.2 a c0 hc).mp hl
    rw [h0] at this
    cases this
  · exact hl
theorem xO_lt7 {G : xG} {h : xHp} {H : Heap} {a : Nat} {c0 : xCel} (hO : xO G h H) (hc : h.2[a]? = some c0) (h0 : xgvn c0 = true) : a < 7 ∧ (xgl G)[a]? = some c0 := by
  have hl := (hO.2.2.2.2 a c0 hc).mpr h0
  exact ⟨hl, by rw [← hO.2.2.2.1 a hl]; exact hc⟩
theorem xgO_some {h : xHp} {a : Nat} {o : Nat × List Value} (hg : xgO h a = some o) : h.2[a]? = some (.inl o) := by
  unfold xgO at hg
  split at hg
  · next heq => cases hg; exact heq
  · cases hg
theorem xgA_some {h : xHp} {a : Nat} {o : Nat × Nat × (Nat → Int32)} (hg : xgA h a = some o) : h.2[a]? = some (.inr o) := by
  unfold xgA at hg
  split at hg
  · next heq => cases hg; exact heq
  · cases hg
/-- the three exceptions -/
def xen (E : Nat) : String := if E = 0 then "java/lang/IndexOutOfBoundsException" else if E = 1 then "java/lang/IllegalArgumentException" else "java/lang/IllegalStateException"
def xsi (E : Nat) : Nat := if E = 0 then 260 else if E = 1 then 267 else 272
def xtx (E : Nat) : String := if E = 0 then "there is no such place" else if E = 1 then "an argument is out of its range" else "this cannot be done now"
def xisn : Cond → Bool
  | .methodLinkNest .. => true
  | .fieldLinkNest .. => true
  | .declares .. => true
  | .castable .. => true
  | _ => false
def xnes : List Cond := lw_tbl.filter xisn
theorem xnes_in {i : Nat} {w : Cond} (h : lw_tbl[i]? = some w) (hg : xisn w = true) : w ∈ xnes := List.mem_filter.mpr ⟨List.mem_of_getElem? h, hg⟩
/-- what is known of the world outside X's heap -/
def xKn (G : xG) (s : State) : Prop :=
  va_K (xD G) xcl0 (xtys G) s ∧
  (∀ a t n f, a < 7 → (xgl G)[a]? = some (.inr (t, n, f)) → va_T (if t = 10 then .int else .char) (xgv G a) n (fun j => .int (f j)) (xAr G) s s.heap) ∧
  (∀ g, 1 ≤ g → g < 7 → va_Z "SpoonCards" (xsn g).1 (xsn g).2 (.ref (xgv G g)) (xAr G) s s.heap) ∧
  (∀ w ∈ xnes, va_Nw w s) ∧
  va_AO RX0 s ∧
  (∀ E, E < 3 → vk_R "SpoonCards" (xsi E) (xtx E) (xsa G E) s) ∧
  (vx_Zq Bundle.tN "UNASSIGNED_STACK" Bundle.steD (xAr G) s s.heap ∧ vx_Zq Bundle.tN "SUPPRESSED_SENTINEL" Bundle.listD (xAr G) s s.heap) ∧
  (∀ E F, E < 3 → F < 3 → E ≠ F → va_Nc (xen E) (xen F) s) ∧
  xb G ≤ s.heap.size
theorem va_Nw_warm {w : Cond} {s U : State} (hw : xisn w = true) (hW : s.WarmedH U.vm) (hZ : va_Nw w s) : va_Nw w U := by
  cases w <;> first | (cases hw; done) | exact hZ.warmF hW | exact hZ.warmM hW | exact hZ.warmD hW | exact hZ.warmC hW
theorem va_Nw_warm' {w : Cond} {s U : State} (hw : w ∈ xnes) (hW : s.WarmedH U.vm) (hZ : va_Nw w s) : va_Nw w U := va_Nw_warm (List.mem_filter.mp hw).2 hW hZ
theorem xisn_tab {w : Cond} (hw : xisn w = true) : w.onTables = true := by
  cases w <;> first | (cases hw; done) | rfl
theorem xKn_step {G : xG} {s U : State} {locs : List Loc} (h : xKn G s) (hW : s.WarmedH U.vm) (hS : va_S (xAr G) s.heap U.heap locs) : xKn G U := by
  obtain ⟨h1, h2, h3, h4, h5, h6, h7, h8, h9⟩ := h
  refine ⟨h1.moved hW.alike, fun a t n f ha hg => (va_T.moved hW.alike (h2 a t n f ha hg)).kept hS.2.1, fun g h1 h2 => (va_Z.moved hW.alike (h3 g h1 h2)).kept hS.2.1, fun w hw => va_Nw_warm' hw hW (h4 w hw), h5.moved hW.alike, fun E hE => (h6 E hE).warm hW, ⟨(vx_Zq.moved hW.alike h7.1).kept hS.2.1, (vx_Zq.moved hW.alike h7.2).kept hS.2.1⟩, fun E F hE hF hn => (h8 E F hE hF hn).moved hW.alike, Nat.le_trans h9 hS.1⟩
theorem xKn_same {G : xG} {u U : State} (h : xKn G u) (hv : U.vm = u.vm) (hh : U.heap = u.heap) : xKn G U := by
  have hal : u.vm.Alike U.vm := by rw [hv]; exact Vm.Alike.refl u.vm
  obtain ⟨h1, h2, h3, h4, h5, h6, h7, h8, h9⟩ := h
  refine ⟨h1.moved hal, fun a t n f ha hg => by rw [hh]; exact va_T.moved hal (h2 a t n f ha hg), fun g h1 h2 => by rw [hh]; exact va_Z.moved hal (h3 g h1 h2), fun w hw => (h4 w hw).same (xisn_tab (List.mem_filter.mp hw).2) hv.symm, h5.moved hal, fun E hE => (h6 E hE).same hv, ⟨by rw [hh]; exact vx_Zq.moved hal h7.1, by rw [hh]; exact vx_Zq.moved hal h7.2⟩, fun E F hE hF hn => (h8 E F hE hF hn).moved hal, by rw [hh]; exact h9⟩
-- contracts
def xPc (G : xG) (as : List Value) (h : xHp) : Array Value → State → Prop := va_Pc (as.map (xv G)) (fun U => xKn G U ∧ xO G h U.heap)
def xQc (G : xG) (r : xRes) : Array Value → State → Outcome → State → Prop := fun _ st o t => match r.1 with
  | .inl v => o = .returned (v.map (xv G)) ∧ xO G r.2 t.heap ∧ va_F (xAr G) st t
  | .inr _ => False
def xXC (G : xG) (r : xRes) : String → State → State → Prop := fun E st t => match r.1 with
  | .inl _ => False
  | .inr e => e < 3 ∧ E = xen e ∧ xO G r.2 t.heap ∧ va_F (xAr G) st t
def xrm (k : Nat) : Room := { frames := xmf k, cells := xmc k, slots := xms k, locals := xmo k }
def xCon (G : xG) (l : Launch) (k : Nat) (as : List Value) (h : xHp) (r : xRes) : Prop :=
  vx_Met l (xmn k) (xcw k :: xgt) (xrm k) (xPc G as h) (xQc G r) (xXC G r) (xmc k) (xms k) (xAr G)
theorem xPc_blind (G : xG) (as : List Value) (h : xHp) : FrameBlind (xPc G as h) := fun _ _ _ _ q => ⟨q.1, xKn_same q.2.1 rfl rfl, q.2.2⟩
-- locals
def xll (G : xG) (ls : xLs) : List (Nat × Value) := ls.zipIdx.filterMap fun q => q.1.map fun v => (q.2, xv G v)
theorem xll_mem {G : xG} {ls : xLs} {q : Nat × Value} : q ∈ xll G ls ↔ ∃ v, ls[q.1]? = some (some v) ∧ q.2 = xv G v := by
  unfold xll
  rw [List.mem_filterMap]
  constructor
  · rintro ⟨⟨o, i⟩, h1, h2⟩
    have h3 := List.mk_mem_zipIdx_iff_getElem?.mp h1
    obtain ⟨v, h4, h5⟩ := Option.map_eq_some_iff.mp h2
    subst h5
    simp only at h4
    subst h4
    exact ⟨v, h3, rfl⟩
  · rintro ⟨v, h1, h2⟩
    obtain ⟨i, w⟩ := q
    simp only at h1 h2
    exact ⟨(some v, i), List.mk_mem_zipIdx_iff_getElem?.mpr h1, by rw [h2]; rfl⟩
def xlr (G : xG) (ls : xLs) (lsM : Array Slot) (nL : Nat) : Prop := lv_has lsM nL (xll G ls) ∧ ls.length = nL
theorem xlr_get {G : xG} {ls : xLs} {lsM : Array Slot} {nL i : Nat} {v : Value} (h : xlr G ls lsM nL) (hi : ls[i]? = some (some v)) : lsM[i]? = some (.val (xv G v)) := h.1.2.2 (i, xv G v) (xll_mem.mpr ⟨v, hi, rfl⟩)
theorem xlI_some {ls : xLs} {i : Nat} {x : Int32} (h : xlI ls i = some x) : ls[i]? = some (some (.int x)) := by
  unfold xlI at h
  split at h
  · next heq => cases h; exact heq
  · cases h
theorem xlL_some {ls : xLs} {i : Nat} {x : Int64} (h : xlL ls i = some x) : ls[i]? = some (some (.long x)) := by
  unfold xlL at h
  split at h
  · next heq => cases h; exact heq
  · cases h
theorem xlR_some {ls : xLs} {i : Nat} {x : Nat} (h : xlR ls i = some x) : ls[i]? = some (some (.ref x)) := by
  unfold xlR at h
  split at h
  · next heq => cases h; exact heq
  · cases h
theorem xv_cat (G : xG) (v : Value) : (xv G v).category = v.category := by cases v <;> rfl
theorem xUn_some {o : Option Value} {u : Value} (h : xUn o = some u) : o = some u ∧ u.category = 1 := by
  cases o with
  | none => cases h
  | some w => cases w <;> first | (cases h; done) | (cases h; exact ⟨rfl, rfl⟩)
theorem xS1_len : ∀ (ls : xLs) (i : Nat) (v : Value), (xS1 ls i v).length = ls.length
  | [], _, _ => by simp [xS1]
  | _ :: t, 0, v => by simp [xS1]
  | a :: t, 1, v => by simp [xS1, xS1_len t 0 v]
  | a :: t, i + 2, v => by simp [xS1, xS1_len t (i + 1) v]
theorem xS1_get : ∀ (ls : xLs) (i : Nat) (v : Value) (j : Nat) (u : Value), (xS1 ls i v)[j]? = some (some u) → (j = i ∧ u = v) ∨ (j ≠ i ∧ ls[j]? = some (some u) ∧ (j + 1 = i → u.category = 1))
  | [], _, _, j, u, h => by simp [xS1] at h
  | _ :: t, 0, v, j, u, h => by
    rw [xS1] at h
    cases j with
    | zero => simp at h; exact Or.inl ⟨rfl, h.symm⟩
    | succ j => exact Or.inr ⟨by omega, by simpa using h, by omega⟩
  | a :: t, 1, v, j, u, h => by
    rw [xS1] at h
    cases j with
    | zero =>
      have h1 : xUn a = some u := by simpa using h
      obtain ⟨h2, h3⟩ := xUn_some h1
      exact Or.inr ⟨by omega, by simp [h2], fun _ => h3⟩
    | succ j =>
      have h1 : (xS1 t 0 v)[j]? = some (some u) := by simpa using h
      rcases xS1_get t 0 v j u h1 with ⟨e1, e2⟩ | ⟨e1, e2, e3⟩
      · exact Or.inl ⟨by omega, e2⟩
      · exact Or.inr ⟨by omega, by simpa using e2, by omega⟩
  | a :: t, i + 2, v, j, u, h => by
    rw [xS1] at h
    cases j with
    | zero => exact Or.inr ⟨by omega, by simpa using h, by omega⟩
    | succ j =>
      have h1 : (xS1 t (i + 1) v)[j]? = some (some u) := by simpa using h
      rcases xS1_get t (i + 1) v j u h1 with ⟨e1, e2⟩ | ⟨e1, e2, e3⟩
      · exact Or.inl ⟨by omega, e2⟩
      · exact Or.inr ⟨by omega, by simpa using e2, fun e => e3 (by omega)⟩
/-- any locals whose entries are among others' hold -/
theorem xlr_sub {G : xG} {ls : xLs} {lsM : Array Slot} {nL : Nat} {lv : List (Nat × Value)} (h : lv_has lsM nL lv) (hlen : ls.length = nL) (hs : ∀ i v, ls[i]? = some (some v) → (i, xv G v) ∈ lv) : xlr G ls lsM nL := by
  refine ⟨⟨h.1, h.2.1, fun q hq => ?_⟩, hlen⟩
  obtain ⟨v, h1, h2⟩ := xll_mem.mp hq
  have h3 := hs _ _ h1
  rw [← h2] at h3
  exact h.2.2 q h3
theorem xlr_s1 {G : xG} {ls : xLs} {lsM' : Array Slot} {nL i : Nat} {v : Value} (hlen : ls.length = nL) (h : lv_has lsM' nL ((i, xv G v) :: (xll G ls).filter (fun q => !(q.1 == i) && !(q.1 + 1 == i && q.2.category == 2)))) : xlr G (xS1 ls i v) lsM' nL := by
  refine xlr_sub h (by rw [xS1_len]; exact hlen) fun j u hj => ?_
  rcases xS1_get ls i v j u hj with ⟨rfl, rfl⟩ | ⟨h1, h2, h3⟩
  · exact List.mem_cons_self
  · refine List.mem_cons_of_mem _ (List.mem_filter.mpr ⟨xll_mem.mpr ⟨u, h2, rfl⟩, ?_⟩)
    simp only [Bool.and_eq_true, Bool.not_eq_true', beq_eq_false_iff_ne, ne_eq, Bool.and_eq_false_iff]
    refine ⟨h1, ?_⟩
    by_cases h4 : j + 1 = i
    · right
      rw [xv_cat, h3 h4]
      decide
    · exact Or.inl h4
theorem xlr_s0 {G : xG} {ls : xLs} {lsM' : Array Slot} {nL i : Nat} {w : Value} (hlen : ls.length = nL) (h : lv_has lsM' nL ((i, w) :: (xll G ls).filter (fun q => !(q.1 == i) && !(q.1 + 1 == i && q.2.category == 2)))) : xlr G (xS0 ls i) lsM' nL := by
  refine xlr_sub h (by rw [xS0, List.length_set, xS1_len]; exact hlen) fun j u hj => ?_
  rw [xS0] at hj
  have hji : j ≠ i := by
    intro e
    subst e
    rw [List.getElem?_set] at hj
    simp at hj
  rw [List.getElem?_set_ne (Ne.symm hji)] at hj
  rcases xS1_get ls i .null j u hj with ⟨e, -⟩ | ⟨h1, h2, h3⟩
  · exact absurd e hji
  · refine List.mem_cons_of_mem _ (List.mem_filter.mpr ⟨xll_mem.mpr ⟨u, h2, rfl⟩, ?_⟩)
    simp only [Bool.and_eq_true, Bool.not_eq_true', beq_eq_false_iff_ne, ne_eq, Bool.and_eq_false_iff]
    refine ⟨h1, ?_⟩
    by_cases h4 : j + 1 = i
    · right
      rw [xv_cat, h3 h4]
      decide
    · exact Or.inl h4
theorem xlr_s2 {G : xG} {ls : xLs} {lsM' : Array Slot} {nL i : Nat} {v : Value} (hlen : ls.length = nL) (h : lv_has lsM' nL ((i, xv G v) :: (xll G ls).filter (fun q => !(q.1 == i) && (!(q.1 == i + 1) && !(q.1 + 1 == i && q.2.category == 2))))) : xlr G (xS2 ls i v) lsM' nL := by
  refine xlr_sub h (by rw [xS2, List.length_set, xS1_len]; exact hlen) fun j u hj => ?_
  rw [xS2] at hj
  have hji : j ≠ i + 1 := by
    intro e
    subst e
    rw [List.getElem?_set] at hj
    simp at hj
  rw [List.getElem?_set_ne (Ne.symm hji)] at hj
  rcases xS1_get ls i v j u hj with ⟨rfl, rfl⟩ | ⟨h1, h2, h3⟩
  · exact List.mem_cons_self
  · refine List.mem_cons_of_mem _ (List.mem_filter.mpr ⟨xll_mem.mpr ⟨u, h2, rfl⟩, ?_⟩)
    simp only [Bool.and_eq_true, Bool.not_eq_true', beq_eq_false_iff_ne, ne_eq, Bool.and_eq_false_iff]
    refine ⟨h1, hji, ?_⟩
    by_cases h4 : j + 1 = i
    · right
      rw [xv_cat, h3 h4]
      decide
    · exact Or.inl h4
/-- the locals at a method's entry -/
theorem lg_sl_cons (v : Value) (t : List Value) : lg_sl (v :: t) = (if v.category = 2 then [.val v, .second] else [.val v]) ++ lg_sl t := by simp [lg_sl]
theorem xArg_len : ∀ (as : List Value), (xArg as).length = (lg_sl as).length
  | [] => rfl
  | v :: t => by
    rw [lg_sl_cons, List.length_append, ← xArg_len t]
    cases v <;> simp [xArg, Value.category] <;> omega
theorem xArg_sl (G : xG) : ∀ (as : List Value), (lg_sl (as.map (xv G))).length = (lg_sl as).length
  | [] => rfl
  | v :: t => by
    rw [List.map_cons, lg_sl_cons, lg_sl_cons, List.length_append, List.length_append, xArg_sl G t, xv_cat]
    split <;> rfl
theorem xArg_mem (G : xG) : ∀ (as : List Value) (b i : Nat) (v : Value), (xArg as)[i]? = some (some v) → (b + i, xv G v) ∈ lv_args b (as.map (xv G))
  | [], b, i, v, h => by simp [xArg] at h
  | w :: t, b, i, v, h => by
    rw [List.map_cons, lv_args, xv_cat]
    have key : ∀ (pre : xLs) (n : Nat), xArg (w :: t) = some w :: pre ++ xArg t → pre.length + 1 = n → (∀ o ∈ pre, o = none) → (if w.category = 2 then b + 2 else b + 1) = b + n → (b + i, xv G v) ∈ (b, xv G w) :: lv_args (if w.category = 2 then b + 2 else b + 1) (t.map (xv G)) := by
      intro pre n e1 e2 e3 e4
      rw [e1] at h
      cases i with
      | zero =>
        have : w = v := by simpa using h
        subst this
        exact List.mem_cons_self
      | succ i =>
        have h1 : (pre ++ xArg t)[i]? = some (some v) := by simpa using h
        by_cases hi : i < pre.length
        · rw [List.getElem?_append_left hi] at h1
          have := e3 _ (List.mem_of_getElem? h1)
          cases this
        · rw [List.getElem?_append_right (by omega)] at h1
          have h2 := xArg_mem G t (b + n) (i - pre.length) v h1
          rw [e4]
          refine List.mem_cons_of_mem _ ?_
          rw [show b + (i + 1) = b + n + (i - pre.length) by omega]
          exact h2
    cases w with
    | long x => exact key [none] 2 rfl rfl (by simp) rfl
    | double x => exact key [none] 2 rfl rfl (by simp) rfl
    | _ => exact key [] 1 rfl rfl (by simp) rfl
theorem xEnt_lr {G : xG} {as : List Value} {n : Nat} {lsM : Array Slot} (hle : (lg_sl as).length ≤ n) (h : lv_has lsM n (lv_args 0 (as.map (xv G)))) : xlr G (xEnt n as) lsM n := by
  have hl : (xArg as).length ≤ n := by rw [xArg_len]; exact hle
  refine xlr_sub h (by simp [xEnt]; omega) fun i v hi => ?_
  by_cases hlt : i < (xArg as).length
  · rw [xEnt, List.getElem?_append_left hlt] at hi
    have h2 := xArg_mem G as 0 i v hi
    rwa [Nat.zero_add] at h2
  · rw [xEnt, List.getElem?_append_right (by omega)] at hi
    have := List.eq_of_mem_replicate (List.mem_of_getElem? hi)
    cases this
