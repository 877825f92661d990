theorem xlk_0 : Cond.classLink "SpoonCardsLaw" 34 "java/lang/IndexOutOfBoundsException" ∈ xgt := xg_in (i := 471) (by decide +kernel) rfl
theorem xca_0 : (Cond.castable "java/lang/IndexOutOfBoundsException" "java/lang/IndexOutOfBoundsException") ∈ xnes := xnes_in (i := 484) (by decide +kernel) rfl
theorem xck_0 : Cond.classLink "SpoonCards" 258 "java/lang/IndexOutOfBoundsException" ∈ xgt := xg_in (i := 482) (by decide +kernel) rfl
theorem xci_0 : Cond.initialized "java/lang/IndexOutOfBoundsException" ∈ xgt := xg_in (i := 42) (by decide +kernel) rfl
def xat_0 : List Cond := vx_atS "SpoonCards" 262 "java/lang/IndexOutOfBoundsException" ["java/lang/RuntimeException", "java/lang/Exception"]
theorem xatg_0 : ∀ w ∈ xat_0.filter goodWord, w ∈ xgt := fun w hw => List.mem_filter.mpr ⟨(by decide +kernel : ∀ w ∈ xat_0.filter goodWord, w ∈ lw_tbl) w hw, (List.mem_filter.mp hw).2⟩
theorem xatn_0 : ∀ w ∈ xat_0.filter (fun w => !goodWord w), w ∈ xnes := fun w hw => List.mem_filter.mpr ((by decide +kernel : ∀ w ∈ xat_0.filter (fun w => !goodWord w), w ∈ lw_tbl ∧ xisn w = true) w hw)
theorem xato_0 : ∀ w ∈ Cond.classLink "SpoonCards" 258 "java/lang/IndexOutOfBoundsException" :: Cond.initialized "java/lang/IndexOutOfBoundsException" :: xat_0, vx_ot w = true := by decide +kernel
theorem xlk_1 : Cond.classLink "SpoonCardsLaw" 15 "java/lang/IllegalArgumentException" ∈ xgt := xg_in (i := 517) (by decide +kernel) rfl
theorem xca_1 : (Cond.castable "java/lang/IllegalArgumentException" "java/lang/IllegalArgumentException") ∈ xnes := xnes_in (i := 527) (by decide +kernel) rfl
theorem xck_1 : Cond.classLink "SpoonCards" 265 "java/lang/IllegalArgumentException" ∈ xgt := xg_in (i := 525) (by decide +kernel) rfl
theorem xci_1 : Cond.initialized "java/lang/IllegalArgumentException" ∈ xgt := xg_in (i := 39) (by decide +kernel) rfl
def xat_1 : List Cond := vx_atS "SpoonCards" 269 "java/lang/IllegalArgumentException" ["java/lang/RuntimeException", "java/lang/Exception"]
theorem xatg_1 : ∀ w ∈ xat_1.filter goodWord, w ∈ xgt := fun w hw => List.mem_filter.mpr ⟨(by decide +kernel : ∀ w ∈ xat_1.filter goodWord, w ∈ lw_tbl) w hw, (List.mem_filter.mp hw).2⟩
theorem xatn_1 : ∀ w ∈ xat_1.filter (fun w => !goodWord w), w ∈ xnes := fun w hw => List.mem_filter.mpr ((by decide +kernel : ∀ w ∈ xat_1.filter (fun w => !goodWord w), w ∈ lw_tbl ∧ xisn w = true) w hw)
theorem xato_1 : ∀ w ∈ Cond.classLink "SpoonCards" 265 "java/lang/IllegalArgumentException" :: Cond.initialized "java/lang/IllegalArgumentException" :: xat_1, vx_ot w = true := by decide +kernel
theorem xlk_2 : Cond.classLink "SpoonCardsLaw" 19 "java/lang/IllegalStateException" ∈ xgt := xg_in (i := 270) (by decide +kernel) rfl
theorem xca_2 : (Cond.castable "java/lang/IllegalStateException" "java/lang/IllegalStateException") ∈ xnes := xnes_in (i := 393) (by decide +kernel) rfl
theorem xck_2 : Cond.classLink "SpoonCards" 270 "java/lang/IllegalStateException" ∈ xgt := xg_in (i := 391) (by decide +kernel) rfl
theorem xci_2 : Cond.initialized "java/lang/IllegalStateException" ∈ xgt := xg_in (i := 43) (by decide +kernel) rfl
def xat_2 : List Cond := vx_atS "SpoonCards" 274 "java/lang/IllegalStateException" ["java/lang/RuntimeException", "java/lang/Exception"]
theorem xatg_2 : ∀ w ∈ xat_2.filter goodWord, w ∈ xgt := fun w hw => List.mem_filter.mpr ⟨(by decide +kernel : ∀ w ∈ xat_2.filter goodWord, w ∈ lw_tbl) w hw, (List.mem_filter.mp hw).2⟩
theorem xatn_2 : ∀ w ∈ xat_2.filter (fun w => !goodWord w), w ∈ xnes := fun w hw => List.mem_filter.mpr ((by decide +kernel : ∀ w ∈ xat_2.filter (fun w => !goodWord w), w ∈ lw_tbl ∧ xisn w = true) w hw)
theorem xato_2 : ∀ w ∈ Cond.classLink "SpoonCards" 270 "java/lang/IllegalStateException" :: Cond.initialized "java/lang/IllegalStateException" :: xat_2, vx_ot w = true := by decide +kernel
theorem xkd2 : (List.range xN).all (fun k => decide (xkd k = 2 → xmk k = 5)) = true := by decide +kernel
theorem xce_link {c E : Nat} (h : xce c = some E) : Cond.classLink "SpoonCardsLaw" c (xen E) ∈ xgt ∧ E < 3 ∧ c ≠ 0 := by
  unfold xce at h
  split at h
  · next e => cases h; subst e; exact ⟨xlk_0, by omega, by omega⟩
  · split at h
    · next e => cases h; subst e; exact ⟨xlk_1, by omega, by omega⟩
    · split at h
      · next e => cases h; subst e; exact ⟨xlk_2, by omega, by omega⟩
      · cases h
theorem xcast {E : Nat} (h : E < 3) : Cond.castable (xen E) (xen E) ∈ xnes := by
  match E, h with
  | 0, _ => exact xca_0
  | 1, _ => exact xca_1
  | 2, _ => exact xca_2
theorem xHf_some {pc E : Nat} : ∀ {hh : List (Nat × Nat × Nat × Nat)} {t : Nat}, xHf pc E hh = some t → ∃ pre q suf, hh = pre ++ q :: suf ∧ (q.1 ≤ pc ∧ pc < q.2.1) ∧ xce q.2.2.2 = some E ∧ t = q.2.2.1 ∧ ∀ z ∈ pre, ¬ (z.1 ≤ pc ∧ pc < z.2.1) ∨ ∃ E', xce z.2.2.2 = some E' ∧ E' ≠ E
  | [], t, h => by cases h
  | q :: hh, t, h => by
    unfold xHf at h
    by_cases hc : q.1 ≤ pc ∧ pc < q.2.1
    · rw [if_pos hc] at h
      cases he : xce q.2.2.2 with
      | none => rw [he] at h; cases h
      | some E' =>
        rw [he] at h
        simp only at h
        by_cases hE : E' = E
        · rw [if_pos hE] at h
          cases h
          exact ⟨[], q, hh, rfl, hc, by rw [he, hE], rfl, fun z hz => by cases hz⟩
        · rw [if_neg hE] at h
          obtain ⟨pre, q', suf, e1, e2, e3, e4, e5⟩ := xHf_some h
          exact ⟨q :: pre, q', suf, by rw [e1]; rfl, e2, e3, e4, fun z hz => (List.mem_cons.mp hz).elim (fun e => Or.inr ⟨E', by rw [e]; exact he, hE⟩) (e5 z)⟩
    · rw [if_neg hc] at h
      obtain ⟨pre, q', suf, e1, e2, e3, e4, e5⟩ := xHf_some h
      exact ⟨q :: pre, q', suf, by rw [e1]; rfl, e2, e3, e4, fun z hz => (List.mem_cons.mp hz).elim (fun e => Or.inl (by rw [e]; exact hc)) (e5 z)⟩
section XM
variable {G : xG} {k pc nc ns : Nat} {ls : xLs} {st : List Value} {h : xHp} {p : Program} {l : Launch} {e : Env} {R : Room} {s : State} {m : MethodId} {args : Array Value} {below : List Frame} {meth : Method} {c : Code} {H : Heap} {locs : List Loc} {lsM : Array Slot} {Q : State → Prop}
theorem xcatch {E pc' i : Nat} {H : Heap} {locs : List Loc} {rest : List Value} {q : Addr} {ce : Cell} (hd : xHd k pc E = some (pc', i)) (hk : xkd k = 2) (hkN : k < xN) (hi : i < ls.length) (A : xAt G l k p R s m args meth c) (hl : xlr G ls lsM (xml k)) (hE : E < 3)
    (hce : H[q]? = some ce) (hcv : ce.vm = .none) (hcl : s.vm.findClass (xen E) = some ce.cls)
    (kk : ∀ lsM', xlr G (xS0 ls i) lsM' (xml k) → W p l e R s m args below meth c H locs nc ns Q (F0 m pc' lsM' [])) : vx_W p l e R s m args below meth c H locs nc ns Q (F0 m pc lsM rest) q := by
  obtain ⟨hx, hb, hml, hr, hlk, hnm, hown, htb, hts, hR, hK, hfl⟩ := A
  obtain ⟨t, ht, hd2⟩ := Option.bind_eq_some_iff.mp hd
  obtain ⟨pre, z, suf, e1, e2, e3, e4, e5⟩ := xHf_some ht
  have h6 : xmk k = 5 := of_decide_eq_true (List.all_eq_true.mp xkd2 k (List.mem_range.mpr hkN)) hk
  have hown' : s.vm.findClass "SpoonCardsLaw" = some m.cls := by rw [h6] at hown; exact hown
  obtain ⟨l1, l2, l3⟩ := xce_link e3
  have hsplit : c.exceptionTable.toList = tableOf pre ++ (⟨z.1, z.2.1, z.2.2.1, z.2.2.2⟩ : ExceptionTableEntry) :: tableOf suf := by
    rw [htb (by omega), e1]
    unfold tableOf
    rw [List.map_append, List.map_cons]
  refine vx_catch (own := "SpoonCardsLaw") (name := xen E) (E := xen E) hown' (tableOf pre) _ (tableOf suf) hsplit ?_ ?_ l3 (hts _ l1) ((hK.2.2.2.1 _ (xcast hE)).use rfl) hce hcv hcl ?_
  · intro y hy
    obtain ⟨y0, hy0, rfl⟩ := List.mem_map.mp hy
    rcases e5 y0 hy0 with h1 | ⟨E', h1, h2⟩
    · left
      simp only [covers, Bool.and_eq_false_iff, decide_eq_false_iff_not]
      by_cases g : y0.1 ≤ pc
      · exact Or.inr (fun g2 => h1 ⟨g, g2⟩)
      · exact Or.inl g
    · right
      obtain ⟨m1, m2, m3⟩ := xce_link h1
      exact ⟨m3, xen E', hts _ m1, hK.2.2.2.2.2.2.2.1 E E' hE m2 (Ne.symm h2)⟩
  · simp only [covers, Bool.and_eq_true, decide_eq_true_eq]
    exact e2
  · show W p l e R s m args below meth c H locs nc ns Q (F0 m z.2.2.1 lsM [.ref q])
    rw [← e4]
    split at hd2
    · next n heq =>
      cases hd2
      exact lv_astore_n hx hb heq rfl hl.1 (by rw [← hl.2]; exact hi) rfl (fun ls1 h1 => kk ls1 (xlr_s0 hl.2 h1))
    · next n heq =>
      cases hd2
      exact lv_astore hx hb heq hl.1 (by rw [← hl.2]; exact hi) rfl (fun ls1 h1 => kk ls1 (xlr_s0 hl.2 h1))
    · cases hd2
/-- what a return owes -/
def xRI (k : Nat) (v : Option Value) (i : Instr) : Prop := (∃ x, v = some (.int x) ∧ i = .ireturn ∧ (xmr k = some .int ∨ (xmr k = some .boolean ∧ (x = 0 ∨ x = 1)))) ∨ (∃ x, v = some (.long x) ∧ i = .lreturn ∧ xmr k = some .long) ∨ (v = none ∧ i = .return_ ∧ xmr k = none)
def xEnd (G : xG) (k : Nat) (r : xRes) (p : Program) (l : Launch) (e : Env) (R : Room) (s : State) (m : MethodId) (args : Array Value) (below : List Frame) (meth : Method) (c : Code) (Q : State → Prop) : Prop :=
  (∀ v, r.1 = .inl v → ∀ (H : Heap) (locs : List Loc) (nc ns pc : Nat) (lsM : Array Slot) (i : Instr), xO G r.2 H → va_S (xAr G) s.heap H locs → nc ≤ xmc k → ns ≤ xms k → decode (xmb k) pc = .ok (i, 1) → xRI k v i → W p l e R s m args below meth c H locs nc ns Q (F0 m pc lsM (v.toList.map (xv G)))) ∧
  (∀ E, r.1 = .inr E → Q = vx_MQ below (xQc G r) (xXC G r) args s (xmc k) (xms k) (xAr G))
def xBn (G : xG) (l : Launch) (n : Nat) : Prop := ∀ (k pc : Nat) (ls : xLs) (st : List Value) (h : xHp) (nc ns : Nat) (r : xRes) (p : Program) (e : Env) (R : Room) (s : State) (m : MethodId) (args : Array Value) (below : List Frame) (meth : Method) (c : Code) (H : Heap) (locs : List Loc) (lsM : Array Slot) (Q : State → Prop),
  xr n k pc ls st h nc ns = some r → k < xN → xAt G l k p R s m args meth c → xO G h H → va_S (xAr G) s.heap H locs → xlr G ls lsM (xml k) → nc ≤ xmc k ∧ ns ≤ xms k → xEnd G k r p l e R s m args below meth c Q →
  W p l e R s m args below meth c H locs nc ns Q (F0 m pc lsM (st.map (xv G)))
/-- the end of a method that is called -/
theorem xend_of {r : xRes} (A : xAt G l k p R s m args meth c) : xEnd G k r p l e R s m args below meth c (vx_MQ below (xQc G r) (xXC G r) args s (xmc k) (xms k) (xAr G)) := by
  obtain ⟨hx, hb, hml, hr, hlk, hnm, hown, htb, hts, hR, hK, hfl⟩ := A
  refine ⟨fun v hv H locs nc ns pc lsM i hO hS h1 h2 hd hri => ?_, fun _ _ => rfl⟩
  obtain ⟨rv, rh⟩ := r
  simp only at hv hO
  subst hv
  refine W.widen h1 h2 (vx_ret ?_)
  have hq : ∀ t : State, t.heap = H → s.WarmedH t.vm → xQc G (.inl v, rh) args s (.returned (v.map (xv G))) t := fun t ht _ => ⟨rfl, by rw [ht]; exact hO, hS.F ht⟩
  rcases hri with ⟨x, rfl, rfl, hty⟩ | ⟨x, rfl, rfl, hty⟩ | ⟨rfl, rfl, hty⟩
  · rcases hty with hty | ⟨hty, hx01⟩
    · exact W.iret hx hb (by rw [hr]; exact hty) hq hS.2.2 hd hlk
    · exact W.zret hx hb (ty := .boolean) (by rw [hr]; exact hty) (by rcases hx01 with rfl | rfl <;> rfl) hq hS.2.2 hd hlk
  · exact W.lret hx hb (by rw [hr]; exact hty) hq hS.2.2 hd hlk
  · exact W.vret hx hb (by rw [hr]; exact hty) hq hS.2.2 hd hlk
end XM
theorem xlgsl_le : (List.range xN).all (fun k => decide (xna k * 2 ≤ 100)) = true := by decide +kernel
theorem xAofB {G : xG} {l : Launch} (hfl : l.stackTraces = false) {n : Nat} (hB : xBn G l n) {k : Nat} {as : List Value} {h : xHp} {r : xRes} (hk : k < xN) (hr : xr n k 0 (xEnt (xml k) as) [] h 0 0 = some r) (hlen : (lg_sl as).length ≤ xml k) : xCon G l k as h r := by
  obtain ⟨hp1, hp2, hp3, hp4, hp5⟩ := xm_ok hk
  have key : ∀ (p : Program) (e : Env) (s : State) (m : MethodId) (args : Array Value) (below : List Frame) (meth : Method) (c : Code), p.tables.exec = Jvm.exec → c.code = xmb k → meth.sig.returnType = xmr k → meth.locks = false → s.methodNamed? (xmn k) = some m → s.vm.method? m = some meth → (∀ w ∈ xcw k :: xgt, w.before args s = true) → c.maxLocals = xml k → c.exceptionTable.toList = tableOf (xmh k) → xPc G as h args s →
      W p l e (headSpec (xcw k :: xgt) (xrm k)).room s m args below meth c s.heap [] 0 0 (vx_MQ below (xQc G r) (xXC G r) args s (xmc k) (xms k) (xAr G)) (entryFrame m args (xml k)) := by
    intro p e s m args below meth c b1 b2 b3 b4 b5 b6 b7 b8 b9 hP
    obtain ⟨rfl, hK, hO⟩ := hP
    have hown : s.vm.findClass (xcn (xmk k)) = some m.cls := by
      rw [← hp3]
      exact findClass_of_methodNamed b5
    have A : xAt G l k p (headSpec (xcw k :: xgt) (xrm k)).room s m (as.map (xv G)).toArray meth c := ⟨b1, b2, b8, b3, b4, fun hi => by rw [(name_of_methodNamed b5 b6).1]; exact of_decide_eq_true hi, hown, fun _ => b9, fun w hw => b7 w (List.mem_cons_of_mem _ hw), ⟨Nat.le_refl _, Nat.le_refl _, Nat.le_refl _, Nat.le_refl _⟩, hK, hfl⟩
    rw [lg_entry_eq]
    have hlM := lv_entry (as.map (xv G)) (n := xml k) (by rw [xArg_sl]; exact hlen)
    exact hB k 0 _ [] h 0 0 r p e _ s m _ below meth c s.heap [] _ _ hr hk A hO va_S.rf (xEnt_lr hlen hlM) ⟨Nat.zero_le _, Nat.zero_le _⟩ (xend_of A)
  by_cases hh : xmh k = []
  · unfold xCon
    have hcw : xcw k = .code (xmn k) (xmb k) (xml k) (xmr k) := if_pos hh
    refine vx_ofW (cc := xmb k) (maxL := xml k) (ret := xmr k) (ws' := xgt) hp1 (by rw [hcw]) ?_
    intro p e s m args below meth c s₁ B hml ht hP
    exact key p e s m args below meth c B.exec B.bytes B.returns B.notSynchronized B.named B.method (atoms_spec (ws := xcw k :: xgt) B.pre) hml (by
      rw [hh]
      exact List.eq_nil_iff_forall_not_mem.mpr (fun x hx => ht x hx)) hP
  · unfold xCon
    have hcw : xcw k = .codeWith (xmn k) (xmb k) (xml k) (xmr k) (xmh k) := if_neg hh
    refine vx_ofWH (cc := xmb k) (maxL := xml k) (ret := xmr k) (hh := xmh k) (ws' := xgt) hp1 (by rw [hcw]) ?_
    intro p e s m args below meth c s₁ B hml hP
    have hts := atoms_spec (ws := xcw k :: xgt) B.pre
    exact key p e s m args below meth c B.exec B.bytes B.returns B.notSynchronized B.named B.method hts hml (vx_table (x := xmn k) B (y := xmn k) (bytes := xmb k) (maxL' := xml k) (ret' := xmr k) (by rw [← hcw]; exact hts _ List.mem_cons_self)) hP

