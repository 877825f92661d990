theorem xgood {w : Cond} (h : w ∈ xgt) : goodWord w = true := (List.mem_filter.mp h).2
theorem xgoodIn {ws : List Cond} (h : ∀ w ∈ ws, w ∈ xgt) : GoodIn xgt ws := fun w hw => ⟨h w hw, good_of_word (xgood (h w hw))⟩
theorem xcR_ok {c i : Nat} {r : Nat × Nat × Nat × Nat × Nat × Nat × Nat} (h : xcR c i = some r) : ∃ k md a b d, r = (c, i, k, md, a, b, d) ∧ xcOk (c, i, k, md, a, b, d) = true := by
  have h3 := List.find?_some h
  have h4 := List.all_eq_true.mp xct_ok r (List.mem_of_find?_eq_some h)
  obtain ⟨a, b, k, md, x, y, z⟩ := r
  simp only [Bool.and_eq_true, beq_iff_eq] at h3
  obtain ⟨rfl, rfl⟩ := h3
  exact ⟨k, md, x, y, z, rfl, h4⟩
theorem xsys_ok : Cond.initialized "java/lang/System" ∈ xgt := xg_in (i := 34) (by decide +kernel) rfl
theorem xmath_ok : Cond.initialized "java/lang/Math" ∈ xgt := xg_in (i := 40) (by decide +kernel) rfl
theorem xnfw : nativeFrameWords "java/lang/System" "arraycopy" 5 ≤ 40 := by decide +kernel
section XC
variable {G : xG} {k pc nc ns : Nat} {ls : xLs} {st : List Value} {h : xHp} {p : Program} {l : Launch} {e : Env} {R : Room} {s : State} {m : MethodId} {args : Array Value} {below : List Frame} {meth : Method} {c : Code} {H : Heap} {locs : List Loc} {lsM : Array Slot} {Q : State → Prop}
theorem nonneg_clamp {z : Int32} (hz : ¬ z < 0) : z.toInt = (z.toNatClampNeg : Int) := by
  have hz0 : (0 : Int) ≤ z.toInt := by
    have := Int32.not_lt.mp hz
    simpa using Int32.le_iff_toInt_le.mp this
  show z.toInt = ((z.toInt.toNat : Nat) : Int)
  omega
theorem xj_copy {ix : Nat} {j : xJ} (hd : decode (xmb k) pc = .ok (.invokestatic ix, 3)) (ha : xCopy k pc ls st h nc ns = some (.inl j)) (f1 : Cond.methodLink (xcn (xmk k)) ix arraycopyName ∈ xgt) (f2 : Cond.static arraycopyName ∈ xgt) (f3 : Cond.native arraycopyName ∈ xgt) (A : xAt G l k p R s m args meth c) (hO : xO G h H) (hS : va_S (xAr G) s.heap H locs) (hl : xlr G ls lsM (xml k)) (hn : nc ≤ xmc k ∧ ns ≤ xms k)
    (kk : ∀ (H' : Heap) (locs' : List Loc) (lsM' : Array Slot), xO G j.2.2.2.1 H' → va_S (xAr G) s.heap H' locs' → xlr G j.2.1 lsM' (xml k) → j.2.2.2.2.1 ≤ xmc k ∧ j.2.2.2.2.2 ≤ xms k → W p l e R s m args below meth c H' locs' j.2.2.2.2.1 j.2.2.2.2.2 Q (F0 m j.1 lsM' (j.2.2.1.map (xv G)))) : W p l e R s m args below meth c H locs nc ns Q (F0 m pc lsM (st.map (xv G))) := by
  obtain ⟨hx, hb, hml, hr, hlk, hnm, hown, htb, hts, hR, hK, hfl⟩ := A
  unfold xCopy at ha
  split at ha
  · next n dp a sp b st =>
    split at ha
    · next t0 n0 f t1 n1 g hgb hga =>
      obtain ⟨⟨hty, ht1, h1, h2, h3, h4, h5, h6, h7, h8⟩, ha2⟩ := xif_some ha
      obtain rfl := xGo_some ha2
      subst ht1
      have hcb := xgA_some hgb
      have hca := xgA_some hga
      have ha7 := xO_7 hO hca (xgv_inr (by omega))
      have hdst : H[xad G a]? = some (vp_cell (xca G 0) (n1, .inl g)) := hO.1 _ _ (xO_cell hO hca (xgv_inr (by omega)))
      obtain ⟨-, k1, hk1, cm1, hkk1⟩ := (hK.1.2 0 _ rfl).1 n1 (fun j => .int (g j))
      have hsrc : ∃ (cs : Cell) (k0 : Class) (cm0 : ClassId), H[xad G b]? = some cs ∧ (∀ q, cs.vm ≠ .statics q) ∧ cs.vm ≠ .unknown ∧ s.vm.classes[cs.cls]? = some k0 ∧ k0.kind = .array cm0 .int ∧ n0 ≤ cs.slots.size ∧ ∀ j, j < n0 → cs.slots[j]? = some (.int (f j)) := by
        rcases hty with rfl | rfl
        · obtain ⟨z0, k0, hk0, cm0, hkk0⟩ := (hK.1.2 0 _ rfl).1 n0 (fun j => .int (f j))
          exact ⟨_, k0, cm0, hO.1 _ _ (xO_cell hO hcb (xgv_inr (by omega))), z0, (fun z => by cases z), hk0, hkk0, by show n0 ≤ (arrV _ _ _).slots.size; rw [arrV_size]; exact Nat.le_refl _, fun j hj => arrV_read _ _ hj⟩
        · obtain ⟨hlt, hg⟩ := xO_lt7 hO hcb (xgv_inr' (by omega))
          obtain ⟨cell, c1, ⟨z0, k0, hk0, cm0, hkk0⟩, c3, c4, c5, c6, c7⟩ := hK.2.1 _ _ _ _ hlt hg
          have ead : xad G b = xgv G b := by rw [xad, if_pos hlt]
          exact ⟨cell, k0, cm0, by rw [ead, hS.2.1 _ (Array.getElem?_eq_some_iff.mp c1).1 c7]; exact c1, z0, c3, hk0, hkk0, c4, c6⟩
      obtain ⟨cs, k0, cm0, s1, s2, s3, s4, s5, s6, s7⟩ := hsrc
      have hread : ∀ i, i < n.toNatClampNeg → cs.slots.getD (sp.toNatClampNeg + i) .null = .int (f (sp.toNatClampNeg + i)) := by
        intro i hi
        rw [Array.getD_eq_getD_getElem?, s7 _ (by omega)]
        rfl
      intro T hT X
      have hsum := xsum_le G st
      have hfw := xnfw
      obtain ⟨vm', X', step⟩ := X.arraycopy hx hown (hts _ f1) (hts _ f3) (hts _ f2) (hts _ xsys_ok) (src := xad G b) (dst := xad G a) (cs := cs) (cd := vp_cell (xca G 0) (n1, .inl g)) (srcPos := sp) (destPos := dp) (n := n) (by rw [hT]; exact s1) (by rw [hT]; exact hdst)
        s2 (fun _ h => by cases h) s3 (fun h => by cases h) s4 hk1 s5 hkk1 (show ((refKind FieldType.int != refKind FieldType.int) || (!refKind FieldType.int && FieldType.int != FieldType.int)) = false by decide) h1 h2 h3
        (by rw [nonneg_clamp h1, nonneg_clamp h3]; omega)
        (by rw [nonneg_clamp h2, nonneg_clamp h3]; show ¬ _ > ((arrV (xca G 0) n1 (fun j => .int (g j))).slots.size : Int); rw [arrV_size]; omega)
        (fun vm₁ _ i hi => by rw [hread i hi]; exact ⟨rfl, trivial⟩)
        (g := F0 m pc lsM (.int n :: .int dp :: .ref (xad G a) :: .int sp :: .ref (xad G b) :: st.map (xv G))) rfl (by rw [hml]; exact hl.1.1) (rest := st.map (xv G)) rfl (by rw [hb]; exact hd) (by omega) (by show 2 * 0 + _ + _ ≤ _; omega)
      have est : cs.stretch sp.toNatClampNeg n.toNatClampNeg = (arrV (xca G 0) n0 (fun j => .int (f j))).stretch sp.toNatClampNeg n.toNatClampNeg := by
        unfold Cell.stretch
        apply List.map_congr_left
        intro i hi
        have hi' := List.mem_range.mp hi
        rw [hread i hi', Array.getD_eq_getD_getElem?, arrV_read _ _ (by omega)]
        rfl
      have e1 : copied cs (vp_cell (xca G 0) (n1, .inl g)) sp dp n = vp_cell (xca G 0) (n1, .inl (va_cpy f g sp.toNatClampNeg dp.toNatClampNeg n.toNatClampNeg)) := by
        show (vp_cell (xca G 0) (n1, .inl g)).storeRun dp.toNatClampNeg (cs.stretch sp.toNatClampNeg n.toNatClampNeg) = _
        rw [est]
        exact va_copied (fun z => .int z) (xca G 0) (xca G 0) f g h4
      rw [e1] at X' step
      have hla : xad G a < H.size := (Array.getElem?_eq_some_iff.mp hdst).1
      have hheap : ((T.setVm vm').setCell (xad G a) (vp_cell (xca G 0) (n1, .inl (va_cpy f g sp.toNatClampNeg dp.toNatClampNeg n.toNatClampNeg)))).heap = H.setIfInBounds (xad G a) (vp_cell (xca G 0) (n1, .inl (va_cpy f g sp.toNatClampNeg dp.toNatClampNeg n.toNatClampNeg))) := by rw [← hT]; rfl
      have oq : ∀ q : Nat, q ≠ xad G a → (H.setIfInBounds (xad G a) (vp_cell (xca G 0) (n1, .inl (va_cpy f g sp.toNatClampNeg dp.toNatClampNeg n.toNatClampNeg))))[q]? = H[q]? := fun q hq => by simp [Array.getElem?_setIfInBounds, Ne.symm hq]
      obtain ⟨t, a1, b1⟩ := kk _ _ lsM (xO_upd (c := .inr (0, n1, va_cpy f g sp.toNatClampNeg dp.toNatClampNeg n.toNatClampNeg)) hO hca (xgv_inr (by omega)) (xgv_inr (by omega)) (show (H.setIfInBounds (xad G a) _)[xad G a]? = some _ by simp [Array.getElem?_setIfInBounds, hla]) (by simp) oq) ⟨by simp; exact hS.1, fun q g1 g2 => by
          rw [oq q (fun e => g2 (by rw [e]; exact xad_A ha7))]
          exact hS.2.1 q g1 g2, fun q hq => by
          rcases List.mem_append.mp hq with h | h
          · exact hS.2.2 q h
          · obtain ⟨z, -, hz⟩ := List.mem_map.mp h
            rw [← hz]
            exact xad_A ha7⟩ hl hn _ hheap X'
      exact ⟨t, step t a1, b1⟩
    · cases ha
  · cases ha
-- calls
theorem xsum_1 (G : xG) : ∀ (st : List Value), st.all xc1 = true → ((st.map (xv G)).map fun v => v.category).sum ≤ st.length
  | [], _ => Nat.le_refl _
  | v :: t, h => by
    simp only [List.all_cons, Bool.and_eq_true] at h
    have h1 := xsum_1 G t h.2
    have h0 := h.1
    have h2 : (xv G v).category ≤ 1 := by
      rw [xv_cat]
      cases v <;> first | exact Nat.le_refl _ | (simp [xc1] at h0)
    simp only [List.map_cons, List.sum_cons, List.length_cons]
    omega
theorem xlow_sum (G : xG) {z : List Value} (h : xlow z = true) : ((z.map (xv G)).map fun v => v.category).sum ≤ 8 := by
  unfold xlow at h
  simp only [Bool.or_eq_true, Bool.and_eq_true, decide_eq_true_eq] at h
  rcases h with h | ⟨h1, h2⟩
  · have := xsum_le G z
    omega
  · have := xsum_1 G z h2
    omega
theorem xCall_some {k' : Nat} {b : xRes ⊕ xCa} (ha : xCall k pc k' ls st h nc ns = some (.inr b)) : (xna k' ≤ st.length ∧ xlow (st.drop (xna k')) = true ∧ xmf k' + 1 ≤ xmf k ∧ 8 + (xml k' + 11) + xmo k' ≤ xmo k) ∧ ((nc + xmc k' ≤ xmc k ∧ ns + xms k' ≤ xms k) ∧ (lg_sl ((st.take (xna k')).reverse)).length ≤ xml k') ∧ b = .inr (k', (st.take (xna k')).reverse, pc, ls, st.drop (xna k'), h, nc, ns) := by
  obtain ⟨h1, h2⟩ := xif_some ha
  simp only [Bool.and_eq_true, decide_eq_true_eq] at h1
  refine ⟨h1.1.1, ⟨xroom_ok h1.2, by rw [← xArg_len]; exact h1.1.2⟩, ?_⟩
  cases h2
  rfl
theorem xcw_code {k' : Nat} (h : xmh k' = []) : xcw k' = .code (xmn k') (xmb k') (xml k') (xmr k') := if_pos h
theorem xcw_with {k' : Nat} (h : xmh k' ≠ []) : xcw k' = .codeWith (xmn k') (xmb k') (xml k') (xmr k') (xmh k') := if_neg h
abbrev xRun (G : xG) (k' : Nat) (r : xRes) (p : Program) (l : Launch) (e : Env) (R : Room) (s : State) (m : MethodId) (args : Array Value) (below : List Frame) (meth : Method) (c : Code) (H : Heap) (locs : List Loc) (nc ns pc : Nat) (lsM : Array Slot) (stM rest : List Value) : Prop :=
  vx_Run p l e R s m args below meth c H locs nc ns (xmc k') (xms k') (F0 m pc lsM stM) rest (xQc G r #[]) (xXC G r) (xAr G)
theorem xfin_ret {k' : Nat} {v : Option Value} {h' : xHp} {stM : List Value} {rest : List Value} (hr : xRun G k' (.inl v, h') p l e R s m args below meth c H locs nc ns pc lsM stM (rest.map (xv G))) (hS : va_S (xAr G) s.heap H locs)
    (kk : ∀ (H' : Heap) (locs' : List Loc), xO G h' H' → va_S (xAr G) s.heap H' locs' → W p l e R s m args below meth c H' locs' (nc + xmc k') (ns + xms k') Q (F0 m (pc + 3) lsM ((xPush v rest).map (xv G)))) : W p l e R s m args below meth c H locs nc ns Q (F0 m pc lsM stM) := by
  intro T hT X
  rcases hr T hT X with ⟨v0, st₀, t, T', L, h0, X', hL, e1, e2, ⟨hv, hO', hF⟩, st⟩ | ⟨q, st₀, t, T', L, E, ce, h0, X', hL, e1, e2, hq, hce, hcv, hcl, st⟩
  · obtain ⟨k1, k2, k3⟩ := vx_keep (A0 := xAr G) (A1 := xAr G) (free := xAr G) (H0 := s.heap) h0 e1 hS (fun _ _ h => h) (fun _ h => h) hL hF
    have hv' : v0 = v.map (xv G) := Outcome.returned.inj hv
    obtain ⟨t2, a1, b1⟩ := kk T'.heap (locs ++ L) (by rw [e1]; exact hO') k3 T' rfl X'
    refine ⟨t2, st t2 ?_, b1⟩
    subst hv'
    cases v <;> exact a1
  · exact hq.elim
theorem xfin_thr {k' E : Nat} {h' : xHp} {stM : List Value} {rest : List Value} (hr : xRun G k' (.inr E, h') p l e R s m args below meth c H locs nc ns pc lsM stM (rest.map (xv G))) (hS : va_S (xAr G) s.heap H locs)
    (kx : ∀ (H' : Heap) (locs' : List Loc) (q : Addr) (ce : Cell), E < 3 → xO G h' H' → va_S (xAr G) s.heap H' locs' → H'[q]? = some ce → ce.vm = .none → s.vm.findClass (xen E) = some ce.cls → vx_W p l e R s m args below meth c H' locs' (nc + xmc k') (ns + xms k') Q (F0 m pc lsM (rest.map (xv G))) q) : W p l e R s m args below meth c H locs nc ns Q (F0 m pc lsM stM) := by
  intro T hT X
  rcases hr T hT X with ⟨v0, st₀, t, T', L, h0, X', hL, e1, e2, hq, st⟩ | ⟨q, st₀, t, T', L, E', ce, h0, X', hL, e1, e2, ⟨hE, hEn, hO', hF⟩, hce, hcv, hcl, st⟩
  · exact hq.elim
  · obtain ⟨k1, k2, k3⟩ := vx_keep (A0 := xAr G) (A1 := xAr G) (free := xAr G) (H0 := s.heap) h0 e1 hS (fun _ _ h => h) (fun _ h => h) hL hF
    obtain ⟨t2, a1, b1⟩ := kx T'.heap (locs ++ L) q ce hE (by rw [e1]; exact hO') k3 (by rw [e1]; exact hce) hcv (by rw [← hEn]; exact hcl) T' rfl X'
    exact ⟨t2, st.trans a1, b1⟩
theorem xCon_met {k' : Nat} {as : List Value} {v : Option Value} {h' : xHp} (hc : xCon G l k' as h (.inl v, h')) : Met l (xmn k') (xcw k' :: xgt) (xrm k') (xPc G as h) (xQc G (.inl v, h')) (xmc k') (xms k') (xAr G) :=
  MetFree.mono hc (fun _ _ h => h) (fun _ _ _ _ _ h => h) (fun _ _ _ _ _ hq => hq.elim id (fun ⟨_, _, _, _, _, hx, _⟩ => hx.elim))
theorem xst_split (st : List Value) (n : Nat) : st = ((st.take n).reverse).reverse ++ st.drop n := by rw [List.reverse_reverse, List.take_append_drop]
theorem xstM_split (G : xG) (st : List Value) (n : Nat) : st.map (xv G) = (((st.take n).reverse).map (xv G)).reverse ++ (st.drop n).map (xv G) := by
  rw [← List.map_reverse, List.reverse_reverse, ← List.map_append, List.take_append_drop]
theorem xPre {U : State} {as : List Value} (hK : xKn G s) (hO : xO G h H) (hS : va_S (xAr G) s.heap H locs) (hU : U.heap = H) (hW : s.WarmedH U.vm) : xPc G as h (as.map (xv G)).toArray U :=
  ⟨rfl, xKn_step hK hW (by rw [hU]; exact hS), by rw [hU]; exact hO⟩
theorem xrun_any {Qa Qb : State → Outcome → State → Prop} {XC : String → State → State → Prop} {mc ms : Nat} {g : JFrame} {rest : List Value} {free : Addr → Prop} (hr : va_Run p l e R s m args below meth c H locs nc ns mc ms g rest Qa free) (hq : ∀ a b d, Qa a b d → Qb a b d) : vx_Run p l e R s m args below meth c H locs nc ns mc ms g rest Qb XC free := by
  intro T hT X
  obtain ⟨v, st₀, t, T', L, h0, X', hL, e1, e2, q, st⟩ := hr T hT X
  exact Or.inl ⟨v, st₀, t, T', L, h0, X', hL, e1, e2, hq _ _ _ q, st⟩
theorem xcall {i : Instr} {b : xRes ⊕ xCa} (hd : decode (xmb k) pc = .ok (i, 3)) (ha : xAct k pc i 3 ls st h nc ns = some (.inr b)) (hi : (∃ ix, i = .invokevirtual ix) ∨ (∃ ix, i = .invokestatic ix) ∨ (∃ ix, i = .invokespecial ix)) (A : xAt G l k p R s m args meth c) (hO : xO G h H) (hS : va_S (xAr G) s.heap H locs) (hl : xlr G ls lsM (xml k)) (hn : nc ≤ xmc k ∧ ns ≤ xms k) :
    ∃ k' as rest, b = .inr (k', as, pc, ls, rest, h, nc, ns) ∧ k' < xN ∧ k' ≠ 143 ∧ ((nc + xmc k' ≤ xmc k ∧ ns + xms k' ≤ xms k) ∧ (lg_sl as).length ≤ xml k') ∧ ((xkd k' = 1 → xmh k' = []) ∧ ∀ r : xRes, (xkd k' = 1 ∨ ∃ v h', r = (.inl v, h')) → xCon G l k' as h r → xRun G k' r p l e R s m args below meth c H locs nc ns pc lsM (st.map (xv G)) (rest.map (xv G))) := by
  obtain ⟨hx, hb, hml, hr, hlk, hnm, hown, htb, hts, hR, hK, hfl⟩ := A
  have hFix : CallFix p m c (xmb k) (xml k) s args xgt (xcn (xmk k)) := ⟨hx, hb, hml, hown, hts⟩
  have hsum : ∀ z : List Value, xlow z = true → 2 * (F0 m pc lsM (st.map (xv G))).monitorRoom + ((z.map (xv G)).map fun v => v.category).sum ≤ 8 := fun z hz => by
    have := xlow_sum G hz
    show 2 * 0 + _ ≤ 8
    omega
  -- what the methods' table says
  have ok : ∀ {k' : Nat}, k' < xN → k' ≠ 143 → GoodIn xgt (xcw k' :: xgt) := fun h1 h2 => xgoodIn (fun w hw => (List.mem_cons.mp hw).elim (fun e => by rw [e]; exact xw_all _ h1 h2) id)
  have ini : ∀ {k' : Nat}, k' < xN → (Cond.initialized (xmn k').cls).before args s = true := fun h1 => by
    rw [(xm_ok h1).2.2.1]
    exact hts _ (xm_ok h1).2.1
  rcases hi with ⟨ix, rfl⟩ | ⟨ix, rfl⟩ | ⟨ix, rfl⟩
  · obtain ⟨-, ha1⟩ := xq_some ha
    obtain ⟨r, hr1, ha2⟩ := Option.bind_eq_some_iff.mp ha1
    obtain ⟨k', md, pa, pb, pd, rfl, hok⟩ := xcR_ok hr1
    unfold xInv at ha2
    split at ha2 <;> (try (simp at *; done))
    · next _ _ hmd =>
      simp only at hmd
      subst hmd
      dsimp only at ha2
      simp only [xcOk, Bool.and_eq_true, decide_eq_true_eq] at hok
      obtain ⟨o1, o2, o3, o4, o5, o6, o7, o8, o9⟩ := hok
      obtain ⟨hrc, ha3⟩ := xif_some ha2
      obtain ⟨⟨c1, c2, c3, c4⟩, c5, rfl⟩ := xCall_some ha3
      refine ⟨k', _, _, rfl, o7, o8, c5, fun _ => o6, fun r _ hcon => ?_⟩
      have hcon' := hcon
      unfold xCon at hcon'
      rw [xcw_code o6] at hcon'
      have hG := ok o7 o8
      rw [xcw_code o6] at hG
      obtain ⟨hp1, hp2, hp3, hp4, hp5⟩ := xm_ok o7
      -- the receiver
      generalize has : (st.take (xna k')).reverse = as at hrc hcon' c5
      match as, hrc, has, hcon', c5 with
      | .ref b0 :: as', hrc, has, hcon', c5 =>
        have hrc2 : (match xgO h b0 with | some o => decide (o.1 = xmk k') | none => false) = true := hrc
        cases hgo : xgO h b0 with
        | none => rw [hgo] at hrc2; cases hrc2
        | some o =>
          rw [hgo] at hrc2
          have ho1 : o.1 = xmk k' := of_decide_eq_true hrc2
          obtain ⟨t, vs⟩ := o
          simp only at ho1
          subst ho1
          have hc := xgO_some hgo
          have hl1 : as'.length = xna k' - 1 := by
            have := congrArg List.length has
            simp [List.length_take] at this
            omega
          have hrecv := va_recv hK.1 hO.1 (xcl0_at o9) (by have := xO_cell hO hc rfl; rw [xE_obj o9] at this; exact this)
          rw [xcT_cn o9, ← hp3] at hrecv
          have hsplit := xstM_split G st (xna k')
          rw [has, List.map_cons, List.reverse_cons, List.append_assoc] at hsplit
          exact vx_runV (As := as'.map (xv G)) hFix hcon' ⟨callB_of (xna k' - 1) hts hG rfl rfl rfl (ini o7) (hts _ (xg_in o1 rfl)) ⟨hp4.1, hp4.2, o4⟩ ⟨by show xmf k' + 1 ≤ _; omega, by show 8 + (xml k' + 11) + xmo k' ≤ _; omega⟩, hts _ (xg_in o2 rfl), hts _ (xg_in o3 rfl)⟩
            ⟨xPc_blind G _ _, hrecv, fun U hU hW => xPre hK hO hS hU hW⟩ rfl (by rw [List.length_map]; exact hl1) hl.1.1 hsplit (hsum _ c2) hd ⟨by omega, by omega⟩
  · obtain ⟨-, ha1⟩ := xq_some ha
    obtain ⟨r, hr1, ha2⟩ := Option.bind_eq_some_iff.mp ha1
    obtain ⟨k', md, pa, pb, pd, rfl, hok⟩ := xcR_ok hr1
    unfold xInv at ha2
    split at ha2 <;> (try (simp at *; done))
    · next _ _ hmd =>
      simp only at hmd
      subst hmd
      dsimp only at ha2
      simp only [xcOk, Bool.and_eq_true, decide_eq_true_eq] at hok
      obtain ⟨o1, o2, o4, o6, o7, o8⟩ := hok
      obtain ⟨⟨c1, c2, c3, c4⟩, c5, rfl⟩ := xCall_some ha2
      refine ⟨k', _, _, rfl, o7, o8, c5, fun _ => o6, fun r _ hcon => ?_⟩
      have hcon' := hcon
      unfold xCon at hcon'
      rw [xcw_code o6] at hcon'
      have hG := ok o7 o8
      rw [xcw_code o6] at hG
      obtain ⟨hp1, hp2, hp3, hp4, hp5⟩ := xm_ok o7
      exact vx_runS (As := ((st.take (xna k')).reverse).map (xv G)) hFix hcon' ⟨callB_of (xna k') hts hG rfl rfl rfl (ini o7) (hts _ (xg_in o1 rfl)) ⟨hp4.1, hp4.2, o4⟩ ⟨by show xmf k' + 1 ≤ _; omega, by show 8 + (xml k' + 11) + xmo k' ≤ _; omega⟩, hts _ (xg_in o2 rfl)⟩
        ⟨xPc_blind G _ _, fun U hU hW => xPre hK hO hS hU hW⟩ rfl (by simp [List.length_take]; omega) hl.1.1 (xstM_split G st (xna k')) (hsum _ c2) hd ⟨by omega, by omega⟩
    · next _ _ hmd =>
      simp only at hmd
      subst hmd
      dsimp only at ha2
      simp only [xcOk, Bool.and_eq_true, decide_eq_true_eq] at hok
      obtain ⟨o1, o2, o4, ⟨o6, o6'⟩, o7, o8⟩ := hok
      obtain ⟨⟨c1, c2, c3, c4⟩, c5, rfl⟩ := xCall_some ha2
      refine ⟨k', _, _, rfl, o7, o8, c5, fun _ => o6, fun r hr0 hcon => ?_⟩
      rcases hr0 with hr0 | ⟨v, h', rfl⟩
      · omega
      have hcon' := xCon_met hcon
      rw [xcw_code o6] at hcon'
      have hG := ok o7 o8
      rw [xcw_code o6] at hG
      obtain ⟨hp1, hp2, hp3, hp4, hp5⟩ := xm_ok o7
      exact xrun_any (va_runSN (As := ((st.take (xna k')).reverse).map (xv G)) (host := "SpoonCards") hFix hcon' ⟨va_cnB (xna k') hts hG rfl rfl rfl (hK.2.2.2.1 _ (xnes_in o1 rfl)) (ini o7) ⟨hp4.1, hp4.2, o4⟩ ⟨by show xmf k' + 1 ≤ _; omega, by show 8 + (xml k' + 11) + xmo k' ≤ _; omega⟩, hts _ (xg_in o2 rfl), trivial⟩
        ⟨xPc_blind G _ _, fun U hU hW => xPre hK hO hS hU hW⟩ rfl (by simp [List.length_take]; omega) hl.1.1 (xstM_split G st (xna k')) (hsum _ c2) hd ⟨by omega, by omega⟩) (fun _ _ _ q => q)
    · next _ _ hmd =>
      exfalso
      unfold xCopy at ha2
      split at ha2
      · split at ha2
        · have := (xif_some ha2).2
          cases this
        · cases ha2
      · cases ha2
    · next _ _ hmd =>
      simp only at hmd
      subst hmd
      dsimp only at ha2
      simp only [xcOk, Bool.and_eq_true, decide_eq_true_eq] at hok
      obtain ⟨o1, o2, o4, o6, o7, o8⟩ := hok
      obtain ⟨⟨c1, c2, c3, c4⟩, c5, rfl⟩ := xCall_some ha2
      refine ⟨k', _, _, rfl, o7, o8, c5, fun hk => ((xm_ok o7).2.2.2.2.resolve_right (by omega)), fun r _ hcon => ?_⟩
      have hcon' := hcon
      unfold xCon at hcon'
      rw [xcw_with o6] at hcon'
      have hG := ok o7 o8
      rw [xcw_with o6] at hG
      obtain ⟨hp1, hp2, hp3, hp4, hp5⟩ := xm_ok o7
      have hT : GoodIn xgt (va_wsS (xcn (xmk k)) ix (xmn k') (Cond.codeWith (xmn k') (xmb k') (xml k') (xmr k') (xmh k') :: xgt)) := by
        refine xgoodIn (fun w hw => ?_)
        unfold va_wsS at hw
        rcases List.mem_append.mp hw with hw | hw
        · simp only [List.mem_cons, List.not_mem_nil, or_false] at hw
          rcases hw with rfl | rfl | rfl
          · exact xg_in o1 rfl
          · exact xg_in o2 rfl
          · rw [hp3]; exact hp2
        · exact ((hG w hw).1)
      exact vx_runSX (As := ((st.take (xna k')).reverse).map (xv G)) hFix hcon' (vx_cwSW (xna k') hts hT rfl rfl rfl ⟨hp4.1, hp4.2, o4⟩ ⟨by show xmf k' + 1 ≤ _; omega, by show 8 + (xml k' + 11) + xmo k' ≤ _; omega⟩)
        ⟨xPc_blind G _ _, fun U hU hW => xPre hK hO hS hU hW⟩ rfl (by simp [List.length_take]; omega) hl.1.1 (xstM_split G st (xna k')) (hsum _ c2) hd ⟨by omega, by omega⟩
    · exfalso
      obtain ⟨q, -, h2⟩ := Option.bind_eq_some_iff.mp ha2
      have := (xif_some h2).2
      cases this
    · exfalso
      obtain ⟨q, -, h2⟩ := Option.bind_eq_some_iff.mp ha2
      have := (xif_some h2).2
      cases this
    · exfalso
      obtain ⟨q, -, h2⟩ := Option.bind_eq_some_iff.mp ha2
      have := (xif_some h2).2
      cases this
  · obtain ⟨-, ha1⟩ := xq_some ha
    obtain ⟨r, hr1, ha2⟩ := Option.bind_eq_some_iff.mp ha1
    obtain ⟨k', md, pa, pb, pd, rfl, hok⟩ := xcR_ok hr1
    unfold xInv at ha2
    split at ha2 <;> (try (simp at *; done))
    · next _ _ hmd =>
      simp only at hmd
      subst hmd
      dsimp only at ha2
      simp only [xcOk, Bool.and_eq_true, decide_eq_true_eq] at hok
      obtain ⟨o1, o2, ⟨o3, o3'⟩, o4, o5, ⟨o6, o6'⟩, o7, o8⟩ := hok
      obtain ⟨hrc, ha3⟩ := xif_some ha2
      obtain ⟨⟨c1, c2, c3, c4⟩, c5, rfl⟩ := xCall_some ha3
      refine ⟨k', _, _, rfl, o7, o8, c5, fun _ => o6, fun r hr0 hcon => ?_⟩
      rcases hr0 with hr0 | ⟨v, h', rfl⟩
      · omega
      have hcon' := xCon_met hcon
      rw [xcw_code o6, o3'] at hcon'
      have hG := ok o7 o8
      rw [xcw_code o6, o3'] at hG
      obtain ⟨hp1, hp2, hp3, hp4, hp5⟩ := xm_ok o7
      generalize has : (st.take (xna k')).reverse = as at hrc hcon' c5
      match as, hrc, has, hcon', c5 with
      | .ref b0 :: as', hrc, has, hcon', c5 =>
        have hl1 : as'.length = xna k' - 1 := by
          have := congrArg List.length has
          simp [List.length_take] at this
          omega
        have hsplit := xstM_split G st (xna k')
        rw [has, List.map_cons, List.reverse_cons, List.append_assoc] at hsplit
        exact xrun_any (va_runI (As := as'.map (xv G)) hFix hcon' (cwI (xna k' - 1) hts hG rfl rfl rfl (ini o7) (hts _ (xg_in o1 rfl)) (hts _ (xg_in o2 rfl)) o3 ⟨hp4.1, hp4.2, o4⟩ ⟨by show xmf k' + 1 ≤ _; omega, by show 8 + (xml k' + 11) + xmo k' ≤ _; omega⟩)
          ⟨xPc_blind G _ _, fun U hU hW => xPre hK hO hS hU hW⟩ rfl (by rw [List.length_map]; exact hl1) hl.1.1 hsplit (hsum _ c2) hd ⟨by omega, by omega⟩) (fun _ _ _ q => q)
    · next _ _ hmd =>
      simp only at hmd
      subst hmd
      dsimp only at ha2
      simp only [xcOk, Bool.and_eq_true, decide_eq_true_eq] at hok
      obtain ⟨o1, o2, ⟨o3, o3'⟩, o4, o5, ⟨o6, o6'⟩, o7, o8⟩ := hok
      obtain ⟨hrc, ha3⟩ := xif_some ha2
      obtain ⟨⟨c1, c2, c3, c4⟩, c5, rfl⟩ := xCall_some ha3
      refine ⟨k', _, _, rfl, o7, o8, c5, fun _ => o6, fun r hr0 hcon => ?_⟩
      rcases hr0 with hr0 | ⟨v, h', rfl⟩
      · omega
      have hcon' := xCon_met hcon
      rw [xcw_code o6, o3'] at hcon'
      have hG := ok o7 o8
      rw [xcw_code o6, o3'] at hG
      obtain ⟨hp1, hp2, hp3, hp4, hp5⟩ := xm_ok o7
      generalize has : (st.take (xna k')).reverse = as at hrc hcon' c5
      match as, hrc, has, hcon', c5 with
      | .ref b0 :: as', hrc, has, hcon', c5 =>
        have hl1 : as'.length = xna k' - 1 := by
          have := congrArg List.length has
          simp [List.length_take] at this
          omega
        have hsplit := xstM_split G st (xna k')
        rw [has, List.map_cons, List.reverse_cons, List.append_assoc] at hsplit
        exact xrun_any (va_runIN (As := as'.map (xv G)) (host := "SpoonCards") hFix hcon' ⟨va_cnB (xna k' - 1) hts hG rfl rfl rfl (hK.2.2.2.1 _ (xnes_in o1 rfl)) (ini o7) ⟨hp4.1, hp4.2, o4⟩ ⟨by show xmf k' + 1 ≤ _; omega, by show 8 + (xml k' + 11) + xmo k' ≤ _; omega⟩, o3, hts _ (xg_in o2 rfl)⟩
          ⟨xPc_blind G _ _, fun U hU hW => xPre hK hO hS hU hW⟩ rfl (by rw [List.length_map]; exact hl1) hl.1.1 hsplit (hsum _ c2) hd ⟨by omega, by omega⟩) (fun _ _ _ q => q)
    · exfalso
      obtain ⟨q, -, h2⟩ := Option.bind_eq_some_iff.mp ha2
      have := (xif_some h2).2
      cases this
end XC
