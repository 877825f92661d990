section XJ2
variable {G : xG} {k pc len nc ns : Nat} {ls : xLs} {st : List Value} {h : xHp} {p : Program} {l : Launch} {e : Env} {R : Room} {s : State} {m : MethodId} {args : Array Value} {below : List Frame} {meth : Method} {c : Code} {H : Heap} {locs : List Loc} {lsM : Array Slot} {Q : State → Prop}
theorem xad_ge {G : xG} {a : Nat} (h : a < 7) : xv G (.ref a) = .ref (xgv G a) := by
  show Value.ref (xad G a) = _
  rw [xad, if_pos h]
theorem xE_obj {G : xG} {t : Nat} {vs : List Value} (h : t < 5) : xE G (.inl (t, vs)) = .inr (t, vs.map (xv G)) := by
  show (if t = 21 then _ else if t = 22 then _ else _) = _
  rw [if_neg (by omega), if_neg (by omega)]
theorem xE_lng {G : xG} {vs : List Value} : xE G (.inl (21, vs)) = .inl (xca G 3, vs.length, .inr (.inl fun j => xlg (vs.getD j .null))) := rfl
theorem xE_ref {G : xG} {vs : List Value} : xE G (.inl (22, vs)) = .inl (xca G 4, vs.length, .inr (.inr (.inr (.inr fun j => xrf G (vs.getD j .null))))) := rfl
theorem xO_cell {G : xG} {h : xHp} {H : Heap} {a : Nat} {c0 : xCel} (hO : xO G h H) (hc : h.2[a]? = some c0) (h0 : xgvn c0 = false) : (xW G h.2)[a - 7]? = some (xad G a, xE G c0) := xW_get hc (xO_7 hO hc h0)
theorem xgv_inr {t n : Nat} {f : Nat → Int32} (h : t < 10) : xgvn (.inr (t, n, f)) = false := decide_eq_false (by omega)
theorem xgv_inr' {t n : Nat} {f : Nat → Int32} (h : 10 ≤ t) : xgvn (.inr (t, n, f)) = true := decide_eq_true h
theorem arrV_upd (cA : ClassId) (n i : Nat) (f : Nat → Int32) (x : Int32) : (vp_cell cA (n, .inl f)).setSlot i (.int x) = vp_cell cA (n, .inl (upd f i x)) := by
  rw [vp_cell_i, vp_cell_i, arrV_store]
  congr 1
  funext j
  by_cases hj : j = i
  · subst hj; simp [updV, upd]
  · simp [updV, upd, hj]
theorem xj_getfield {ix : Nat} {j : xJ} (hd : decode (xmb k) pc = .ok (.getfield ix, len)) (ha : xAct k pc (.getfield ix) len ls st h nc ns = some (.inl j)) (A : xAt G l k p R s m args meth c) (hO : xO G h H) (hS : va_S (xAr G) s.heap H locs) (hl : xlr G ls lsM (xml k)) (hn : nc ≤ xmc k ∧ ns ≤ xms k)
    (kk : ∀ (H' : Heap) (locs' : List Loc) (lsM' : Array Slot), xO G j.2.2.2.1 H' → va_S (xAr G) s.heap H' locs' → xlr G j.2.1 lsM' (xml k) → j.2.2.2.2.1 ≤ xmc k ∧ j.2.2.2.2.2 ≤ xms k → W p l e R s m args below meth c H' locs' j.2.2.2.2.1 j.2.2.2.2.2 Q (F0 m j.1 lsM' (j.2.2.1.map (xv G)))) : W p l e R s m args below meth c H locs nc ns Q (F0 m pc lsM (st.map (xv G))) := by
  obtain ⟨hx, hb, hml, hr, hlk, hnm, hown, htb, hts, hR, hK, hfl⟩ := A
  obtain ⟨rfl, ha1⟩ := xq_some ha
  obtain ⟨q, hp, ha2⟩ := Option.bind_eq_some_iff.mp ha1
  obtain rfl := xpR_some hp
  obtain ⟨tf, hf, ha3⟩ := Option.bind_eq_some_iff.mp ha2
  obtain ⟨ob, ho, ha4⟩ := Option.bind_eq_some_iff.mp ha3
  obtain ⟨ht, ha5⟩ := xif_some ha4
  obtain ⟨v, hv, ha6⟩ := Option.bind_eq_some_iff.mp ha5
  obtain rfl := xGo_some ha6
  obtain ⟨t, i⟩ := tf
  obtain ⟨t', vs⟩ := ob
  simp only at ht hv
  subst ht
  obtain ⟨h1, h2, h3⟩ := xfR_ok hf
  have hc := xgO_some ho
  have he := xO_cell hO hc rfl
  rw [xE_obj h2] at he
  exact va_get hx hb hts (xcT_in h2) hown hK.1 hO.1 _ he (xcl0_at h2) i h1 (hts _ h3) (fun x hx0 => by rw [xcT_own h2 i h1] at hx0; exact hx0) (v := xv G v) (by rw [List.getElem?_map, hv]; rfl) hd (kk H locs lsM hO hS hl hn)
theorem xj_putfield {ix : Nat} {j : xJ} (hd : decode (xmb k) pc = .ok (.putfield ix, len)) (ha : xAct k pc (.putfield ix) len ls st h nc ns = some (.inl j)) (A : xAt G l k p R s m args meth c) (hO : xO G h H) (hS : va_S (xAr G) s.heap H locs) (hl : xlr G ls lsM (xml k)) (hn : nc ≤ xmc k ∧ ns ≤ xms k)
    (kk : ∀ (H' : Heap) (locs' : List Loc) (lsM' : Array Slot), xO G j.2.2.2.1 H' → va_S (xAr G) s.heap H' locs' → xlr G j.2.1 lsM' (xml k) → j.2.2.2.2.1 ≤ xmc k ∧ j.2.2.2.2.2 ≤ xms k → W p l e R s m args below meth c H' locs' j.2.2.2.2.1 j.2.2.2.2.2 Q (F0 m j.1 lsM' (j.2.2.1.map (xv G)))) : W p l e R s m args below meth c H locs nc ns Q (F0 m pc lsM (st.map (xv G))) := by
  obtain ⟨hx, hb, hml, hr, hlk, hnm, hown, htb, hts, hR, hK, hfl⟩ := A
  obtain ⟨rfl, ha1⟩ := xq_some ha
  obtain ⟨q, hp, ha2⟩ := Option.bind_eq_some_iff.mp ha1
  obtain rfl := xpRV_some hp
  obtain ⟨tf, hf, ha3⟩ := Option.bind_eq_some_iff.mp ha2
  obtain ⟨ob, ho, ha4⟩ := Option.bind_eq_some_iff.mp ha3
  obtain ⟨ht, ha5⟩ := xif_some ha4
  obtain rfl := xGo_some ha5
  obtain ⟨t, i⟩ := tf
  obtain ⟨t', vs⟩ := ob
  obtain ⟨a, v, st⟩ := q
  simp only [xput, Bool.and_eq_true, decide_eq_true_eq, Bool.or_eq_true, Bool.not_eq_true'] at ht
  obtain ⟨⟨rfl, hil⟩, hfit, hfin⟩ := ht
  obtain ⟨h1, h2, h3⟩ := xfR_ok hf
  have hc := xgO_some ho
  have he := xO_cell hO hc rfl
  rw [xE_obj h2] at he
  obtain ⟨f1, f2⟩ := xfit_ok (G := G) hfit
  have hap := va_apart (own := xcn (xmk k)) hts (xcT_in h2) (xty t') (xcT_ty h2) (xcT_nm h2) hK.1 (xcl0_at h2)
  obtain ⟨r, e1, cell, q1, q2, q3, q4⟩ := hO.1 _ _ he
  have hr : r = xcT t' := Option.some.inj (e1.symm.trans (xcl0_at h2))
  subst hr
  obtain ⟨hSl, hfc, kC, hkC, hkind⟩ := hK.1.1 t' _ (xcl0_at h2)
  obtain ⟨cf, kf, fi, fd, hi, hsl⟩ := hSl i h1
  have hlay := hts _ (xcT_in h2 _ (u_in_lay h1))
  have hst := (u_facts hfc hkC (u_lays hts (xcT_in h2) h1) hi).1
  have hi' : s.fieldFound? (xcT t').1 ((xcT t').2.1 i).2.1 ((xcT t').2.1 i).2.2.1 = some (cf, kf, fi, fd) := by rw [← xcT_own h2 i h1]; exact hi
  have h7 := xO_7 hO hc rfl
  have fin : ∀ H1 : Heap, H1[xad G a]? = some (cell.setSlot fd.slot (xv G v)) → H1.size = H.size → (∀ q : Nat, q ≠ xad G a → H1[q]? = H[q]?) → W p l e R s m args below meth c H1 (locs ++ [⟨xad G a, fd.slot⟩]) nc ns Q (F0 m (pc + 3) lsM (st.map (xv G))) := by
    intro H1 e2 z o2
    rw [hsl] at e2
    refine kk H1 _ lsM (xO_upd hO hc rfl rfl ?_ z o2) (hS.put z o2 (xad_A h7)) hl hn
    rw [xE_obj h2]
    refine ⟨xcT t', xcl0_at h2, t_OB.to (V := updV (vp_V (vs.map (xv G))) i (xv G v)) ⟨_, e2, q2, q3, t_set q4 hap h1 _⟩ (fun j _ => ?_)⟩
    rw [List.map_set]
    exact vp_updV_set (by rw [List.length_map]; exact hil) _ j
  cases hff : ((xcT t').2.1 i).2.2.2 with
  | false =>
    unfold u_lay at hlay
    rw [if_neg (by rw [hff]; decide)] at hlay
    have h6 := u_store hfc hkC hkind hlay hi (xcT_ty h2 i h1) f1 f2
    exact W.putK hx hb (f := fd) ⟨hown, hts _ h3, ⟨_, _, _, hi'⟩, hst⟩ (by rw [q2]; exact h6) q1 q3 (by rw [hsl]; exact k2_hasslot (q4 i h1)) rfl rfl hd fin
  | true =>
    rcases hfin with hfin | ⟨hini, hcls⟩
    · rw [hff] at hfin; cases hfin
    · unfold u_lay at hlay
      rw [if_pos hff] at hlay
      have hcf : m.cls = cf := by
        obtain ⟨_, _, c', _, _, _, -, -, hf', -, -, -, hown2, -⟩ := Cond.laysFinal_spec hlay
        have e1 : c' = cf := by have := hi.symm.trans hf'; simp at this; exact this.1.symm
        rw [xcT_own h2 i h1, xcT_cn h2, hcls] at hown2
        rw [← e1]; exact Option.some.inj (hown.symm.trans hown2)
      have h6 := u_fits hfc hkC hkind (Or.inr hlay) hi (xcT_ty h2 i h1) f1 f2
      exact W.putFinK hx hb hown (hts _ h3) hi' hst hcf (hnm hini) (by rw [q2]; exact h6) q1 q3 (by rw [hsl]; exact k2_hasslot (q4 i h1)) rfl rfl hd fin
theorem xj_getstatic {ix : Nat} {j : xJ} (hd : decode (xmb k) pc = .ok (.getstatic ix, len)) (ha : xAct k pc (.getstatic ix) len ls st h nc ns = some (.inl j)) (A : xAt G l k p R s m args meth c) (hO : xO G h H) (hS : va_S (xAr G) s.heap H locs) (hl : xlr G ls lsM (xml k)) (hn : nc ≤ xmc k ∧ ns ≤ xms k)
    (kk : ∀ (H' : Heap) (locs' : List Loc) (lsM' : Array Slot), xO G j.2.2.2.1 H' → va_S (xAr G) s.heap H' locs' → xlr G j.2.1 lsM' (xml k) → j.2.2.2.2.1 ≤ xmc k ∧ j.2.2.2.2.2 ≤ xms k → W p l e R s m args below meth c H' locs' j.2.2.2.2.1 j.2.2.2.2.2 Q (F0 m j.1 lsM' (j.2.2.1.map (xv G)))) : W p l e R s m args below meth c H locs nc ns Q (F0 m pc lsM (st.map (xv G))) := by
  obtain ⟨hx, hb, hml, hr, hlk, hnm, hown, htb, hts, hR, hK, hfl⟩ := A
  obtain ⟨rfl, ha1⟩ := xq_some ha
  obtain ⟨g, hg, ha2⟩ := Option.bind_eq_some_iff.mp ha1
  obtain rfl := xGo_some ha2
  obtain ⟨h1, h2, h3⟩ := xsR_ok hg
  have hk := kk H locs lsM hO hS hl hn
  rw [List.map_cons, xad_ge h2] at hk
  exact va_getsN hx hb (hK.2.2.1 g h1 h2) hS hown ((hK.2.2.2.1 _ h3).use rfl) (fun x hx0 => hx0) hd hk
theorem xj_iaload {j : xJ} (hd : decode (xmb k) pc = .ok (.iaload, len)) (ha : xAct k pc (.iaload) len ls st h nc ns = some (.inl j)) (A : xAt G l k p R s m args meth c) (hO : xO G h H) (hS : va_S (xAr G) s.heap H locs) (hl : xlr G ls lsM (xml k)) (hn : nc ≤ xmc k ∧ ns ≤ xms k)
    (kk : ∀ (H' : Heap) (locs' : List Loc) (lsM' : Array Slot), xO G j.2.2.2.1 H' → va_S (xAr G) s.heap H' locs' → xlr G j.2.1 lsM' (xml k) → j.2.2.2.2.1 ≤ xmc k ∧ j.2.2.2.2.2 ≤ xms k → W p l e R s m args below meth c H' locs' j.2.2.2.2.1 j.2.2.2.2.2 Q (F0 m j.1 lsM' (j.2.2.1.map (xv G)))) : W p l e R s m args below meth c H locs nc ns Q (F0 m pc lsM (st.map (xv G))) := by
  obtain ⟨hx, hb, hml, hr, hlk, hnm, hown, htb, hts, hR, hK, hfl⟩ := A
  obtain ⟨rfl, ha1⟩ := xq_some ha
  obtain ⟨q, hp, ha2⟩ := Option.bind_eq_some_iff.mp ha1
  obtain rfl := xpRI_some hp
  obtain ⟨ob, ho, ha3⟩ := Option.bind_eq_some_iff.mp ha2
  obtain ⟨⟨ht, hin⟩, ha3⟩ := xif_some ha3
  obtain rfl := xGo_some ha3
  obtain ⟨t, n, f⟩ := ob
  simp only at ht hin
  have hc := xgA_some ho
  rcases ht with rfl | rfl
  · exact va_iald hx hb hK.1 hO.1 _ 0 (xO_cell hO hc (xgv_inr (by omega))) rfl (xin_vp hin) hd (kk H locs lsM hO hS hl hn)
  · obtain ⟨hlt, hg⟩ := xO_lt7 hO hc (xgv_inr' (by omega))
    have hT := hK.2.1 _ _ _ _ hlt hg
    rw [List.map_cons, List.map_cons, xad_ge hlt]
    exact va_ti hx hb hT hS (xin_vp hin) rfl hd (kk H locs lsM hO hS hl hn)
theorem xj_caload {j : xJ} (hd : decode (xmb k) pc = .ok (.caload, len)) (ha : xAct k pc (.caload) len ls st h nc ns = some (.inl j)) (A : xAt G l k p R s m args meth c) (hO : xO G h H) (hS : va_S (xAr G) s.heap H locs) (hl : xlr G ls lsM (xml k)) (hn : nc ≤ xmc k ∧ ns ≤ xms k)
    (kk : ∀ (H' : Heap) (locs' : List Loc) (lsM' : Array Slot), xO G j.2.2.2.1 H' → va_S (xAr G) s.heap H' locs' → xlr G j.2.1 lsM' (xml k) → j.2.2.2.2.1 ≤ xmc k ∧ j.2.2.2.2.2 ≤ xms k → W p l e R s m args below meth c H' locs' j.2.2.2.2.1 j.2.2.2.2.2 Q (F0 m j.1 lsM' (j.2.2.1.map (xv G)))) : W p l e R s m args below meth c H locs nc ns Q (F0 m pc lsM (st.map (xv G))) := by
  obtain ⟨hx, hb, hml, hr, hlk, hnm, hown, htb, hts, hR, hK, hfl⟩ := A
  obtain ⟨rfl, ha1⟩ := xq_some ha
  obtain ⟨q, hp, ha2⟩ := Option.bind_eq_some_iff.mp ha1
  obtain rfl := xpRI_some hp
  obtain ⟨ob, ho, ha3⟩ := Option.bind_eq_some_iff.mp ha2
  obtain ⟨⟨ht, hin⟩, ha3⟩ := xif_some ha3
  obtain rfl := xGo_some ha3
  obtain ⟨t, n, f⟩ := ob
  simp only at ht hin
  have hc := xgA_some ho
  rcases ht with rfl | rfl
  · exact va_cald hx hb hK.1 hO.1 _ 1 (xO_cell hO hc (xgv_inr (by omega))) rfl (xin_vp hin) hd (kk H locs lsM hO hS hl hn)
  · obtain ⟨hlt, hg⟩ := xO_lt7 hO hc (xgv_inr' (by omega))
    have hT := hK.2.1 _ _ _ _ hlt hg
    rw [List.map_cons, List.map_cons, xad_ge hlt]
    exact va_tc hx hb hT hS (xin_vp hin) rfl hd (kk H locs lsM hO hS hl hn)
theorem xj_baload {j : xJ} (hd : decode (xmb k) pc = .ok (.baload, len)) (ha : xAct k pc (.baload) len ls st h nc ns = some (.inl j)) (A : xAt G l k p R s m args meth c) (hO : xO G h H) (hS : va_S (xAr G) s.heap H locs) (hl : xlr G ls lsM (xml k)) (hn : nc ≤ xmc k ∧ ns ≤ xms k)
    (kk : ∀ (H' : Heap) (locs' : List Loc) (lsM' : Array Slot), xO G j.2.2.2.1 H' → va_S (xAr G) s.heap H' locs' → xlr G j.2.1 lsM' (xml k) → j.2.2.2.2.1 ≤ xmc k ∧ j.2.2.2.2.2 ≤ xms k → W p l e R s m args below meth c H' locs' j.2.2.2.2.1 j.2.2.2.2.2 Q (F0 m j.1 lsM' (j.2.2.1.map (xv G)))) : W p l e R s m args below meth c H locs nc ns Q (F0 m pc lsM (st.map (xv G))) := by
  obtain ⟨hx, hb, hml, hr, hlk, hnm, hown, htb, hts, hR, hK, hfl⟩ := A
  obtain ⟨rfl, ha1⟩ := xq_some ha
  obtain ⟨q, hp, ha2⟩ := Option.bind_eq_some_iff.mp ha1
  obtain rfl := xpRI_some hp
  obtain ⟨ob, ho, ha3⟩ := Option.bind_eq_some_iff.mp ha2
  obtain ⟨⟨ht, hin⟩, ha3⟩ := xif_some ha3
  obtain rfl := xGo_some ha3
  obtain ⟨t, n, f⟩ := ob
  simp only at ht hin
  have hc := xgA_some ho
  subst ht
  exact va_zald hx hb hK.1 hO.1 _ 2 (xO_cell hO hc (xgv_inr (by omega))) rfl (xin_vp hin) hd (kk H locs lsM hO hS hl hn)
theorem xj_iastore {j : xJ} (hd : decode (xmb k) pc = .ok (.iastore, len)) (ha : xAct k pc (.iastore) len ls st h nc ns = some (.inl j)) (A : xAt G l k p R s m args meth c) (hO : xO G h H) (hS : va_S (xAr G) s.heap H locs) (hl : xlr G ls lsM (xml k)) (hn : nc ≤ xmc k ∧ ns ≤ xms k)
    (kk : ∀ (H' : Heap) (locs' : List Loc) (lsM' : Array Slot), xO G j.2.2.2.1 H' → va_S (xAr G) s.heap H' locs' → xlr G j.2.1 lsM' (xml k) → j.2.2.2.2.1 ≤ xmc k ∧ j.2.2.2.2.2 ≤ xms k → W p l e R s m args below meth c H' locs' j.2.2.2.2.1 j.2.2.2.2.2 Q (F0 m j.1 lsM' (j.2.2.1.map (xv G)))) : W p l e R s m args below meth c H locs nc ns Q (F0 m pc lsM (st.map (xv G))) := by
  obtain ⟨hx, hb, hml, hr, hlk, hnm, hown, htb, hts, hR, hK, hfl⟩ := A
  obtain ⟨rfl, ha1⟩ := xq_some ha
  obtain ⟨q, hp, ha2⟩ := Option.bind_eq_some_iff.mp ha1
  obtain rfl := xpRII_some hp
  obtain ⟨ob, ho, ha3⟩ := Option.bind_eq_some_iff.mp ha2
  obtain ⟨⟨ht, hin⟩, ha3⟩ := xif_some ha3
  obtain rfl := xGo_some ha3
  obtain ⟨t, n, f⟩ := ob
  obtain ⟨a, i, x, st⟩ := q
  simp only at ht hin
  have hc := xgA_some ho
  subst ht
  have h7 := xO_7 hO hc (xgv_inr (by omega))
  have hcell : H[xad G a]? = some (vp_cell (xca G 0) (n, .inl f)) := hO.1 _ _ (xO_cell hO hc (xgv_inr (by omega)))
  refine W.iast hx hb hcell ((hK.1.2 0 _ rfl).1 n (fun j => .int (f j))) (fun q => by cases q) (by show ¬ (i < 0 ∨ (arrV _ _ _).slots.size ≤ _); rw [arrV_size]; exact xin_vp hin) rfl rfl hd fun H1 e1 z o1 => ?_
  refine kk H1 _ lsM (xO_upd hO hc (xgv_inr (by omega)) (xgv_inr (by omega)) ?_ z o1) (hS.put z o1 (xad_A h7)) hl hn
  show H1[xad G a]? = some (vp_cell (xca G 0) (n, .inl (upd f i.toNatClampNeg x)))
  rw [← arrV_upd]
  exact e1
theorem xj_castore {j : xJ} (hd : decode (xmb k) pc = .ok (.castore, len)) (ha : xAct k pc (.castore) len ls st h nc ns = some (.inl j)) (A : xAt G l k p R s m args meth c) (hO : xO G h H) (hS : va_S (xAr G) s.heap H locs) (hl : xlr G ls lsM (xml k)) (hn : nc ≤ xmc k ∧ ns ≤ xms k)
    (kk : ∀ (H' : Heap) (locs' : List Loc) (lsM' : Array Slot), xO G j.2.2.2.1 H' → va_S (xAr G) s.heap H' locs' → xlr G j.2.1 lsM' (xml k) → j.2.2.2.2.1 ≤ xmc k ∧ j.2.2.2.2.2 ≤ xms k → W p l e R s m args below meth c H' locs' j.2.2.2.2.1 j.2.2.2.2.2 Q (F0 m j.1 lsM' (j.2.2.1.map (xv G)))) : W p l e R s m args below meth c H locs nc ns Q (F0 m pc lsM (st.map (xv G))) := by
  obtain ⟨hx, hb, hml, hr, hlk, hnm, hown, htb, hts, hR, hK, hfl⟩ := A
  obtain ⟨rfl, ha1⟩ := xq_some ha
  obtain ⟨q, hp, ha2⟩ := Option.bind_eq_some_iff.mp ha1
  obtain rfl := xpRII_some hp
  obtain ⟨ob, ho, ha3⟩ := Option.bind_eq_some_iff.mp ha2
  obtain ⟨⟨ht, hin⟩, ha3⟩ := xif_some ha3
  obtain rfl := xGo_some ha3
  obtain ⟨t, n, f⟩ := ob
  obtain ⟨a, i, x, st⟩ := q
  simp only at ht hin
  have hc := xgA_some ho
  subst ht
  have h7 := xO_7 hO hc (xgv_inr (by omega))
  have hcell : H[xad G a]? = some (vp_cell (xca G 1) (n, .inl f)) := hO.1 _ _ (xO_cell hO hc (xgv_inr (by omega)))
  refine W.cast hx hb hcell ((hK.1.2 1 _ rfl).1 n (fun j => .int (f j))) (fun q => by cases q) (by show ¬ (i < 0 ∨ (arrV _ _ _).slots.size ≤ _); rw [arrV_size]; exact xin_vp hin) rfl rfl hd fun H1 e1 z o1 => ?_
  refine kk H1 _ lsM (xO_upd hO hc (xgv_inr (by omega)) (xgv_inr (by omega)) ?_ z o1) (hS.put z o1 (xad_A h7)) hl hn
  show H1[xad G a]? = some (vp_cell (xca G 1) (n, .inl (upd f i.toNatClampNeg (vp_nar .char x))))
  rw [← arrV_upd]
  exact e1
theorem xj_bastore {j : xJ} (hd : decode (xmb k) pc = .ok (.bastore, len)) (ha : xAct k pc (.bastore) len ls st h nc ns = some (.inl j)) (A : xAt G l k p R s m args meth c) (hO : xO G h H) (hS : va_S (xAr G) s.heap H locs) (hl : xlr G ls lsM (xml k)) (hn : nc ≤ xmc k ∧ ns ≤ xms k)
    (kk : ∀ (H' : Heap) (locs' : List Loc) (lsM' : Array Slot), xO G j.2.2.2.1 H' → va_S (xAr G) s.heap H' locs' → xlr G j.2.1 lsM' (xml k) → j.2.2.2.2.1 ≤ xmc k ∧ j.2.2.2.2.2 ≤ xms k → W p l e R s m args below meth c H' locs' j.2.2.2.2.1 j.2.2.2.2.2 Q (F0 m j.1 lsM' (j.2.2.1.map (xv G)))) : W p l e R s m args below meth c H locs nc ns Q (F0 m pc lsM (st.map (xv G))) := by
  obtain ⟨hx, hb, hml, hr, hlk, hnm, hown, htb, hts, hR, hK, hfl⟩ := A
  obtain ⟨rfl, ha1⟩ := xq_some ha
  obtain ⟨q, hp, ha2⟩ := Option.bind_eq_some_iff.mp ha1
  obtain rfl := xpRII_some hp
  obtain ⟨ob, ho, ha3⟩ := Option.bind_eq_some_iff.mp ha2
  obtain ⟨⟨ht, hin⟩, ha3⟩ := xif_some ha3
  obtain rfl := xGo_some ha3
  obtain ⟨t, n, f⟩ := ob
  obtain ⟨a, i, x, st⟩ := q
  simp only at ht hin
  have hc := xgA_some ho
  subst ht
  have h7 := xO_7 hO hc (xgv_inr (by omega))
  have hcell : H[xad G a]? = some (vp_cell (xca G 2) (n, .inl f)) := hO.1 _ _ (xO_cell hO hc (xgv_inr (by omega)))
  refine W.zast hx hb hcell ((hK.1.2 2 _ rfl).1 n (fun j => .int (f j))) (fun q => by cases q) (by show ¬ (i < 0 ∨ (arrV _ _ _).slots.size ≤ _); rw [arrV_size]; exact xin_vp hin) rfl rfl hd fun H1 e1 z o1 => ?_
  refine kk H1 _ lsM (xO_upd hO hc (xgv_inr (by omega)) (xgv_inr (by omega)) ?_ z o1) (hS.put z o1 (xad_A h7)) hl hn
  show H1[xad G a]? = some (vp_cell (xca G 2) (n, .inl (upd f i.toNatClampNeg (vp_nar .boolean x))))
  rw [← arrV_upd]
  exact e1
theorem xj_aaload {j : xJ} (hd : decode (xmb k) pc = .ok (.aaload, len)) (ha : xAct k pc (.aaload) len ls st h nc ns = some (.inl j)) (A : xAt G l k p R s m args meth c) (hO : xO G h H) (hS : va_S (xAr G) s.heap H locs) (hl : xlr G ls lsM (xml k)) (hn : nc ≤ xmc k ∧ ns ≤ xms k)
    (kk : ∀ (H' : Heap) (locs' : List Loc) (lsM' : Array Slot), xO G j.2.2.2.1 H' → va_S (xAr G) s.heap H' locs' → xlr G j.2.1 lsM' (xml k) → j.2.2.2.2.1 ≤ xmc k ∧ j.2.2.2.2.2 ≤ xms k → W p l e R s m args below meth c H' locs' j.2.2.2.2.1 j.2.2.2.2.2 Q (F0 m j.1 lsM' (j.2.2.1.map (xv G)))) : W p l e R s m args below meth c H locs nc ns Q (F0 m pc lsM (st.map (xv G))) := by
  obtain ⟨hx, hb, hml, hr, hlk, hnm, hown, htb, hts, hR, hK, hfl⟩ := A
  obtain ⟨rfl, ha1⟩ := xq_some ha
  obtain ⟨q, hp, ha2⟩ := Option.bind_eq_some_iff.mp ha1
  obtain rfl := xpRI_some hp
  obtain ⟨ob, ho, ha3⟩ := Option.bind_eq_some_iff.mp ha2
  obtain ⟨⟨ht, hin⟩, ha3⟩ := xif_some ha3
  obtain ⟨t, vs⟩ := ob
  obtain ⟨a, i, st⟩ := q
  simp only at ht hin
  subst ht
  have hc := xgO_some ho
  split at ha3
  · next x hv =>
    obtain rfl := xGo_some ha3
    have hk := kk H locs lsM hO hS hl hn
    have ev : xrf G (vs.getD i.toNatClampNeg .null) = some (xad G x) := by
      have hv' : vs[i.toNatClampNeg]? = some (Value.ref x) := hv
      rw [List.getD_eq_getElem?_getD, hv']
      rfl
    refine va_aldq hx hb hK.1 hO.1 _ 4 (xO_cell hO hc rfl) rfl (xin_vp hin) hd ?_
    show W p l e R s m args below meth c H locs nc ns Q (F0 m (pc + 1) lsM (va_rf (xrf G (vs.getD i.toNatClampNeg .null)) :: st.map (xv G)))
    rw [ev]
    exact hk
  · cases ha3
theorem arrV_updl (cA : ClassId) (i : Nat) (vs : List Value) (x : Int64) (hi : i < vs.length) : (vp_cell cA (vs.length, .inr (.inl fun j => xlg (vs.getD j .null)))).setSlot i (.long x) = vp_cell cA ((vs.set i (.long x)).length, .inr (.inl fun j => xlg ((vs.set i (.long x)).getD j .null))) := by
  rw [vp_cell_l, vp_cell_l, arrV_store, List.length_set]
  congr 1
  funext j
  rw [List.getD_eq_getElem?_getD]
  by_cases hj : j = i
  · subst hj
    rw [List.getElem?_set_self hi]
    simp [updV, xlg]
  · rw [List.getElem?_set_ne (Ne.symm hj)]
    simp [updV, hj]
theorem arrV_updr (G : xG) (cA : ClassId) (i : Nat) (vs : List Value) (x : Nat) (hi : i < vs.length) : (vp_cell cA (vs.length, .inr (.inr (.inr (.inr fun j => xrf G (vs.getD j .null)))))).setSlot i (.ref (xad G x)) = vp_cell cA ((vs.set i (.ref x)).length, .inr (.inr (.inr (.inr fun j => xrf G ((vs.set i (.ref x)).getD j .null))))) := by
  rw [vp_cell_q, vp_cell_q, arrV_store, List.length_set]
  congr 1
  funext j
  rw [List.getD_eq_getElem?_getD]
  by_cases hj : j = i
  · subst hj
    rw [List.getElem?_set_self hi]
    simp [updV, xrf, va_rf]
  · rw [List.getElem?_set_ne (Ne.symm hj)]
    simp [updV, hj]
theorem xj_aastore {j : xJ} (hd : decode (xmb k) pc = .ok (.aastore, len)) (ha : xAct k pc (.aastore) len ls st h nc ns = some (.inl j)) (A : xAt G l k p R s m args meth c) (hO : xO G h H) (hS : va_S (xAr G) s.heap H locs) (hl : xlr G ls lsM (xml k)) (hn : nc ≤ xmc k ∧ ns ≤ xms k)
    (kk : ∀ (H' : Heap) (locs' : List Loc) (lsM' : Array Slot), xO G j.2.2.2.1 H' → va_S (xAr G) s.heap H' locs' → xlr G j.2.1 lsM' (xml k) → j.2.2.2.2.1 ≤ xmc k ∧ j.2.2.2.2.2 ≤ xms k → W p l e R s m args below meth c H' locs' j.2.2.2.2.1 j.2.2.2.2.2 Q (F0 m j.1 lsM' (j.2.2.1.map (xv G)))) : W p l e R s m args below meth c H locs nc ns Q (F0 m pc lsM (st.map (xv G))) := by
  obtain ⟨hx, hb, hml, hr, hlk, hnm, hown, htb, hts, hR, hK, hfl⟩ := A
  obtain ⟨rfl, ha1⟩ := xq_some ha
  obtain ⟨q, hp, ha2⟩ := Option.bind_eq_some_iff.mp ha1
  obtain rfl := xpRIR_some hp
  obtain ⟨ob, ho, ha3⟩ := Option.bind_eq_some_iff.mp ha2
  obtain ⟨ob2, ho2, ha4⟩ := Option.bind_eq_some_iff.mp ha3
  obtain ⟨⟨ht, ht2, hin⟩, ha4⟩ := xif_some ha4
  obtain rfl := xGo_some ha4
  obtain ⟨t, vs⟩ := ob
  obtain ⟨t2, ws⟩ := ob2
  obtain ⟨a, i, x, st⟩ := q
  simp only at ht ht2 hin
  have hc := xgO_some ho
  have hc2 := xgO_some ho2
  subst ht
  subst ht2
  have h7 := xO_7 hO hc rfl
  have hv := xin_vp hin
  have hil : i.toNatClampNeg < vs.length := Nat.not_le.mp fun q => hv (Or.inr q)
  have hcell : H[xad G a]? = some (vp_cell (xca G 4) (vs.length, .inr (.inr (.inr (.inr fun j => xrf G (vs.getD j .null)))))) := hO.1 _ _ (xO_cell hO hc rfl)
  have he2 := xO_cell hO hc2 rfl
  rw [xE_obj (by omega)] at he2
  obtain ⟨r', hr', cellV, g1, g2, g3, -⟩ := hO.1 _ _ he2
  have hcls := (hK.1.1 0 _ (xcl0_at (t := 0) (by omega))).2
  obtain ⟨kA, comp, k1, k2, k3, -⟩ := (hK.1.2 4 _ rfl).2
  have hcomp : comp = (xD G).1 0 := Option.some.inj (k3.symm.trans hcls.1)
  subst hcomp
  obtain ⟨kC, hkC, -⟩ := id hcls.2
  refine W.aast hx hb hcell (fun q h => by cases h) (fun h => by cases h) k1 k2 rfl hkC ⟨fun q => hv (Or.inl q), by show _ < (arrV _ _ _).slots.size; rw [arrV_size]; exact hil⟩ g1 (fun q h => by rw [g3] at h; cases h) (by rw [g2]; exact hkC) (by rw [g2]; exact va_assign hcls) rfl rfl hd fun H1 e1 z o1 => ?_
  refine kk H1 _ lsM (xO_upd hO hc rfl rfl ?_ z o1) (hS.put z o1 (xad_A h7)) hl hn
  show H1[xad G a]? = some (vp_cell (xca G 4) ((vs.set i.toNatClampNeg (.ref x)).length, .inr (.inr (.inr (.inr fun j => xrf G ((vs.set i.toNatClampNeg (.ref x)).getD j .null))))))
  rw [← arrV_updr G _ _ _ _ hil]
  exact e1
theorem xj_arraylength {j : xJ} (hd : decode (xmb k) pc = .ok (.arraylength, len)) (ha : xAct k pc (.arraylength) len ls st h nc ns = some (.inl j)) (A : xAt G l k p R s m args meth c) (hO : xO G h H) (hS : va_S (xAr G) s.heap H locs) (hl : xlr G ls lsM (xml k)) (hn : nc ≤ xmc k ∧ ns ≤ xms k)
    (kk : ∀ (H' : Heap) (locs' : List Loc) (lsM' : Array Slot), xO G j.2.2.2.1 H' → va_S (xAr G) s.heap H' locs' → xlr G j.2.1 lsM' (xml k) → j.2.2.2.2.1 ≤ xmc k ∧ j.2.2.2.2.2 ≤ xms k → W p l e R s m args below meth c H' locs' j.2.2.2.2.1 j.2.2.2.2.2 Q (F0 m j.1 lsM' (j.2.2.1.map (xv G)))) : W p l e R s m args below meth c H locs nc ns Q (F0 m pc lsM (st.map (xv G))) := by
  obtain ⟨hx, hb, hml, hr, hlk, hnm, hown, htb, hts, hR, hK, hfl⟩ := A
  obtain ⟨rfl, ha1⟩ := xq_some ha
  obtain ⟨q, hp, ha2⟩ := Option.bind_eq_some_iff.mp ha1
  obtain rfl := xpR_some hp
  obtain ⟨ob, ho, ha3⟩ := Option.bind_eq_some_iff.mp ha2
  obtain ⟨ht, ha4⟩ := xif_some ha3
  obtain rfl := xGo_some ha4
  obtain ⟨t, n, f⟩ := ob
  simp only at ht
  have hc := xgA_some ho
  rcases ht with rfl | rfl | rfl
  · exact va_alen hx hb hK.1 hO.1 _ 0 (xO_cell hO hc (xgv_inr (by omega))) rfl rfl hd (kk H locs lsM hO hS hl hn)
  · obtain ⟨hlt, hg⟩ := xO_lt7 hO hc (xgv_inr' (by omega))
    have hT := hK.2.1 _ _ _ _ hlt hg
    rw [List.map_cons, xad_ge hlt]
    exact va_tlen hx hb hT hS rfl hd (kk H locs lsM hO hS hl hn)
  · obtain ⟨hlt, hg⟩ := xO_lt7 hO hc (xgv_inr' (by omega))
    have hT := hK.2.1 _ _ _ _ hlt hg
    rw [List.map_cons, xad_ge hlt]
    exact va_tlen hx hb hT hS rfl hd (kk H locs lsM hO hS hl hn)
theorem xroom_ok {k nc ns a b : Nat} (h : xroom k nc ns a b = true) : nc + a ≤ xmc k ∧ ns + b ≤ xms k := of_decide_eq_true h
theorem va_S_new {A : Nat → Prop} {H0 H H1 : Heap} {locs : List Loc} (hS : va_S A H0 H locs) (z : H1.size = H.size + 1) (o : ∀ q : Nat, q < H.size → H1[q]? = H[q]?) : va_S A H0 H1 locs :=
  ⟨by have := hS.1; omega, fun q h1 h2 => (o q (Nat.lt_of_lt_of_le h1 hS.1)).trans (hS.2.1 q h1 h2), hS.2.2⟩
theorem xAlloc_some {k pc : Nat} {ls : xLs} {st : List Value} {h : xHp} {nc ns sz : Nat} {cl : xCel} {j : xJ} (ha : xAlloc k pc ls st h nc ns sz cl = some (.inl j)) : h.1 = true ∧ (nc + 1 ≤ xmc k ∧ ns + sz ≤ xms k) ∧ j = (pc, ls, .ref h.2.length :: st, xNew h cl, nc + 1, ns + sz) := by
  obtain ⟨h1, h2⟩ := xif_some ha
  simp only [Bool.and_eq_true] at h1
  exact ⟨h1.1, xroom_ok h1.2, xGo_some h2⟩
theorem xj_new {ix : Nat} {j : xJ} (hd : decode (xmb k) pc = .ok (.new ix, len)) (ha : xAct k pc (.new ix) len ls st h nc ns = some (.inl j)) (A : xAt G l k p R s m args meth c) (hO : xO G h H) (hS : va_S (xAr G) s.heap H locs) (hl : xlr G ls lsM (xml k)) (hn : nc ≤ xmc k ∧ ns ≤ xms k)
    (kk : ∀ (H' : Heap) (locs' : List Loc) (lsM' : Array Slot), xO G j.2.2.2.1 H' → va_S (xAr G) s.heap H' locs' → xlr G j.2.1 lsM' (xml k) → j.2.2.2.2.1 ≤ xmc k ∧ j.2.2.2.2.2 ≤ xms k → W p l e R s m args below meth c H' locs' j.2.2.2.2.1 j.2.2.2.2.2 Q (F0 m j.1 lsM' (j.2.2.1.map (xv G)))) : W p l e R s m args below meth c H locs nc ns Q (F0 m pc lsM (st.map (xv G))) := by
  obtain ⟨hx, hb, hml, hr, hlk, hnm, hown, htb, hts, hR, hK, hfl⟩ := A
  obtain ⟨rfl, ha1⟩ := xq_some ha
  split at ha1
  · next E hE =>
    have hz := (xif_some ha1).2
    cases hz
  · next hE =>
    obtain ⟨t, ht, ha2⟩ := Option.bind_eq_some_iff.mp ha1
    obtain ⟨g1, g2, rfl⟩ := xAlloc_some ha2
    obtain ⟨h2, h3, h4⟩ := xnR_ok ht
    have hKn := hK.1.1 t _ (xcl0_at h2)
    refine W.newcK hx hb hown (hts _ h3) (hts _ h4) (hts _ (xini_ws t h2)) rfl hd (by omega) (by omega) hKn.2.1 rfl fun H1 kC hkC e1 z1 o1 => ?_
    have hn2 := xO_new (c := .inl (t, (List.range (xcT t).2.2).map (fun j => defaultValue (xty t j)))) hO g1 rfl z1 o1 (by
      rw [xE_obj h2]
      refine ⟨_, xcl0_at h2, (u_born (xty t) hts (xcT_in h2) hKn hkC e1 (xcT_ty h2)).to fun j hj => ?_⟩
      show _ = (((List.range (xcT t).2.2).map (fun j => defaultValue (xty t j))).map (xv G)).getD j .null
      rw [List.getD_eq_getElem?_getD, List.getElem?_map, List.getElem?_map, List.getElem?_range hj]
      show _ = xv G (defaultValue (xty t j))
      cases xty t j <;> rfl)
    have hk := kk H1 locs lsM hn2.1 (va_S_new hS z1 o1) hl g2
    rw [List.map_cons] at hk
    have e3 : xv G (.ref h.2.length) = .ref H.size := congrArg Value.ref hn2.2
    rw [e3] at hk
    exact hk
theorem xj_newarray {t : ArrayType} {j : xJ} (hd : decode (xmb k) pc = .ok (.newarray t, len)) (ha : xAct k pc (.newarray t) len ls st h nc ns = some (.inl j)) (A : xAt G l k p R s m args meth c) (hO : xO G h H) (hS : va_S (xAr G) s.heap H locs) (hl : xlr G ls lsM (xml k)) (hn : nc ≤ xmc k ∧ ns ≤ xms k)
    (kk : ∀ (H' : Heap) (locs' : List Loc) (lsM' : Array Slot), xO G j.2.2.2.1 H' → va_S (xAr G) s.heap H' locs' → xlr G j.2.1 lsM' (xml k) → j.2.2.2.2.1 ≤ xmc k ∧ j.2.2.2.2.2 ≤ xms k → W p l e R s m args below meth c H' locs' j.2.2.2.2.1 j.2.2.2.2.2 Q (F0 m j.1 lsM' (j.2.2.1.map (xv G)))) : W p l e R s m args below meth c H locs nc ns Q (F0 m pc lsM (st.map (xv G))) := by
  obtain ⟨hx, hb, hml, hr, hlk, hnm, hown, htb, hts, hR, hK, hfl⟩ := A
  obtain ⟨rfl, ha1⟩ := xq_some ha
  obtain ⟨q, hp, ha2⟩ := Option.bind_eq_some_iff.mp ha1
  obtain rfl := xpI_some hp
  obtain ⟨⟨h1, h2⟩, ha2⟩ := xif_some ha2
  obtain ⟨cl, hc, ha3⟩ := Option.bind_eq_some_iff.mp ha2
  obtain ⟨g1, g2, rfl⟩ := xAlloc_some ha3
  have key : ∀ (ty : FieldType) (ci : Nat), newarray.typeOf t = ty → Cond.arrayClass ty ∈ xgt → componentBytes ty ≤ 8 → (∀ cA, va_RA s cA ty = (s.vm.findClass ("[" ++ ty.toString) = some cA)) → (xtys G)[ci]? = some (xca G ci, ty) → xgvn cl = false → xE G cl = xE G cl → (∀ H1 : Heap, H1[H.size]? = some (arrV (xca G ci) q.1.toNatClampNeg (fun _ => defaultValue ty)) → va_at (xD G) xcl0 (H.size, xE G cl) H1) →
      W p l e R s m args below meth c H locs nc ns Q (F0 m pc lsM ((Value.int q.1 :: q.2).map (xv G))) := by
    intro ty ci e1 e2 e3 e4 e5 e6 _ e7
    subst e1
    refine va_newaK hx hb (hts _ e2) rfl hd rfl h1 rfl ?_ (by omega) (by omega) rfl fun H1 cA f1 z1 o1 fA fN => ?_
    · have := Nat.mul_le_mul h2 e3
      omega
    · have hcA : cA = xca G ci := by
        have := (hK.1.2 ci _ e5).2
        rw [e4] at this
        exact Option.some.inj (fN.symm.trans this)
      subst hcA
      have hn2 := xO_new (c := cl) hO g1 e6 z1 o1 (e7 H1 f1)
      have hk := kk H1 locs lsM hn2.1 (va_S_new hS z1 o1) hl g2
      rw [List.map_cons] at hk
      have e3 : xv G (.ref h.2.length) = .ref H.size := congrArg Value.ref hn2.2
      rw [e3] at hk
      exact hk
  cases t with
  | int =>
    cases hc
    exact key .int 0 rfl (xg_in (i := 168) (by decide +kernel) rfl) (by decide) (fun _ => rfl) rfl rfl rfl (fun H1 f1 => f1)
  | char =>
    cases hc
    exact key .char 1 rfl (xg_in (i := 88) (by decide +kernel) rfl) (by decide) (fun _ => rfl) rfl rfl rfl (fun H1 f1 => f1)
  | boolean =>
    cases hc
    exact key .boolean 2 rfl (xg_in (i := 261) (by decide +kernel) rfl) (by decide) (fun _ => rfl) rfl rfl rfl (fun H1 f1 => f1)
  | _ => cases hc
theorem xj_anewarray {ix : Nat} {j : xJ} (hd : decode (xmb k) pc = .ok (.anewarray ix, len)) (ha : xAct k pc (.anewarray ix) len ls st h nc ns = some (.inl j)) (A : xAt G l k p R s m args meth c) (hO : xO G h H) (hS : va_S (xAr G) s.heap H locs) (hl : xlr G ls lsM (xml k)) (hn : nc ≤ xmc k ∧ ns ≤ xms k)
    (kk : ∀ (H' : Heap) (locs' : List Loc) (lsM' : Array Slot), xO G j.2.2.2.1 H' → va_S (xAr G) s.heap H' locs' → xlr G j.2.1 lsM' (xml k) → j.2.2.2.2.1 ≤ xmc k ∧ j.2.2.2.2.2 ≤ xms k → W p l e R s m args below meth c H' locs' j.2.2.2.2.1 j.2.2.2.2.2 Q (F0 m j.1 lsM' (j.2.2.1.map (xv G)))) : W p l e R s m args below meth c H locs nc ns Q (F0 m pc lsM (st.map (xv G))) := by
  obtain ⟨hx, hb, hml, hr, hlk, hnm, hown, htb, hts, hR, hK, hfl⟩ := A
  obtain ⟨rfl, ha1⟩ := xq_some ha
  obtain ⟨q, hp, ha2⟩ := Option.bind_eq_some_iff.mp ha1
  obtain rfl := xpI_some hp
  obtain ⟨⟨h1, h2, h3⟩, ha2⟩ := xif_some ha2
  obtain ⟨g1, g2, rfl⟩ := xAlloc_some ha2
  obtain ⟨h4, h5, h6⟩ := xnR_ok h3
  refine W.anew hx hb hown (hts _ h5) (va_AO.use hK.2.2.2.2.1) rfl hd rfl h1 (by omega) (by omega) (by omega) fun cA kA comp f1 f2 f3 f4 => ?_
  have hcA : cA = xca G 4 := by
    obtain ⟨_, _, -, -, -, q4⟩ := (hK.1.2 4 _ rfl).2
    exact Option.some.inj (f1.symm.trans q4)
  subst hcA
  generalize hH1 : H.push ({ cls := xca G 4, slots := Array.replicate q.1.toNatClampNeg .null, vm := .none } : Cell) = H1
  have z1 : H1.size = H.size + 1 := by rw [← hH1, Array.size_push]
  have e1 : H1[H.size]? = some (arrV (xca G 4) q.1.toNatClampNeg (fun _ => .null)) := by rw [← hH1, Array.getElem?_push_size, ← arrV_new]
  have o1 : ∀ q : Nat, q < H.size → H1[q]? = H[q]? := fun q hq => by rw [← hH1, Array.getElem?_push, if_neg (Nat.ne_of_lt hq)]
  have hn2 := xO_new (c := .inl (22, List.replicate q.1.toNatClampNeg .null)) hO g1 rfl z1 o1 (by
    show H1[H.size]? = some (vp_cell (xca G 4) ((List.replicate q.1.toNatClampNeg Value.null).length, .inr (.inr (.inr (.inr fun j => xrf G ((List.replicate q.1.toNatClampNeg Value.null).getD j .null))))))
    rw [e1, vp_cell_q, List.length_replicate]
    congr 2
    funext j
    rw [List.getD_eq_getElem?_getD, List.getElem?_replicate]
    split <;> rfl)
  have hk := kk H1 locs lsM hn2.1 (va_S_new hS z1 o1) hl g2
  rw [List.map_cons] at hk
  have e3 : xv G (.ref h.2.length) = .ref H.size := congrArg Value.ref hn2.2
  rw [e3] at hk
  exact hk
end XJ2
