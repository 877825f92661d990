/-! calls that are refused change nothing -/
section REF
variable {X : Option yRes} {M : yM} {A A' : yAb} {v w : Int64}
theorem LJ.c (h : LJ X M v A') (e : v = w) : LJ X M w A' := e ▸ h
theorem nAct_N {act a b d : Int32} (h : ¬ flt A.1 act a b d = 0) : nAct A act a b d = A := if_neg h
theorem LJ.f1 {act a b d : Int32} (h : LJ X M (ol (oAct A act a b d)) (nAct A act a b d)) (hf : flt A.1 act a b d = 1) : LJ X M (-9000000000000000001) A := by
  rw [nAct_N (by rw [hf]; decide)] at h
  refine h.c ?_
  unfold oAct
  rw [if_pos hf]
  rfl
theorem LJ.f2 {act a b d : Int32} (h : LJ X M (ol (oAct A act a b d)) (nAct A act a b d)) (hf : flt A.1 act a b d = 2) : LJ X M (-9000000000000000002) A := by
  rw [nAct_N (by rw [hf]; decide)] at h
  refine h.c ?_
  unfold oAct
  rw [if_neg (by rw [hf]; decide), if_pos hf]
  rfl
theorem LJ.f3 {act a b d : Int32} (h : LJ X M (ol (oAct A act a b d)) (nAct A act a b d)) (hf : flt A.1 act a b d = 3) : LJ X M (-9000000000000000003) A := by
  rw [nAct_N (by rw [hf]; decide)] at h
  refine h.c ?_
  unfold oAct
  rw [if_neg (by rw [hf]; decide), if_neg (by rw [hf]; decide), if_pos hf]
  rfl
theorem LJ.s2 {a b : Int32} (h : LJ X M (ol (oSrv A a b)) (nAct A 5 a b 0)) (hf : flt A.1 5 a b 0 = 2) : LJ X M (-9000000000000000002) A := by
  rw [nAct_N (by rw [hf]; decide)] at h
  refine h.c ?_
  unfold oSrv oAct
  rw [if_neg (by rw [hf]; decide), if_pos hf]
  rfl
theorem LJ.n (h : LJ X M v A') (e : v = w) (e2 : A' = A) : LJ X M w A := by rw [← e, ← e2]; exact h
end REF
section REFO
variable {r g : yRow} {A : yAb} {a b : Int32}
theorem n_abt (h : ¬ bet a 0 9) : ol (oAbt r a) = -9000000000000000002 := by unfold oAbt; rw [if_neg h]; rfl
theorem n_set (h : ¬ bet a 0 4) : ol (oSet r a) = -9000000000000000002 := by unfold oSet; rw [if_neg h]; rfl
theorem n_pcs (h : ¬ bet a 0 3) : ol (oPcs r a) = -9000000000000000001 := by unfold oPcs; rw [if_neg h]; rfl
theorem n_dur (h : ¬ (bet a 0 1500 ∧ bet b 0 9)) : ol (oDur r a b) = -9000000000000000002 := by unfold oDur; rw [if_neg h]; rfl
theorem n_bgn (h : ¬ bet a 0 (Int32.ofNat (Spl r).2.2.2 - 1)) : ol (oBgn r a) = -9000000000000000001 := by unfold oBgn; rw [if_neg h]; rfl
theorem n_ingI (h : ¬ bet a 0 (r 0 - 1)) : ol (oIng r a b) = -9000000000000000001 := by unfold oIng; rw [if_neg h]; rfl
theorem n_ingA (h : bet a 0 (r 0 - 1)) (h2 : ¬ bet b 0 6) : ol (oIng r a b) = -9000000000000000002 := by unfold oIng; rw [if_pos h, if_neg h2]; rfl
theorem n_spnI (h : ¬ bet a 0 (r 0 - 1)) : ol (oSpn r a b) = -9000000000000000001 := by unfold oSpn; rw [if_neg h]; rfl
theorem n_spnA (h : bet a 0 (r 0 - 1)) (h2 : ¬ bet b 0 3) : ol (oSpn r a b) = -9000000000000000002 := by unfold oSpn; rw [if_pos h, if_neg h2]; rfl
theorem n_stpI (h : ¬ bet a 0 (r 15 - 1)) : ol (oStp r a b) = -9000000000000000001 := by unfold oStp; rw [if_neg h]; rfl
theorem n_stpA (h : bet a 0 (r 15 - 1)) (h2 : ¬ bet b 0 9) : ol (oStp r a b) = -9000000000000000002 := by unfold oStp; rw [if_pos h, if_neg h2]; rfl
theorem n_panI (h : ¬ bet a 0 3) : ol (oPan r g a b) = -9000000000000000001 := by unfold oPan; rw [if_neg h]; rfl
theorem n_panA (h : bet a 0 3) (h2 : ¬ bet b 0 1) : ol (oPan r g a b) = -9000000000000000002 := by unfold oPan; rw [if_pos h, if_neg h2]; rfl
theorem n_svd (h : ¬ (bet a 1 24 ∧ bet b 0 1)) : ol (oSvd r a b) = -9000000000000000002 := by unfold oSvd; rw [if_neg h]; rfl
theorem n_slk (h : ¬ bet a 0 (r 15 - 1)) : ol (oSlk r g a) = -9000000000000000001 := by unfold oSlk; rw [if_neg h]; rfl
theorem n_bsv (h : ¬ (bet a 1 24 ∧ bet b a 24)) : ol (oBsv r a b) = -9000000000000000002 := by unfold oBsv; rw [if_neg h]; rfl
theorem n_sim {x : Int64} (h : ¬ bet a 1 60) : ol (oSim r g x a) = -9000000000000000002 := by unfold oSim; rw [if_neg h]; rfl
theorem n_sav (h : ¬ bet a 0 1) : ol (oSav A a) = -9000000000000000001 ∧ nSav A a = A := by unfold oSav nSav; rw [if_neg h, if_neg h]; exact ⟨rfl, rfl⟩
theorem n_res (h : ¬ bet a 0 1) : ol (oRes A a) = -9000000000000000001 ∧ nRes A a = A := by unfold oRes nRes; rw [if_neg h, if_neg h]; exact ⟨rfl, rfl⟩
theorem n_app (h : ¬ bet a 0 255) : ol (oApp A a) = -9000000000000000002 ∧ nApp A a = A := by unfold oApp nApp; rw [if_neg h, if_neg h]; exact ⟨rfl, rfl⟩
theorem f_0A (h : ¬ bet a 1 50000) : flt r 0 a 0 0 = 2 := by unfold flt; rw [if_pos rfl, if_neg h]
theorem f_0S (h : bet a 1 50000) (h2 : ¬ r 0 < 12) : flt r 0 a 0 0 = 3 := by unfold flt; rw [if_pos rfl, if_pos h, if_neg h2]
theorem f_1A {d : Int32} (h : ¬ (bet a 1 90 ∧ bet b (-1) 3)) : flt r 1 a b d = 2 := by unfold flt; rw [if_neg (by decide), if_pos rfl, if_neg h]
theorem f_1S {d : Int32} (h : bet a 1 90 ∧ bet b (-1) 3) (h2 : ¬ r 15 < 14) : flt r 1 a b d = 3 := by unfold flt; rw [if_neg (by decide), if_pos rfl, if_pos h, if_neg h2]
theorem f_2I {d : Int32} (h : ¬ (bet a 0 (r 15 - 1) ∧ bet b 0 (r 0 - 1))) : flt r 2 a b d = 1 := by unfold flt; rw [if_neg (by decide), if_neg (by decide), if_pos rfl, if_neg h]
theorem f_3I {d : Int32} (h : ¬ (bet a 0 (r 15 - 1) ∧ bet b 0 (r 15 - 1))) : flt r 3 a b d = 1 := by unfold flt; rw [if_neg (by decide), if_neg (by decide), if_neg (by decide), if_pos rfl, if_neg h]
theorem f_3S (h : bet a 0 (r 15 - 1)) : flt r 3 a a 1 = 3 := by unfold flt; rw [if_neg (by decide), if_neg (by decide), if_neg (by decide), if_pos rfl, if_pos ⟨h, h⟩, if_pos ⟨rfl, Or.inl rfl⟩]
theorem f_4I (h : ¬ bet a 0 3) : flt r 4 a b 0 = 1 := by unfold flt; rw [if_neg (by decide), if_neg (by decide), if_neg (by decide), if_neg (by decide), if_pos rfl, if_neg h]
theorem f_4A (h : bet a 0 3) (h2 : ¬ bet b 0 3) : flt r 4 a b 0 = 2 := by unfold flt; rw [if_neg (by decide), if_neg (by decide), if_neg (by decide), if_neg (by decide), if_pos rfl, if_pos h, if_neg h2]
theorem f_5A (h : ¬ (bet a 1 24 ∧ bet b 1 24)) : flt r 5 a b 0 = 2 := by unfold flt; rw [if_neg (by decide), if_neg (by decide), if_neg (by decide), if_neg (by decide), if_neg (by decide), if_pos rfl, if_neg h]
theorem f_6A (h : ¬ (bet a 0 4 ∧ bet b (xsR0 2 (yx a)) (xsR0 3 (yx a)))) : flt r 6 a b 0 = 2 := by unfold flt; rw [if_neg (by decide), if_neg (by decide), if_neg (by decide), if_neg (by decide), if_neg (by decide), if_neg (by decide), if_pos rfl, if_neg h]
theorem f_7I (h : ¬ bet a 0 (r 0 - 1)) : flt r 7 a b 0 = 1 := by unfold flt; rw [if_neg (by decide), if_neg (by decide), if_neg (by decide), if_neg (by decide), if_neg (by decide), if_neg (by decide), if_neg (by decide), if_pos rfl, if_neg h]
theorem f_7A (h : bet a 0 (r 0 - 1)) (h2 : ¬ bet b 1 50000) : flt r 7 a b 0 = 2 := by unfold flt; rw [if_neg (by decide), if_neg (by decide), if_neg (by decide), if_neg (by decide), if_neg (by decide), if_neg (by decide), if_neg (by decide), if_pos rfl, if_pos h, if_neg h2]
theorem f_8I (h : ¬ bet a 0 (r 15 - 1)) : flt r 8 a b 0 = 1 := by unfold flt; rw [if_neg (by decide), if_neg (by decide), if_neg (by decide), if_neg (by decide), if_neg (by decide), if_neg (by decide), if_neg (by decide), if_neg (by decide), if_neg h]
theorem f_8A (h : bet a 0 (r 15 - 1)) (h2 : ¬ bet b 1 90) : flt r 8 a b 0 = 2 := by unfold flt; rw [if_neg (by decide), if_neg (by decide), if_neg (by decide), if_neg (by decide), if_neg (by decide), if_neg (by decide), if_neg (by decide), if_neg (by decide), if_pos h, if_neg h2]
end REFO
theorem n1_r : ∀ n, n < 15 → ¬ bet (Int32.ofNat n) 0 (Int32.ofNat n - 1) := by decide +kernel
theorem n2_r : ∀ n, n < 15 → ∀ k, k ≤ n → ¬ bet (Int32.ofNat n) 0 (Int32.ofNat k - 1) := by decide +kernel
theorem n3_r : ∀ n, n < 15 → ¬ Int32.ofNat n = 0 → bet 0 0 (Int32.ofNat n - 1) := by decide +kernel
theorem x15 : ∀ x : Int64, x = x := fun _ => rfl
theorem n_run0 {r g : yRow} : ol (oRun r g 0 0) = -9000000000000000002 := by
  unfold oRun
  rw [if_neg (fun z => absurd z.1 (by decide))]
  rfl
theorem n_run3 {r g : yRow} : ol (oRun r g 3 1000000000000000000) = -9000000000000000002 := by
  unfold oRun
  rw [if_pos (by decide), if_neg (by decide +kernel)]
  rfl
section ERR
variable {A : yAb} {M0 : yM}
theorem w136 (L0 : LW A M0) : LI (yX 136 0 [some (.ref 7), none, none, none, none, none] [] M0 0 0) M0 1 A := by
  obtain ⟨m1, m2⟩ := rokm L0.2.1.1
  obtain ⟨s1, s2⟩ := roks L0.2.1.1
  have i0 : ¬ bet (A.1 0) 0 (A.1 0 - 1) := by rw [m2]; exact n1_r _ (by omega)
  have i15 : ¬ bet (A.1 15) 0 (A.1 15 - 1) := by rw [s2]; exact n1_r _ (by omega)
  have p0 : ¬ A.1 0 = 0 → bet 0 0 (A.1 0 - 1) := by rw [m2]; exact n3_r _ (by omega)
  have p15 : ¬ A.1 15 = 0 → bet 0 0 (A.1 15 - 1) := by rw [s2]; exact n3_r _ (by omega)
  have ib : ¬ bet (A.1 15) 0 (Int32.ofNat (Spl A.1).2.2.2 - 1) := by
    obtain ⟨m', hP⟩ := Pin_Spl L0.2.1.1
    rw [s2]; exact n2_r _ (by omega) _ (Pin_kle hP)
  refine Ret.LI ?_
  have k708 : ∀ o3 o4 o5 (M : yM) (nc ns : Nat), St M0 A M → nc ≤ 545 → ns ≤ 3270 → Ret (yX 136 708 [some (.ref 7), some (.long (oNow A.1)), none, o3, o4, o5] [] M nc ns) (fun o M' => o = .inl (some (.int 1)) ∧ St M0 A M') := by
    intro o3 o4 o5 M nc ns S0 hc hn
    refine Ret.E (e136_708 ⟨by omega, by omega⟩) ?_
    exact Ret.cj S0 w135 (fun M1 S1 => Ret.pos rfl (Ret.I ⟨rfl, S1⟩))
  have k657 : ∀ o3 o4 o5 (M : yM) (nc ns : Nat), St M0 A M → nc ≤ 535 → ns ≤ 3210 → Ret (yX 136 657 [some (.ref 7), some (.long (oNow A.1)), none, o3, o4, o5] [] M nc ns) (fun o M' => o = .inl (some (.int 1)) ∧ St M0 A M') := by
    intro o3 o4 o5 M nc ns S0 hc hn
    refine Ret.E (e136_657 ⟨by omega, by omega⟩) ?_
    refine Ret.cj S0 (fun L => (w132 L).c (n_sim (by decide))) (fun M1 S1 => Ret.pos rfl ?_)
    refine Ret.cj S1 (fun L => (w133 L).n (n_sav (by decide)).1 (n_sav (by decide)).2) (fun M2 S2 => Ret.pos rfl ?_)
    refine Ret.cj S2 (fun L => (w134 L).n (n_res (by decide)).1 (n_res (by decide)).2) (fun M3 S3 => Ret.pos rfl ?_)
    refine Ret.cj S3 (fun L => (w107 L).n (n_app (by decide)).1 (n_app (by decide)).2) (fun M4 S4 => Ret.pos rfl ?_)
    exact k708 _ _ _ _ _ _ S4 (by omega) (by omega)
  have k603 : ∀ o3 o5 (M : yM) (nc ns : Nat), St M0 A M → nc ≤ 525 → ns ≤ 3150 → Ret (yX 136 603 [some (.ref 7), some (.long (oNow A.1)), none, o3, some (.int (A.1 15)), o5] [] M nc ns) (fun o M' => o = .inl (some (.int 1)) ∧ St M0 A M') := by
    intro o3 o5 M nc ns S0 hc hn
    refine Ret.E (e136_603 ⟨by omega, by omega⟩) ?_
    refine Ret.cj S0 (fun L => (w129 L).c (n_slk i15)) (fun M1 S1 => Ret.pos rfl ?_)
    refine Ret.cj S1 (fun L => (w130 L).c (n_bsv (by decide))) (fun M2 S2 => Ret.pos rfl ?_)
    refine Ret.cj S2 (fun L => (w131 L).c n_run0) (fun M3 S3 => Ret.pos rfl ?_)
    refine Ret.cj S3 (fun L => (w131 L).c n_run3) (fun M4 S4 => Ret.pos rfl ?_)
    exact k657 _ _ _ _ _ _ S4 (by omega) (by omega)
  have k551 : ∀ o3 o5 (M : yM) (nc ns : Nat), St M0 A M → nc ≤ 515 → ns ≤ 3090 → Ret (yX 136 551 [some (.ref 7), some (.long (oNow A.1)), none, o3, some (.int (A.1 15)), o5] [] M nc ns) (fun o M' => o = .inl (some (.int 1)) ∧ St M0 A M') := by
    intro o3 o5 M nc ns S0 hc hn
    refine Ret.E (e136_551 ⟨by omega, by omega⟩) ?_
    refine Ret.cj S0 (fun L => (w127 L).c (n_panI (by decide))) (fun M1 S1 => Ret.pos rfl ?_)
    refine Ret.cj S1 (fun L => (w127 L).c (n_panA (by decide) (by decide))) (fun M2 S2 => Ret.pos rfl ?_)
    refine Ret.cj S2 (fun L => (w128 L).c (n_svd (by decide))) (fun M3 S3 => Ret.pos rfl ?_)
    refine Ret.cj S3 (fun L => (w128 L).c (n_svd (by decide))) (fun M4 S4 => Ret.pos rfl ?_)
    exact k603 _ _ _ _ _ S4 (by omega) (by omega)
  have k498 : ∀ o3 o5 (M : yM) (nc ns : Nat), St M0 A M → nc ≤ 500 → ns ≤ 3000 → Ret (yX 136 498 [some (.ref 7), some (.long (oNow A.1)), none, o3, some (.int (A.1 15)), o5] [] M nc ns) (fun o M' => o = .inl (some (.int 1)) ∧ St M0 A M') := by
    intro o3 o5 M nc ns S0 hc hn
    refine Ret.E (e136_498 ⟨by omega, by omega⟩) ?_
    refine Ret.cj S0 (fun L => (w125 L).f2 (f_6A (by decide +kernel))) (fun M1 S1 => Ret.pos rfl ?_)
    refine Ret.cj S1 (fun L => (w125 L).f2 (f_6A (by decide +kernel))) (fun M2 S2 => Ret.pos rfl ?_)
    refine Ret.cj S2 (fun L => (w125 L).f2 (f_6A (by decide +kernel))) (fun M3 S3 => Ret.pos rfl ?_)
    refine Ret.cj S3 (fun L => (w125 L).f2 (f_6A (by decide +kernel))) (fun M4 S4 => Ret.pos rfl ?_)
    exact k551 _ _ _ _ _ S4 (by omega) (by omega)
  have k446 : ∀ o3 o5 (M : yM) (nc ns : Nat), St M0 A M → nc ≤ 485 → ns ≤ 2910 → Ret (yX 136 446 [some (.ref 7), some (.long (oNow A.1)), none, o3, some (.int (A.1 15)), o5] [] M nc ns) (fun o M' => o = .inl (some (.int 1)) ∧ St M0 A M') := by
    intro o3 o5 M nc ns S0 hc hn
    refine Ret.E (e136_446 ⟨by omega, by omega⟩) ?_
    refine Ret.cj S0 (fun L => (w124 L).f1 (f_4I (by decide))) (fun M1 S1 => Ret.pos rfl ?_)
    refine Ret.cj S1 (fun L => (w124 L).f2 (f_4A (by decide) (by decide))) (fun M2 S2 => Ret.pos rfl ?_)
    refine Ret.cj S2 (fun L => (w125 L).f2 (f_6A (by decide +kernel))) (fun M3 S3 => Ret.pos rfl ?_)
    refine Ret.cj S3 (fun L => (w125 L).f2 (f_6A (by decide +kernel))) (fun M4 S4 => Ret.pos rfl ?_)
    exact k498 _ _ _ _ _ S4 (by omega) (by omega)
  have k392 : ∀ o5 (M : yM) (nc ns : Nat), St M0 A M → nc ≤ 475 → ns ≤ 2850 → Ret (yX 136 392 [some (.ref 7), some (.long (oNow A.1)), none, some (.int (A.1 0)), some (.int (A.1 15)), o5] [] M nc ns) (fun o M' => o = .inl (some (.int 1)) ∧ St M0 A M') := by
    intro o5 M nc ns S0 hc hn
    refine Ret.E (e136_392 ⟨by omega, by omega⟩) ?_
    refine Ret.cj S0 (fun L => (w118 L).f1 (f_7I i0)) (fun M1 S1 => Ret.pos rfl ?_)
    refine Ret.cj S1 (fun L => (w121 L).f1 (f_8I i15)) (fun M2 S2 => Ret.pos rfl ?_)
    refine Ret.cj S2 (fun L => (w122 L (Or.inr rfl)).f1 (f_2I (fun z => i15 z.1))) (fun M3 S3 => Ret.pos rfl ?_)
    exact k446 _ _ _ _ _ S3 (by omega) (by omega)
  have k371 : ∀ o5 (M : yM) (nc ns : Nat), St M0 A M → nc ≤ 470 → ns ≤ 2820 → Ret (yX 136 371 [some (.ref 7), some (.long (oNow A.1)), none, some (.int (A.1 0)), some (.int (A.1 15)), o5] [] M nc ns) (fun o M' => o = .inl (some (.int 1)) ∧ St M0 A M') := by
    intro o5 M nc ns S0 hc hn
    refine Ret.E (e136_371 ⟨by omega, by omega⟩) ?_
    refine Ret.ite (fun h0 => ?_) (fun h0 => ?_)
    ·
      exact k392 _ _ _ _ S0 (by omega) (by omega)
    ·
      refine Ret.cj S0 (fun L => (w120 L (Or.inr rfl)).f3 (f_1S ⟨(by decide), (by decide)⟩ h0)) (fun M1 S1 => Ret.pos rfl ?_)
      exact k392 _ _ _ _ S1 (by omega) (by omega)
  have k315 : ∀ o5 (M : yM) (nc ns : Nat), St M0 A M → nc ≤ 455 → ns ≤ 2730 → Ret (yX 136 315 [some (.ref 7), some (.long (oNow A.1)), none, some (.int (A.1 0)), some (.int (A.1 15)), o5] [] M nc ns) (fun o M' => o = .inl (some (.int 1)) ∧ St M0 A M') := by
    intro o5 M nc ns S0 hc hn
    refine Ret.E (e136_315 ⟨by omega, by omega⟩) ?_
    refine Ret.cj S0 (fun L => (w119 L).s2 (f_5A (fun z => absurd z.1 (by decide)))) (fun M1 S1 => Ret.pos rfl ?_)
    refine Ret.cj S1 (fun L => (w119 L).s2 (f_5A (fun z => absurd z.2 (by decide)))) (fun M2 S2 => Ret.pos rfl ?_)
    refine Ret.cj S2 (fun L => (w120 L (Or.inr rfl)).f2 (f_1A (fun z => absurd z.1 (by decide)))) (fun M3 S3 => Ret.pos rfl ?_)
    refine Ret.cj S3 (fun L => (w120 L (Or.inr rfl)).f2 (f_1A (fun z => absurd z.2 (by decide)))) (fun M4 S4 => Ret.pos rfl ?_)
    exact k371 _ _ _ _ S4 (by omega) (by omega)
  have k256 : ∀ o5 (M : yM) (nc ns : Nat), St M0 A M → nc ≤ 445 → ns ≤ 2670 → Ret (yX 136 256 [some (.ref 7), some (.long (oNow A.1)), none, some (.int (A.1 0)), some (.int (A.1 15)), o5] [] M nc ns) (fun o M' => o = .inl (some (.int 1)) ∧ St M0 A M') := by
    intro o5 M nc ns S0 hc hn
    refine Ret.E (e136_256 ⟨by omega, by omega⟩) ?_
    refine Ret.cj S0 (fun L => (w116 L).c (n_dur (fun z => absurd z.1 (by decide)))) (fun M1 S1 => Ret.pos rfl ?_)
    refine Ret.cj S1 (fun L => (w116 L).c (n_dur (fun z => absurd z.2 (by decide)))) (fun M2 S2 => Ret.pos rfl ?_)
    refine Ret.cj S2 (fun L => (w117 L).f2 (f_0A (by decide))) (fun M3 S3 => Ret.pos rfl ?_)
    refine Ret.ite (fun h0 => ?_) (fun h0 => ?_)
    ·
      exact k315 _ _ _ _ S3 (by omega) (by omega)
    ·
      refine Ret.cj S3 (fun L => (w117 L).f3 (f_0S (by decide) h0)) (fun M4 S4 => Ret.pos rfl ?_)
      exact k315 _ _ _ _ S4 (by omega) (by omega)
  have k207 : ∀ o5 (M : yM) (nc ns : Nat), St M0 A M → nc ≤ 440 → ns ≤ 2640 → Ret (yX 136 207 [some (.ref 7), some (.long (oNow A.1)), none, some (.int (A.1 0)), some (.int (A.1 15)), o5] [] M nc ns) (fun o M' => o = .inl (some (.int 1)) ∧ St M0 A M') := by
    intro o5 M nc ns S0 hc hn
    refine Ret.E (e136_207 ⟨by omega, by omega⟩) ?_
    refine Ret.cj S0 (fun L => (w113 L).c (n_bgn (fun z => absurd z.1 (by decide)))) (fun M1 S1 => Ret.pos rfl ?_)
    refine Ret.cj S1 (fun L => (w113 L).c (n_bgn ib)) (fun M2 S2 => Ret.pos rfl ?_)
    refine Ret.cj S2 (fun L => (w114 L).c (n_pcs (by decide))) (fun M3 S3 => Ret.pos rfl ?_)
    refine Ret.cj S3 (fun L => (w115 L).c (n_set (by decide))) (fun M4 S4 => Ret.pos rfl ?_)
    exact k256 _ _ _ _ S4 (by omega) (by omega)
  have k150 : ∀ o5 (M : yM) (nc ns : Nat), ¬ A.1 15 = 0 → St M0 A M → nc ≤ 424 → ns ≤ 2544 → Ret (yX 136 150 [some (.ref 7), some (.long (oNow A.1)), none, some (.int (A.1 0)), some (.int (A.1 15)), o5] [] M nc ns) (fun o M' => o = .inl (some (.int 1)) ∧ St M0 A M') := by
    intro o5 M nc ns h0 S0 hc hn
    refine Ret.E (e136_150 ⟨by omega, by omega⟩) ?_
    refine Ret.cj S0 (fun L => (w121 L).f2 (f_8A (p15 h0) (by decide))) (fun M1 S1 => Ret.pos rfl ?_)
    refine Ret.cj S1 (fun L => (w123 L (Or.inr rfl)).f3 (f_3S (p15 h0))) (fun M2 S2 => Ret.pos rfl ?_)
    refine Ret.cj S2 (fun L => (w122 L (Or.inr rfl)).f1 (f_2I (fun z => i0 z.2))) (fun M3 S3 => Ret.pos rfl ?_)
    refine Ret.cj S3 (fun L => (w123 L (Or.inl rfl)).f1 (f_3I (fun z => i15 z.2))) (fun M4 S4 => Ret.pos rfl ?_)
    exact k207 _ _ _ _ S4 (by omega) (by omega)
  have k116 : ∀ o5 (M : yM) (nc ns : Nat), St M0 A M → nc ≤ 420 → ns ≤ 2520 → Ret (yX 136 116 [some (.ref 7), some (.long (oNow A.1)), none, some (.int (A.1 0)), some (.int (A.1 15)), o5] [] M nc ns) (fun o M' => o = .inl (some (.int 1)) ∧ St M0 A M') := by
    intro o5 M nc ns S0 hc hn
    refine Ret.E (e136_116 ⟨by omega, by omega⟩) ?_
    refine Ret.cj S0 (fun L => (w112 L).c (n_stpI i15)) (fun M1 S1 => Ret.pos rfl ?_)
    refine Ret.ite (fun h0 => ?_) (fun h0 => ?_)
    ·
      exact k207 _ _ _ _ S1 (by omega) (by omega)
    ·
      refine Ret.cj S1 (fun L => (w112 L).c (n_stpA (p15 h0) (by decide))) (fun M2 S2 => Ret.pos rfl ?_)
      exact k150 _ _ _ _ h0 S2 (by omega) (by omega)
  have k90 : ∀ o5 (M : yM) (nc ns : Nat), ¬ A.1 0 = 0 → St M0 A M → nc ≤ 411 → ns ≤ 2466 → Ret (yX 136 90 [some (.ref 7), some (.long (oNow A.1)), none, some (.int (A.1 0)), some (.int (A.1 15)), o5] [] M nc ns) (fun o M' => o = .inl (some (.int 1)) ∧ St M0 A M') := by
    intro o5 M nc ns h0 S0 hc hn
    refine Ret.E (e136_90 ⟨by omega, by omega⟩) ?_
    refine Ret.cj S0 (fun L => (w111 L).c (n_spnA (p0 h0) (by decide))) (fun M1 S1 => Ret.pos rfl ?_)
    refine Ret.cj S1 (fun L => (w118 L).f2 (f_7A (p0 h0) (by decide))) (fun M2 S2 => Ret.pos rfl ?_)
    exact k116 _ _ _ _ S2 (by omega) (by omega)
  have k32 : ∀ o5 (M : yM) (nc ns : Nat), St M0 A M → nc ≤ 403 → ns ≤ 2418 → Ret (yX 136 32 [some (.ref 7), some (.long (oNow A.1)), none, some (.int (A.1 0)), some (.int (A.1 15)), o5] [] M nc ns) (fun o M' => o = .inl (some (.int 1)) ∧ St M0 A M') := by
    intro o5 M nc ns S0 hc hn
    refine Ret.E (e136_32 ⟨by omega, by omega⟩) ?_
    refine Ret.cj S0 (fun L => (w109 L).c (n_abt (by decide))) (fun M1 S1 => Ret.pos rfl ?_)
    refine Ret.cj S1 (fun L => (w110 L).c (n_ingI i0)) (fun M2 S2 => Ret.pos rfl ?_)
    refine Ret.cj S2 (fun L => (w111 L).c (n_spnI i0)) (fun M3 S3 => Ret.pos rfl ?_)
    refine Ret.ite (fun h0 => ?_) (fun h0 => ?_)
    ·
      exact k116 _ _ _ _ S3 (by omega) (by omega)
    ·
      refine Ret.cj S3 (fun L => (w110 L).c (n_ingA (p0 h0) (by decide))) (fun M4 S4 => Ret.pos rfl ?_)
      exact k90 _ _ _ _ h0 S4 (by omega) (by omega)
  refine Ret.E (e136 ⟨by omega, by omega⟩) ?_
  refine Ret.cj (St.rf L0) w135 (fun M1 S1 => ?_)
  refine Ret.cj S1 (fun L => (w109 L).c ol_abt0) (fun M2 S2 => ?_)
  refine Ret.cj S2 (fun L => (w109 L).c ol_abt1) (fun M3 S3 => ?_)
  refine Ret.cj S3 (fun L => (w109 L).c (n_abt (by decide))) (fun M4 S4 => Ret.pos rfl ?_)
  rw [i64_i32, i64_i32]
  exact k32 _ _ _ _ S4 (by omega) (by omega)
end ERR
