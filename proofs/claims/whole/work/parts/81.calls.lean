/-! the law's calls by cases -/
def LK (S : Nat → Int32) (N : Nat) (x : Int32) (nc ns : Nat) : Prop := ∀ (M : yM) (A : yAb) (o5 o6 : Option Value) (nc' ns' : Nat), LI M A S N → nc' ≤ nc + 3 → ns' ≤ ns + 18 → ∃ M', yX 240 23 [some (.ref 0), some (.ref 7), some (.ref 190), some (.ref 202), some (.int (x + 4)), o5, o6] [] M nc' ns' = yI 1 M'
section LCA
variable {M : yM} {A : yAb} {S : Nat → Int32} {N : Nat} {x : Int32} {nc ns : Nat} {o5 o6 : Option Value}
theorem l_176 (hI : LI M A S N) (hn : nc + 4 ≤ 601024 ∧ ns + 24 ≤ 7293034) (y1 : yinB (x + 1) N = true) (y2 : yinB (x + 2) N = true) (y3 : yinB (x + 3) N = true) (hk : LK S N x nc ns) : ∃ M', yX 240 176 [some (.ref 0), some (.ref 7), some (.ref 190), some (.ref 202), some (.int x), o5, o6] [] M nc ns = yI 1 M' := by
  have hN : ylen M = N := hI.2.2.2.2.2
  obtain ⟨M1, b, M2, a1, a2, a3, a4, a5, a6, a7⟩ := both (fun M' => yX 155 0 [some (.ref 190), some (.int (M 0 (yx (x + 1))))] [] M' 0 0) hI (nApp_ok hI.2.2.1 hI.2.2.2.1) (CR.wrap (c58 hI.1 hI.2.2.1 (c := M 0 (yx (x + 1)))) e212 (g_12A x_app)) (fun M1 hr h192 h193 => c155 hr hI.2.2.1) cd0A
  have e := e240_176 (x4 := x) (o5 := o5) (o6 := o6) (M := M) hn
  rw [hN, if_pos y1, a1, yCi_I, a3, hN, if_pos y1, a2, a4, yCi_I, a5, yCi_I, if_pos rfl] at e
  split at e
  · next z =>
    rw [if_pos (by rw [a6 z])] at e
    obtain ⟨M', k⟩ := hk M2 _ _ _ (nc + 2) (ns + 12) a7 (by omega) (by omega)
    exact ⟨M', yL.I e k⟩
  · obtain ⟨M', k⟩ := hk M2 _ _ _ (nc + 2) (ns + 12) a7 (by omega) (by omega)
    exact ⟨M', yL.I e k⟩
theorem l_258 (hI : LI M A S N) (hn : nc + 4 ≤ 601024 ∧ ns + 24 ≤ 7293034) (y1 : yinB (x + 1) N = true) (y2 : yinB (x + 2) N = true) (y3 : yinB (x + 3) N = true) (hk : LK S N x nc ns) : ∃ M', yX 240 258 [some (.ref 0), some (.ref 7), some (.ref 190), some (.ref 202), some (.int x), o5, o6] [] M nc ns = yI 1 M' := by
  have hN : ylen M = N := hI.2.2.2.2.2
  obtain ⟨M1, b, M2, a1, a2, a3, a4, a5, a6, a7⟩ := both (fun M' => yX 171 0 [some (.ref 190)] [] M' 0 0) hI (nLd_ok hI.2.2.1 hI.2.2.2.1 (M 193)) (CR.wrap (c61 hI.1 hI.2.2.1 (M 193)) e213 (g_2U x_ld)) (fun M1 hr h192 h193 => (by have k := c171 hr hI.2.2.1; rw [h193] at k; exact k)) cd0U
  have e := e240_258 (x4 := x) (o5 := o5) (o6 := o6) (M := M) hn
  rw [a1, yCi_I, a4, yCi_I, a5, yCi_I, if_pos rfl] at e
  split at e
  · next z =>
    rw [if_pos (by rw [a6 z])] at e
    obtain ⟨M', k⟩ := hk M2 _ _ _ (nc + 1) (ns + 6) a7 (by omega) (by omega)
    exact ⟨M', yL.I e k⟩
  · obtain ⟨M', k⟩ := hk M2 _ _ _ (nc + 1) (ns + 6) a7 (by omega) (by omega)
    exact ⟨M', yL.I e k⟩
theorem l_302 (hI : LI M A S N) (hn : nc + 4 ≤ 601024 ∧ ns + 24 ≤ 7293034) (y1 : yinB (x + 1) N = true) (y2 : yinB (x + 2) N = true) (y3 : yinB (x + 3) N = true) (hk : LK S N x nc ns) : ∃ M', yX 240 302 [some (.ref 0), some (.ref 7), some (.ref 190), some (.ref 202), some (.int x), o5, o6] [] M nc ns = yI 1 M' := by
  have hN : ylen M = N := hI.2.2.2.2.2
  obtain ⟨M1, b, M2, a1, a2, a3, a4, a5, a6, a7⟩ := both (fun M' => yX 174 0 [some (.ref 190), some (.int (M 0 (yx (x + 1))))] [] M' 0 0) hI (⟨hI.2.2.1, hI.2.2.2.1⟩) (CR.wrap (c62 hI.1 hI.2.2.1 (w := M 0 (yx (x + 1)))) e214 (g_1A x_abt)) (fun M1 hr h192 h193 => c174 hr hI.2.2.1) cd0A
  have e := e240_302 (x4 := x) (o5 := o5) (o6 := o6) (M := M) hn
  rw [hN, if_pos y1, a1, yCi_I, a3, hN, if_pos y1, a2, a4, yCi_I, a5, yCi_I, if_pos rfl] at e
  split at e
  · next z =>
    rw [if_pos (by rw [a6 z])] at e
    obtain ⟨M', k⟩ := hk M2 _ _ _ (nc + 1) (ns + 6) a7 (by omega) (by omega)
    exact ⟨M', yL.I e k⟩
  · obtain ⟨M', k⟩ := hk M2 _ _ _ (nc + 1) (ns + 6) a7 (by omega) (by omega)
    exact ⟨M', yL.I e k⟩
theorem l_358 (hI : LI M A S N) (hn : nc + 4 ≤ 601024 ∧ ns + 24 ≤ 7293034) (y1 : yinB (x + 1) N = true) (y2 : yinB (x + 2) N = true) (y3 : yinB (x + 3) N = true) (hk : LK S N x nc ns) : ∃ M', yX 240 358 [some (.ref 0), some (.ref 7), some (.ref 190), some (.ref 202), some (.int x), o5, o6] [] M nc ns = yI 1 M' := by
  have hN : ylen M = N := hI.2.2.2.2.2
  obtain ⟨M1, b, M2, a1, a2, a3, a4, a5, a6, a7⟩ := both (fun M' => yX 177 0 [some (.ref 190), some (.int (M 0 (yx (x + 1)))), some (.int (M 0 (yx (x + 2))))] [] M' 0 0) hI (⟨hI.2.2.1, hI.2.2.2.1⟩) (CR.wrap (c63 hI.1 hI.2.2.1 (i := M 0 (yx (x + 1))) (w := M 0 (yx (x + 2)))) e215 (g_01B x_ing)) (fun M1 hr h192 h193 => c177 hr hI.2.2.1) cd0B
  have e := e240_358 (x4 := x) (o5 := o5) (o6 := o6) (M := M) hn
  rw [hN, if_pos y1, if_pos y2, a1, yCi_I, a3, hN, if_pos y1, if_pos y2, a2, a4, yCi_I, a5, yCi_I, if_pos rfl] at e
  split at e
  · next z =>
    rw [if_pos (by rw [a6 z])] at e
    obtain ⟨M', k⟩ := hk M2 _ _ _ (nc + 2) (ns + 12) a7 (by omega) (by omega)
    exact ⟨M', yL.I e k⟩
  · obtain ⟨M', k⟩ := hk M2 _ _ _ (nc + 2) (ns + 12) a7 (by omega) (by omega)
    exact ⟨M', yL.I e k⟩
theorem l_426 (hI : LI M A S N) (hn : nc + 4 ≤ 601024 ∧ ns + 24 ≤ 7293034) (y1 : yinB (x + 1) N = true) (y2 : yinB (x + 2) N = true) (y3 : yinB (x + 3) N = true) (hk : LK S N x nc ns) : ∃ M', yX 240 426 [some (.ref 0), some (.ref 7), some (.ref 190), some (.ref 202), some (.int x), o5, o6] [] M nc ns = yI 1 M' := by
  have hN : ylen M = N := hI.2.2.2.2.2
  obtain ⟨M1, b, M2, a1, a2, a3, a4, a5, a6, a7⟩ := both (fun M' => yX 178 0 [some (.ref 190), some (.int (M 0 (yx (x + 1)))), some (.int (M 0 (yx (x + 2))))] [] M' 0 0) hI (⟨hI.2.2.1, hI.2.2.2.1⟩) (CR.wrap (c64 hI.1 hI.2.2.1 (i := M 0 (yx (x + 1))) (m := M 0 (yx (x + 2)))) e216 (g_01B x_spn)) (fun M1 hr h192 h193 => c178 hr hI.2.2.1) cd0B
  have e := e240_426 (x4 := x) (o5 := o5) (o6 := o6) (M := M) hn
  rw [hN, if_pos y1, if_pos y2, a1, yCi_I, a3, hN, if_pos y1, if_pos y2, a2, a4, yCi_I, a5, yCi_I, if_pos rfl] at e
  split at e
  · next z =>
    rw [if_pos (by rw [a6 z])] at e
    obtain ⟨M', k⟩ := hk M2 _ _ _ (nc + 2) (ns + 12) a7 (by omega) (by omega)
    exact ⟨M', yL.I e k⟩
  · obtain ⟨M', k⟩ := hk M2 _ _ _ (nc + 2) (ns + 12) a7 (by omega) (by omega)
    exact ⟨M', yL.I e k⟩
theorem l_494 (hI : LI M A S N) (hn : nc + 4 ≤ 601024 ∧ ns + 24 ≤ 7293034) (y1 : yinB (x + 1) N = true) (y2 : yinB (x + 2) N = true) (y3 : yinB (x + 3) N = true) (hk : LK S N x nc ns) : ∃ M', yX 240 494 [some (.ref 0), some (.ref 7), some (.ref 190), some (.ref 202), some (.int x), o5, o6] [] M nc ns = yI 1 M' := by
  have hN : ylen M = N := hI.2.2.2.2.2
  obtain ⟨M1, b, M2, a1, a2, a3, a4, a5, a6, a7⟩ := both (fun M' => yX 179 0 [some (.ref 190), some (.int (M 0 (yx (x + 1)))), some (.int (M 0 (yx (x + 2))))] [] M' 0 0) hI (⟨hI.2.2.1, hI.2.2.2.1⟩) (CR.wrap (c65 hI.1 hI.2.2.1 (s := M 0 (yx (x + 1))) (w := M 0 (yx (x + 2)))) e217 (g_01B x_stp)) (fun M1 hr h192 h193 => c179 hr hI.2.2.1) cd0B
  have e := e240_494 (x4 := x) (o5 := o5) (o6 := o6) (M := M) hn
  rw [hN, if_pos y1, if_pos y2, a1, yCi_I, a3, hN, if_pos y1, if_pos y2, a2, a4, yCi_I, a5, yCi_I, if_pos rfl] at e
  split at e
  · next z =>
    rw [if_pos (by rw [a6 z])] at e
    obtain ⟨M', k⟩ := hk M2 _ _ _ (nc + 2) (ns + 12) a7 (by omega) (by omega)
    exact ⟨M', yL.I e k⟩
  · obtain ⟨M', k⟩ := hk M2 _ _ _ (nc + 2) (ns + 12) a7 (by omega) (by omega)
    exact ⟨M', yL.I e k⟩
theorem l_562 (hI : LI M A S N) (hn : nc + 4 ≤ 601024 ∧ ns + 24 ≤ 7293034) (y1 : yinB (x + 1) N = true) (y2 : yinB (x + 2) N = true) (y3 : yinB (x + 3) N = true) (hk : LK S N x nc ns) : ∃ M', yX 240 562 [some (.ref 0), some (.ref 7), some (.ref 190), some (.ref 202), some (.int x), o5, o6] [] M nc ns = yI 1 M' := by
  have hN : ylen M = N := hI.2.2.2.2.2
  obtain ⟨M1, b, M2, a1, a2, a3, a4, a5, a6, a7⟩ := both (fun M' => yX 180 0 [some (.ref 190), some (.int (M 0 (yx (x + 1))))] [] M' 0 0) hI (⟨hI.2.2.1, hI.2.2.2.1⟩) (CR.wrap (c66 hI.1 hI.2.2.1 (q := M 0 (yx (x + 1)))) e218 (g_0B x_bgn)) (fun M1 hr h192 h193 => c180 hr hI.2.2.1) cd0B
  have e := e240_562 (x4 := x) (o5 := o5) (o6 := o6) (M := M) hn
  rw [hN, if_pos y1, a1, yCi_I, a3, hN, if_pos y1, a2, a4, yCi_I, a5, yCi_I, if_pos rfl] at e
  split at e
  · next z =>
    rw [if_pos (by rw [a6 z])] at e
    obtain ⟨M', k⟩ := hk M2 _ _ _ (nc + 1) (ns + 6) a7 (by omega) (by omega)
    exact ⟨M', yL.I e k⟩
  · obtain ⟨M', k⟩ := hk M2 _ _ _ (nc + 1) (ns + 6) a7 (by omega) (by omega)
    exact ⟨M', yL.I e k⟩
theorem l_618 (hI : LI M A S N) (hn : nc + 4 ≤ 601024 ∧ ns + 24 ≤ 7293034) (y1 : yinB (x + 1) N = true) (y2 : yinB (x + 2) N = true) (y3 : yinB (x + 3) N = true) (hk : LK S N x nc ns) : ∃ M', yX 240 618 [some (.ref 0), some (.ref 7), some (.ref 190), some (.ref 202), some (.int x), o5, o6] [] M nc ns = yI 1 M' := by
  have hN : ylen M = N := hI.2.2.2.2.2
  obtain ⟨M1, b, M2, a1, a2, a3, a4, a5, a6, a7⟩ := both (fun M' => yX 181 0 [some (.ref 190), some (.int (M 0 (yx (x + 1))))] [] M' 0 0) hI (⟨hI.2.2.1, hI.2.2.2.1⟩) (CR.wrap (c67 hI.1 (k := M 0 (yx (x + 1)))) e219 (g_0B x_pcs)) (fun M1 hr h192 h193 => c181 hr) cd0B
  have e := e240_618 (x4 := x) (o5 := o5) (o6 := o6) (M := M) hn
  rw [hN, if_pos y1, a1, yCi_I, a3, hN, if_pos y1, a2, a4, yCi_I, a5, yCi_I, if_pos rfl] at e
  split at e
  · next z =>
    rw [if_pos (by rw [a6 z])] at e
    obtain ⟨M', k⟩ := hk M2 _ _ _ (nc + 1) (ns + 6) a7 (by omega) (by omega)
    exact ⟨M', yL.I e k⟩
  · obtain ⟨M', k⟩ := hk M2 _ _ _ (nc + 1) (ns + 6) a7 (by omega) (by omega)
    exact ⟨M', yL.I e k⟩
theorem l_674 (hI : LI M A S N) (hn : nc + 4 ≤ 601024 ∧ ns + 24 ≤ 7293034) (y1 : yinB (x + 1) N = true) (y2 : yinB (x + 2) N = true) (y3 : yinB (x + 3) N = true) (hk : LK S N x nc ns) : ∃ M', yX 240 674 [some (.ref 0), some (.ref 7), some (.ref 190), some (.ref 202), some (.int x), o5, o6] [] M nc ns = yI 1 M' := by
  have hN : ylen M = N := hI.2.2.2.2.2
  obtain ⟨M1, b, M2, a1, a2, a3, a4, a5, a6, a7⟩ := both (fun M' => yX 182 0 [some (.ref 190), some (.int (M 0 (yx (x + 1))))] [] M' 0 0) hI (⟨hI.2.2.1, hI.2.2.2.1⟩) (CR.wrap (c68 hI.1 (w := M 0 (yx (x + 1)))) e220 (g_1A x_set)) (fun M1 hr h192 h193 => c182 hr) cd0A
  have e := e240_674 (x4 := x) (o5 := o5) (o6 := o6) (M := M) hn
  rw [hN, if_pos y1, a1, yCi_I, a3, hN, if_pos y1, a2, a4, yCi_I, a5, yCi_I, if_pos rfl] at e
  split at e
  · next z =>
    rw [if_pos (by rw [a6 z])] at e
    obtain ⟨M', k⟩ := hk M2 _ _ _ (nc + 1) (ns + 6) a7 (by omega) (by omega)
    exact ⟨M', yL.I e k⟩
  · obtain ⟨M', k⟩ := hk M2 _ _ _ (nc + 1) (ns + 6) a7 (by omega) (by omega)
    exact ⟨M', yL.I e k⟩
theorem l_730 (hI : LI M A S N) (hn : nc + 4 ≤ 601024 ∧ ns + 24 ≤ 7293034) (y1 : yinB (x + 1) N = true) (y2 : yinB (x + 2) N = true) (y3 : yinB (x + 3) N = true) (hk : LK S N x nc ns) : ∃ M', yX 240 730 [some (.ref 0), some (.ref 7), some (.ref 190), some (.ref 202), some (.int x), o5, o6] [] M nc ns = yI 1 M' := by
  have hN : ylen M = N := hI.2.2.2.2.2
  obtain ⟨M1, b, M2, a1, a2, a3, a4, a5, a6, a7⟩ := both (fun M' => yX 183 0 [some (.ref 190), some (.int (M 0 (yx (x + 1)))), some (.int (M 0 (yx (x + 2))))] [] M' 0 0) hI (⟨hI.2.2.1, hI.2.2.2.1⟩) (CR.wrap (c69 hI.1 hI.2.2.1 (m := M 0 (yx (x + 1))) (w := M 0 (yx (x + 2)))) e221 (g_1A x_dur)) (fun M1 hr h192 h193 => c183 hr hI.2.2.1) cd0A
  have e := e240_730 (x4 := x) (o5 := o5) (o6 := o6) (M := M) hn
  rw [hN, if_pos y1, if_pos y2, a1, yCi_I, a3, hN, if_pos y1, if_pos y2, a2, a4, yCi_I, a5, yCi_I, if_pos rfl] at e
  split at e
  · next z =>
    rw [if_pos (by rw [a6 z])] at e
    obtain ⟨M', k⟩ := hk M2 _ _ _ (nc + 1) (ns + 6) a7 (by omega) (by omega)
    exact ⟨M', yL.I e k⟩
  · obtain ⟨M', k⟩ := hk M2 _ _ _ (nc + 1) (ns + 6) a7 (by omega) (by omega)
    exact ⟨M', yL.I e k⟩
theorem l_798 (hI : LI M A S N) (hn : nc + 4 ≤ 601024 ∧ ns + 24 ≤ 7293034) (y1 : yinB (x + 1) N = true) (y2 : yinB (x + 2) N = true) (y3 : yinB (x + 3) N = true) (hk : LK S N x nc ns) : ∃ M', yX 240 798 [some (.ref 0), some (.ref 7), some (.ref 190), some (.ref 202), some (.int x), o5, o6] [] M nc ns = yI 1 M' := by
  have hN : ylen M = N := hI.2.2.2.2.2
  obtain ⟨M1, b, M2, a1, a2, a3, a4, a5, a6, a7⟩ := both (fun M' => yX 184 0 [some (.ref 190), some (.int (M 0 (yx (x + 1))))] [] M' 0 0) hI (⟨nAct_ok hI.2.2.1 ⟨by decide, by decide⟩, nAct_tg hI.2.2.1 hI.2.2.2.1⟩) (CR.wrap (c70 hI.1 hI.2.2.1 (a := M 0 (yx (x + 1)))) e222 (g_12A x_a0)) (fun M1 hr h192 h193 => c184 hr hI.2.2.1) cd0A
  have e := e240_798 (x4 := x) (o5 := o5) (o6 := o6) (M := M) hn
  rw [hN, if_pos y1, a1, yCi_I, a3, hN, if_pos y1, a2, a4, yCi_I, a5, yCi_I, if_pos rfl] at e
  split at e
  · next z =>
    rw [if_pos (by rw [a6 z])] at e
    obtain ⟨M', k⟩ := hk M2 _ _ _ (nc + 3) (ns + 18) a7 (by omega) (by omega)
    exact ⟨M', yL.I e k⟩
  · obtain ⟨M', k⟩ := hk M2 _ _ _ (nc + 3) (ns + 18) a7 (by omega) (by omega)
    exact ⟨M', yL.I e k⟩
theorem l_854 (hI : LI M A S N) (hn : nc + 4 ≤ 601024 ∧ ns + 24 ≤ 7293034) (y1 : yinB (x + 1) N = true) (y2 : yinB (x + 2) N = true) (y3 : yinB (x + 3) N = true) (hk : LK S N x nc ns) : ∃ M', yX 240 854 [some (.ref 0), some (.ref 7), some (.ref 190), some (.ref 202), some (.int x), o5, o6] [] M nc ns = yI 1 M' := by
  have hN : ylen M = N := hI.2.2.2.2.2
  obtain ⟨M1, b, M2, a1, a2, a3, a4, a5, a6, a7⟩ := both (fun M' => yX 185 0 [some (.ref 190), some (.int (M 0 (yx (x + 1)))), some (.int (M 0 (yx (x + 2))))] [] M' 0 0) hI (⟨nAct_ok hI.2.2.1 ⟨by decide, by decide⟩, nAct_tg hI.2.2.1 hI.2.2.2.1⟩) (CR.wrap (c71 hI.1 hI.2.2.1 (a := M 0 (yx (x + 1))) (b := M 0 (yx (x + 2)))) e223 (g_01B x_a7)) (fun M1 hr h192 h193 => c185 hr hI.2.2.1) cd0B
  have e := e240_854 (x4 := x) (o5 := o5) (o6 := o6) (M := M) hn
  rw [hN, if_pos y1, if_pos y2, a1, yCi_I, a3, hN, if_pos y1, if_pos y2, a2, a4, yCi_I, a5, yCi_I, if_pos rfl] at e
  split at e
  · next z =>
    rw [if_pos (by rw [a6 z])] at e
    obtain ⟨M', k⟩ := hk M2 _ _ _ (nc + 3) (ns + 18) a7 (by omega) (by omega)
    exact ⟨M', yL.I e k⟩
  · obtain ⟨M', k⟩ := hk M2 _ _ _ (nc + 3) (ns + 18) a7 (by omega) (by omega)
    exact ⟨M', yL.I e k⟩
theorem l_922 (hI : LI M A S N) (hn : nc + 4 ≤ 601024 ∧ ns + 24 ≤ 7293034) (y1 : yinB (x + 1) N = true) (y2 : yinB (x + 2) N = true) (y3 : yinB (x + 3) N = true) (hk : LK S N x nc ns) : ∃ M', yX 240 922 [some (.ref 0), some (.ref 7), some (.ref 190), some (.ref 202), some (.int x), o5, o6] [] M nc ns = yI 1 M' := by
  have hN : ylen M = N := hI.2.2.2.2.2
  obtain ⟨M1, b, M2, a1, a2, a3, a4, a5, a6, a7⟩ := both (fun M' => yX 186 0 [some (.ref 190), some (.int (M 0 (yx (x + 1)))), some (.int (M 0 (yx (x + 2))))] [] M' 0 0) hI (⟨nAct_ok hI.2.2.1 ⟨by decide, by decide⟩, nAct_tg hI.2.2.1 hI.2.2.2.1⟩) (CR.wrap (c72 hI.1 hI.2.2.1 (a := M 0 (yx (x + 1))) (b := M 0 (yx (x + 2)))) e224 (g_1A x_srv)) (fun M1 hr h192 h193 => c186 hr hI.2.2.1) cd0A
  have e := e240_922 (x4 := x) (o5 := o5) (o6 := o6) (M := M) hn
  rw [hN, if_pos y1, if_pos y2, a1, yCi_I, a3, hN, if_pos y1, if_pos y2, a2, a4, yCi_I, a5, yCi_I, if_pos rfl] at e
  split at e
  · next z =>
    rw [if_pos (by rw [a6 z])] at e
    obtain ⟨M', k⟩ := hk M2 _ _ _ (nc + 3) (ns + 18) a7 (by omega) (by omega)
    exact ⟨M', yL.I e k⟩
  · obtain ⟨M', k⟩ := hk M2 _ _ _ (nc + 3) (ns + 18) a7 (by omega) (by omega)
    exact ⟨M', yL.I e k⟩
theorem l_1086 (hI : LI M A S N) (hn : nc + 4 ≤ 601024 ∧ ns + 24 ≤ 7293034) (y1 : yinB (x + 1) N = true) (y2 : yinB (x + 2) N = true) (y3 : yinB (x + 3) N = true) (hk : LK S N x nc ns) : ∃ M', yX 240 1086 [some (.ref 0), some (.ref 7), some (.ref 190), some (.ref 202), some (.int x), o5, o6] [] M nc ns = yI 1 M' := by
  have hN : ylen M = N := hI.2.2.2.2.2
  obtain ⟨M1, b, M2, a1, a2, a3, a4, a5, a6, a7⟩ := both (fun M' => yX 188 0 [some (.ref 190), some (.int (M 0 (yx (x + 1)))), some (.int (M 0 (yx (x + 2))))] [] M' 0 0) hI (⟨nAct_ok hI.2.2.1 ⟨by decide, by decide⟩, nAct_tg hI.2.2.1 hI.2.2.2.1⟩) (CR.wrap (c74 hI.1 hI.2.2.1 (a := M 0 (yx (x + 1))) (b := M 0 (yx (x + 2)))) e226 (g_01B x_a8)) (fun M1 hr h192 h193 => c188 hr hI.2.2.1) cd0B
  have e := e240_1086 (x4 := x) (o5 := o5) (o6 := o6) (M := M) hn
  rw [hN, if_pos y1, if_pos y2, a1, yCi_I, a3, hN, if_pos y1, if_pos y2, a2, a4, yCi_I, a5, yCi_I, if_pos rfl] at e
  split at e
  · next z =>
    rw [if_pos (by rw [a6 z])] at e
    obtain ⟨M', k⟩ := hk M2 _ _ _ (nc + 3) (ns + 18) a7 (by omega) (by omega)
    exact ⟨M', yL.I e k⟩
  · obtain ⟨M', k⟩ := hk M2 _ _ _ (nc + 3) (ns + 18) a7 (by omega) (by omega)
    exact ⟨M', yL.I e k⟩
theorem l_1346 (hI : LI M A S N) (hn : nc + 4 ≤ 601024 ∧ ns + 24 ≤ 7293034) (y1 : yinB (x + 1) N = true) (y2 : yinB (x + 2) N = true) (y3 : yinB (x + 3) N = true) (hk : LK S N x nc ns) : ∃ M', yX 240 1346 [some (.ref 0), some (.ref 7), some (.ref 190), some (.ref 202), some (.int x), o5, o6] [] M nc ns = yI 1 M' := by
  have hN : ylen M = N := hI.2.2.2.2.2
  obtain ⟨M1, b, M2, a1, a2, a3, a4, a5, a6, a7⟩ := both (fun M' => yX 191 0 [some (.ref 190), some (.int (M 0 (yx (x + 1)))), some (.int (M 0 (yx (x + 2))))] [] M' 0 0) hI (⟨nAct_ok hI.2.2.1 ⟨by decide, by decide⟩, nAct_tg hI.2.2.1 hI.2.2.2.1⟩) (CR.wrap (c77 hI.1 hI.2.2.1 (a := M 0 (yx (x + 1))) (b := M 0 (yx (x + 2)))) e229 (g_01B x_a4)) (fun M1 hr h192 h193 => c191 hr hI.2.2.1) cd0B
  have e := e240_1346 (x4 := x) (o5 := o5) (o6 := o6) (M := M) hn
  rw [hN, if_pos y1, if_pos y2, a1, yCi_I, a3, hN, if_pos y1, if_pos y2, a2, a4, yCi_I, a5, yCi_I, if_pos rfl] at e
  split at e
  · next z =>
    rw [if_pos (by rw [a6 z])] at e
    obtain ⟨M', k⟩ := hk M2 _ _ _ (nc + 3) (ns + 18) a7 (by omega) (by omega)
    exact ⟨M', yL.I e k⟩
  · obtain ⟨M', k⟩ := hk M2 _ _ _ (nc + 3) (ns + 18) a7 (by omega) (by omega)
    exact ⟨M', yL.I e k⟩
theorem l_1414 (hI : LI M A S N) (hn : nc + 4 ≤ 601024 ∧ ns + 24 ≤ 7293034) (y1 : yinB (x + 1) N = true) (y2 : yinB (x + 2) N = true) (y3 : yinB (x + 3) N = true) (hk : LK S N x nc ns) : ∃ M', yX 240 1414 [some (.ref 0), some (.ref 7), some (.ref 190), some (.ref 202), some (.int x), o5, o6] [] M nc ns = yI 1 M' := by
  have hN : ylen M = N := hI.2.2.2.2.2
  obtain ⟨M1, b, M2, a1, a2, a3, a4, a5, a6, a7⟩ := both (fun M' => yX 192 0 [some (.ref 190), some (.int (M 0 (yx (x + 1)))), some (.int (M 0 (yx (x + 2))))] [] M' 0 0) hI (⟨nAct_ok hI.2.2.1 ⟨by decide, by decide⟩, nAct_tg hI.2.2.1 hI.2.2.2.1⟩) (CR.wrap (c78 hI.1 hI.2.2.1 (a := M 0 (yx (x + 1))) (b := M 0 (yx (x + 2)))) e230 (g_1A x_a6)) (fun M1 hr h192 h193 => c192 hr hI.2.2.1) cd0A
  have e := e240_1414 (x4 := x) (o5 := o5) (o6 := o6) (M := M) hn
  rw [hN, if_pos y1, if_pos y2, a1, yCi_I, a3, hN, if_pos y1, if_pos y2, a2, a4, yCi_I, a5, yCi_I, if_pos rfl] at e
  split at e
  · next z =>
    rw [if_pos (by rw [a6 z])] at e
    obtain ⟨M', k⟩ := hk M2 _ _ _ (nc + 3) (ns + 18) a7 (by omega) (by omega)
    exact ⟨M', yL.I e k⟩
  · obtain ⟨M', k⟩ := hk M2 _ _ _ (nc + 3) (ns + 18) a7 (by omega) (by omega)
    exact ⟨M', yL.I e k⟩
theorem l_1482 (hI : LI M A S N) (hn : nc + 4 ≤ 601024 ∧ ns + 24 ≤ 7293034) (y1 : yinB (x + 1) N = true) (y2 : yinB (x + 2) N = true) (y3 : yinB (x + 3) N = true) (hk : LK S N x nc ns) : ∃ M', yX 240 1482 [some (.ref 0), some (.ref 7), some (.ref 190), some (.ref 202), some (.int x), o5, o6] [] M nc ns = yI 1 M' := by
  have hN : ylen M = N := hI.2.2.2.2.2
  obtain ⟨M1, b, M2, a1, a2, a3, a4, a5, a6, a7⟩ := both (fun M' => yX 193 0 [some (.ref 190), none] [] M' 0 0) hI (nUnd_ok hI.2.2.1 hI.2.2.2.1) (CR.wrap (c79 hI.1 hI.2.2.1) e231 (g_2U x_und)) (fun M1 hr h192 h193 => c193 hr hI.2.2.1) cd0U
  have e := e240_1482 (x4 := x) (o5 := o5) (o6 := o6) (M := M) hn
  rw [a1, yCi_I, a4, yCi_I, a5, yCi_I, if_pos rfl] at e
  split at e
  · next z =>
    rw [if_pos (by rw [a6 z])] at e
    obtain ⟨M', k⟩ := hk M2 _ _ _ (nc + 1) (ns + 6) a7 (by omega) (by omega)
    exact ⟨M', yL.I e k⟩
  · obtain ⟨M', k⟩ := hk M2 _ _ _ (nc + 1) (ns + 6) a7 (by omega) (by omega)
    exact ⟨M', yL.I e k⟩
theorem l_1526 (hI : LI M A S N) (hn : nc + 4 ≤ 601024 ∧ ns + 24 ≤ 7293034) (y1 : yinB (x + 1) N = true) (y2 : yinB (x + 2) N = true) (y3 : yinB (x + 3) N = true) (hk : LK S N x nc ns) : ∃ M', yX 240 1526 [some (.ref 0), some (.ref 7), some (.ref 190), some (.ref 202), some (.int x), o5, o6] [] M nc ns = yI 1 M' := by
  have hN : ylen M = N := hI.2.2.2.2.2
  obtain ⟨M1, b, M2, a1, a2, a3, a4, a5, a6, a7⟩ := both (fun M' => yX 194 0 [some (.ref 190), some (.int (M 0 (yx (x + 1)))), some (.int (M 0 (yx (x + 2))))] [] M' 0 0) hI (⟨hI.2.2.1, hI.2.2.2.1⟩) (CR.wrap (c80 hI.1 hI.2.2.1 hI.2.2.2.1 (M 192) (k := M 0 (yx (x + 1))) (w := M 0 (yx (x + 2)))) e232 (g_01B x_pan)) (fun M1 hr h192 h193 => (by have k := c194 hr hI.2.2.1 hI.2.2.2.1 (k := M 0 (yx (x + 1))) (w := M 0 (yx (x + 2))); rw [h192] at k; exact k)) cd0B
  have e := e240_1526 (x4 := x) (o5 := o5) (o6 := o6) (M := M) hn
  rw [hN, if_pos y1, if_pos y2, a1, yCi_I, a3, hN, if_pos y1, if_pos y2, a2, a4, yCi_I, a5, yCi_I, if_pos rfl] at e
  split at e
  · next z =>
    rw [if_pos (by rw [a6 z])] at e
    obtain ⟨M', k⟩ := hk M2 _ _ _ (nc + 2) (ns + 12) a7 (by omega) (by omega)
    exact ⟨M', yL.I e k⟩
  · obtain ⟨M', k⟩ := hk M2 _ _ _ (nc + 2) (ns + 12) a7 (by omega) (by omega)
    exact ⟨M', yL.I e k⟩
theorem l_1594 (hI : LI M A S N) (hn : nc + 4 ≤ 601024 ∧ ns + 24 ≤ 7293034) (y1 : yinB (x + 1) N = true) (y2 : yinB (x + 2) N = true) (y3 : yinB (x + 3) N = true) (hk : LK S N x nc ns) : ∃ M', yX 240 1594 [some (.ref 0), some (.ref 7), some (.ref 190), some (.ref 202), some (.int x), o5, o6] [] M nc ns = yI 1 M' := by
  have hN : ylen M = N := hI.2.2.2.2.2
  obtain ⟨M1, b, M2, a1, a2, a3, a4, a5, a6, a7⟩ := both (fun M' => yX 196 0 [some (.ref 190), some (.int (M 0 (yx (x + 1)))), some (.int (M 0 (yx (x + 2))))] [] M' 0 0) hI (⟨hI.2.2.1, hI.2.2.2.1⟩) (CR.wrap (c81 hI.1 hI.2.2.1 (w := M 0 (yx (x + 1))) (k := M 0 (yx (x + 2)))) e233 (g_1A x_svd)) (fun M1 hr h192 h193 => c196 hr hI.2.2.1) cd0A
  have e := e240_1594 (x4 := x) (o5 := o5) (o6 := o6) (M := M) hn
  rw [hN, if_pos y1, if_pos y2, a1, yCi_I, a3, hN, if_pos y1, if_pos y2, a2, a4, yCi_I, a5, yCi_I, if_pos rfl] at e
  split at e
  · next z =>
    rw [if_pos (by rw [a6 z])] at e
    obtain ⟨M', k⟩ := hk M2 _ _ _ (nc + 1) (ns + 6) a7 (by omega) (by omega)
    exact ⟨M', yL.I e k⟩
  · obtain ⟨M', k⟩ := hk M2 _ _ _ (nc + 1) (ns + 6) a7 (by omega) (by omega)
    exact ⟨M', yL.I e k⟩
theorem l_1662 (hI : LI M A S N) (hn : nc + 4 ≤ 601024 ∧ ns + 24 ≤ 7293034) (y1 : yinB (x + 1) N = true) (y2 : yinB (x + 2) N = true) (y3 : yinB (x + 3) N = true) (hk : LK S N x nc ns) : ∃ M', yX 240 1662 [some (.ref 0), some (.ref 7), some (.ref 190), some (.ref 202), some (.int x), o5, o6] [] M nc ns = yI 1 M' := by
  have hN : ylen M = N := hI.2.2.2.2.2
  obtain ⟨M1, b, M2, a1, a2, a3, a4, a5, a6, a7⟩ := both (fun M' => yX 197 0 [some (.ref 190), some (.int (M 0 (yx (x + 1)))), none, none, none] [] M' 0 0) hI (⟨hI.2.2.1, hI.2.2.2.1⟩) (CR.wrap (c82 hI.1 hI.2.2.1 hI.2.2.2.1 (M 192) (s := M 0 (yx (x + 1)))) e234 (g_0B x_slk)) (fun M1 hr h192 h193 => (by have k := c197 hr hI.2.2.1 hI.2.2.2.1 (s := M 0 (yx (x + 1))); rw [h192] at k; exact k)) cd0B
  have e := e240_1662 (x4 := x) (o5 := o5) (o6 := o6) (M := M) hn
  rw [hN, if_pos y1, a1, yCi_I, a3, hN, if_pos y1, a2, a4, yCi_I, a5, yCi_I, if_pos rfl] at e
  split at e
  · next z =>
    rw [if_pos (by rw [a6 z])] at e
    obtain ⟨M', k⟩ := hk M2 _ _ _ (nc + 1) (ns + 6) a7 (by omega) (by omega)
    exact ⟨M', yL.I e k⟩
  · obtain ⟨M', k⟩ := hk M2 _ _ _ (nc + 1) (ns + 6) a7 (by omega) (by omega)
    exact ⟨M', yL.I e k⟩
theorem l_1731 (hI : LI M A S N) (hn : nc + 4 ≤ 601024 ∧ ns + 24 ≤ 7293034) (y1 : yinB (x + 1) N = true) (y2 : yinB (x + 2) N = true) (y3 : yinB (x + 3) N = true) (hk : LK S N x nc ns) : ∃ M', yX 240 1731 [some (.ref 0), some (.ref 7), some (.ref 190), some (.ref 202), some (.int x), o5, o6] [] M nc ns = yI 1 M' := by
  have hN : ylen M = N := hI.2.2.2.2.2
  obtain ⟨M1, b, M2, a1, a2, a3, a4, a5, a6, a7⟩ := both (fun M' => yX 199 0 [some (.ref 190), some (.int (M 0 (yx (x + 1)))), some (.int (M 0 (yx (x + 2)))), none, none, none, none, none] [] M' 0 0) hI (⟨hI.2.2.1, hI.2.2.2.1⟩) (CR.wrap (c84 hI.1 hI.2.2.1 (a := M 0 (yx (x + 1))) (b := M 0 (yx (x + 2)))) e235 (g_1A x_bsv)) (fun M1 hr h192 h193 => c199 hr hI.2.2.1) cd0A
  have e := e240_1731 (x4 := x) (o5 := o5) (o6 := o6) (M := M) hn
  rw [hN, if_pos y1, if_pos y2, a1, yCi_I, a3, hN, if_pos y1, if_pos y2, a2, a4, yCi_I, a5, yCi_I, if_pos rfl] at e
  split at e
  · next z =>
    rw [if_pos (by rw [a6 z])] at e
    obtain ⟨M', k⟩ := hk M2 _ _ _ (nc + 1) (ns + 6) a7 (by omega) (by omega)
    exact ⟨M', yL.I e k⟩
  · obtain ⟨M', k⟩ := hk M2 _ _ _ (nc + 1) (ns + 6) a7 (by omega) (by omega)
    exact ⟨M', yL.I e k⟩
theorem l_1799 (hI : LI M A S N) (hn : nc + 4 ≤ 601024 ∧ ns + 24 ≤ 7293034) (y1 : yinB (x + 1) N = true) (y2 : yinB (x + 2) N = true) (y3 : yinB (x + 3) N = true) (hk : LK S N x nc ns) : ∃ M', yX 240 1799 [some (.ref 0), some (.ref 7), some (.ref 190), some (.ref 202), some (.int x), o5, o6] [] M nc ns = yI 1 M' := by
  have hN : ylen M = N := hI.2.2.2.2.2
  obtain ⟨M1, b, M2, a1, a2, a3, a4, a5, a6, a7⟩ := both (fun M' => yX 207 0 [some (.ref 190), some (.int (M 0 (yx (x + 1)))), some (.long ((((M 0 (yx (x + 2))).toInt64) <<< ((32 : Int32).toInt64 &&& 63)) ||| (((M 0 (yx (x + 3))).toInt64) &&& 4294967295))), none, none] [] M' 0 0) hI (⟨hI.2.2.1, hI.2.2.2.1⟩) (CR.wrap (c85 hI.1 hI.2.2.1 (M 192) (k := M 0 (yx (x + 1))) (w := ((((M 0 (yx (x + 2))).toInt64) <<< ((32 : Int32).toInt64 &&& 63)) ||| (((M 0 (yx (x + 3))).toInt64) &&& 4294967295)))) e236 (g_1A x_run)) (fun M1 hr h192 h193 => (by have k := c207 hr hI.2.2.1 (k := M 0 (yx (x + 1))) (w := ((((M 0 (yx (x + 2))).toInt64) <<< ((32 : Int32).toInt64 &&& 63)) ||| (((M 0 (yx (x + 3))).toInt64) &&& 4294967295))); rw [h192] at k; exact k)) cd0A
  have e := e240_1799 (x4 := x) (o5 := o5) (o6 := o6) (M := M) hn
  rw [hN, if_pos y1, if_pos y2, if_pos y3, a1, yCi_I, a3, hN, if_pos y1, if_pos y2, if_pos y3, a2, a4, yCi_I, a5, yCi_I, if_pos rfl] at e
  split at e
  · next z =>
    rw [if_pos (by rw [a6 z])] at e
    obtain ⟨M', k⟩ := hk M2 _ _ _ (nc + 2) (ns + 12) a7 (by omega) (by omega)
    exact ⟨M', yL.I e k⟩
  · obtain ⟨M', k⟩ := hk M2 _ _ _ (nc + 2) (ns + 12) a7 (by omega) (by omega)
    exact ⟨M', yL.I e k⟩
theorem l_1899 (hI : LI M A S N) (hn : nc + 4 ≤ 601024 ∧ ns + 24 ≤ 7293034) (y1 : yinB (x + 1) N = true) (y2 : yinB (x + 2) N = true) (y3 : yinB (x + 3) N = true) (hk : LK S N x nc ns) : ∃ M', yX 240 1899 [some (.ref 0), some (.ref 7), some (.ref 190), some (.ref 202), some (.int x), o5, o6] [] M nc ns = yI 1 M' := by
  have hN : ylen M = N := hI.2.2.2.2.2
  obtain ⟨M1, b, M2, a1, a2, a3, a4, a5, a6, a7⟩ := both (fun M' => yX 209 0 [some (.ref 190), some (.long ((((M 0 (yx (x + 1))).toInt64) <<< ((32 : Int32).toInt64 &&& 63)) ||| (((M 0 (yx (x + 2))).toInt64) &&& 4294967295))), none, some (.int (M 0 (yx (x + 3)))), none, none, none] [] M' 0 0) hI (⟨hI.2.2.1, hI.2.2.2.1⟩) (CR.wrap (c86 hI.1 hI.2.2.1 (M 192) (x := ((((M 0 (yx (x + 1))).toInt64) <<< ((32 : Int32).toInt64 &&& 63)) ||| (((M 0 (yx (x + 2))).toInt64) &&& 4294967295))) (k := M 0 (yx (x + 3)))) e237 (g_1A x_sim)) (fun M1 hr h192 h193 => (by have k := c209 hr hI.2.2.1 (x := ((((M 0 (yx (x + 1))).toInt64) <<< ((32 : Int32).toInt64 &&& 63)) ||| (((M 0 (yx (x + 2))).toInt64) &&& 4294967295))) (k := M 0 (yx (x + 3))); rw [h192] at k; exact k)) cd0A
  have e := e240_1899 (x4 := x) (o5 := o5) (o6 := o6) (M := M) hn
  rw [hN, if_pos y1, if_pos y2, if_pos y3, a1, yCi_I, a3, hN, if_pos y1, if_pos y2, if_pos y3, a2, a4, yCi_I, a5, yCi_I, if_pos rfl] at e
  split at e
  · next z =>
    rw [if_pos (by rw [a6 z])] at e
    obtain ⟨M', k⟩ := hk M2 _ _ _ (nc + 1) (ns + 6) a7 (by omega) (by omega)
    exact ⟨M', yL.I e k⟩
  · obtain ⟨M', k⟩ := hk M2 _ _ _ (nc + 1) (ns + 6) a7 (by omega) (by omega)
    exact ⟨M', yL.I e k⟩
theorem l_1999 (hI : LI M A S N) (hn : nc + 4 ≤ 601024 ∧ ns + 24 ≤ 7293034) (y1 : yinB (x + 1) N = true) (y2 : yinB (x + 2) N = true) (y3 : yinB (x + 3) N = true) (hk : LK S N x nc ns) : ∃ M', yX 240 1999 [some (.ref 0), some (.ref 7), some (.ref 190), some (.ref 202), some (.int x), o5, o6] [] M nc ns = yI 1 M' := by
  have hN : ylen M = N := hI.2.2.2.2.2
  obtain ⟨M1, b, M2, a1, a2, a3, a4, a5, a6, a7⟩ := both (fun M' => yX 210 0 [some (.ref 190), some (.int (M 0 (yx (x + 1)))), none] [] M' 0 0) hI (nSav_ok hI.2.2.1 hI.2.2.2.1) (CR.wrap (c87 hI.1 hI.2.2.1 (s := M 0 (yx (x + 1)))) e238 (g_0B x_sav)) (fun M1 hr h192 h193 => c210 hr hI.2.2.1) cd0B
  have e := e240_1999 (x4 := x) (o5 := o5) (o6 := o6) (M := M) hn
  rw [hN, if_pos y1, a1, yCi_I, a3, hN, if_pos y1, a2, a4, yCi_I, a5, yCi_I, if_pos rfl] at e
  split at e
  · next z =>
    rw [if_pos (by rw [a6 z])] at e
    obtain ⟨M', k⟩ := hk M2 _ _ _ (nc + 1) (ns + 6) a7 (by omega) (by omega)
    exact ⟨M', yL.I e k⟩
  · obtain ⟨M', k⟩ := hk M2 _ _ _ (nc + 1) (ns + 6) a7 (by omega) (by omega)
    exact ⟨M', yL.I e k⟩
theorem l_2055 (hI : LI M A S N) (hn : nc + 4 ≤ 601024 ∧ ns + 24 ≤ 7293034) (y1 : yinB (x + 1) N = true) (y2 : yinB (x + 2) N = true) (y3 : yinB (x + 3) N = true) (hk : LK S N x nc ns) : ∃ M', yX 240 2055 [some (.ref 0), some (.ref 7), some (.ref 190), some (.ref 202), some (.int x), o5, o6] [] M nc ns = yI 1 M' := by
  have hN : ylen M = N := hI.2.2.2.2.2
  obtain ⟨M1, b, M2, a1, a2, a3, a4, a5, a6, a7⟩ := both (fun M' => yX 211 0 [some (.ref 190), some (.int (M 0 (yx (x + 1)))), none] [] M' 0 0) hI (nRes_ok hI.2.2.1 hI.2.2.2.1) (CR.wrap (c88 hI.1 hI.2.2.1 (s := M 0 (yx (x + 1)))) e239 (g_02B x_res)) (fun M1 hr h192 h193 => c211 hr hI.2.2.1) cd0B
  have e := e240_2055 (x4 := x) (o5 := o5) (o6 := o6) (M := M) hn
  rw [hN, if_pos y1, a1, yCi_I, a3, hN, if_pos y1, a2, a4, yCi_I, a5, yCi_I, if_pos rfl] at e
  split at e
  · next z =>
    rw [if_pos (by rw [a6 z])] at e
    obtain ⟨M', k⟩ := hk M2 _ _ _ (nc + 2) (ns + 12) a7 (by omega) (by omega)
    exact ⟨M', yL.I e k⟩
  · obtain ⟨M', k⟩ := hk M2 _ _ _ (nc + 2) (ns + 12) a7 (by omega) (by omega)
    exact ⟨M', yL.I e k⟩
theorem l_990 (hI : LI M A S N) (hn : nc + 4 ≤ 601024 ∧ ns + 24 ≤ 7293034) (y1 : yinB (x + 1) N = true) (y2 : yinB (x + 2) N = true) (y3 : yinB (x + 3) N = true) (hk : LK S N x nc ns) : ∃ M', yX 240 990 [some (.ref 0), some (.ref 7), some (.ref 190), some (.ref 202), some (.int x), o5, o6] [] M nc ns = yI 1 M' := by
  have hN : ylen M = N := hI.2.2.2.2.2
  have hb0 : yb False = 0 := yb_neg (fun z => z)
  have hb1 : yb True = 1 := yb_pos trivial
  have e := e240_990 (x4 := x) (o5 := o5) (o6 := o6) (M := M) hn
  by_cases zb : M 0 (yx (x + 3)) = 0
  · have k1 := c73 hI.1 hI.2.2.1 (a := M 0 (yx (x + 1))) (b := M 0 (yx (x + 2))) (p := False)
    rw [hb0] at k1
    obtain ⟨M1, b, M2, a1, a2, a3, a4, a5, a6, a7⟩ := both (fun M' => yX 187 0 [some (.ref 190), some (.int (M 0 (yx (x + 1)))), some (.int (M 0 (yx (x + 2)))), some (.int 0)] [] M' 0 0) hI (⟨nAct_ok hI.2.2.1 ⟨by decide, by decide⟩, nAct_tg hI.2.2.1 hI.2.2.2.1⟩) (CR.wrap k1 e225 (g_12A x_a1)) (fun M1 hr h192 h193 => (by have k := c187 hr hI.2.2.1 (a := M 0 (yx (x + 1))) (b := M 0 (yx (x + 2))) (p := False); rw [hb0] at k; exact k)) cd0A
    rw [hN, if_pos y1, if_pos y2, if_pos y3, if_pos zb, a1, yCi_I, a3, hN, if_pos y1, if_pos y2, if_pos y3, a2, if_pos zb, a4, yCi_I, a5, yCi_I, if_pos rfl] at e
    split at e
    · next z =>
      rw [if_pos (by rw [a6 z])] at e
      obtain ⟨M', k⟩ := hk M2 _ _ _ (nc + 3) (ns + 18) a7 (by omega) (by omega)
      exact ⟨M', yL.I e k⟩
    · obtain ⟨M', k⟩ := hk M2 _ _ _ (nc + 3) (ns + 18) a7 (by omega) (by omega)
      exact ⟨M', yL.I e k⟩
  · have k1 := c73 hI.1 hI.2.2.1 (a := M 0 (yx (x + 1))) (b := M 0 (yx (x + 2))) (p := True)
    rw [hb1] at k1
    obtain ⟨M1, b, M2, a1, a2, a3, a4, a5, a6, a7⟩ := both (fun M' => yX 187 0 [some (.ref 190), some (.int (M 0 (yx (x + 1)))), some (.int (M 0 (yx (x + 2)))), some (.int 1)] [] M' 0 0) hI (⟨nAct_ok hI.2.2.1 ⟨by decide, by decide⟩, nAct_tg hI.2.2.1 hI.2.2.2.1⟩) (CR.wrap k1 e225 (g_12A x_a1)) (fun M1 hr h192 h193 => (by have k := c187 hr hI.2.2.1 (a := M 0 (yx (x + 1))) (b := M 0 (yx (x + 2))) (p := True); rw [hb1] at k; exact k)) cd0A
    rw [hN, if_pos y1, if_pos y2, if_pos y3, if_neg zb, a1, yCi_I, a3, hN, if_pos y1, if_pos y2, if_pos y3, a2, if_neg zb, a4, yCi_I, a5, yCi_I, if_pos rfl] at e
    split at e
    · next z =>
      rw [if_pos (by rw [a6 z])] at e
      obtain ⟨M', k⟩ := hk M2 _ _ _ (nc + 3) (ns + 18) a7 (by omega) (by omega)
      exact ⟨M', yL.I e k⟩
    · obtain ⟨M', k⟩ := hk M2 _ _ _ (nc + 3) (ns + 18) a7 (by omega) (by omega)
      exact ⟨M', yL.I e k⟩
theorem l_1154 (hI : LI M A S N) (hn : nc + 4 ≤ 601024 ∧ ns + 24 ≤ 7293034) (y1 : yinB (x + 1) N = true) (y2 : yinB (x + 2) N = true) (y3 : yinB (x + 3) N = true) (hk : LK S N x nc ns) : ∃ M', yX 240 1154 [some (.ref 0), some (.ref 7), some (.ref 190), some (.ref 202), some (.int x), o5, o6] [] M nc ns = yI 1 M' := by
  have hN : ylen M = N := hI.2.2.2.2.2
  have hb0 : yb False = 0 := yb_neg (fun z => z)
  have hb1 : yb True = 1 := yb_pos trivial
  have e := e240_1154 (x4 := x) (o5 := o5) (o6 := o6) (M := M) hn
  by_cases zb : M 0 (yx (x + 3)) = 0
  · have k1 := c75 hI.1 hI.2.2.1 (a := M 0 (yx (x + 1))) (b := M 0 (yx (x + 2))) (p := False)
    rw [hb0] at k1
    obtain ⟨M1, b, M2, a1, a2, a3, a4, a5, a6, a7⟩ := both (fun M' => yX 189 0 [some (.ref 190), some (.int (M 0 (yx (x + 1)))), some (.int (M 0 (yx (x + 2)))), some (.int 0)] [] M' 0 0) hI (⟨nAct_ok hI.2.2.1 ⟨by decide, by decide⟩, nAct_tg hI.2.2.1 hI.2.2.2.1⟩) (CR.wrap k1 e227 (g_0B x_a2)) (fun M1 hr h192 h193 => (by have k := c189 hr hI.2.2.1 (a := M 0 (yx (x + 1))) (b := M 0 (yx (x + 2))) (p := False); rw [hb0] at k; exact k)) cd0B
    rw [hN, if_pos y1, if_pos y2, if_pos y3, if_pos zb, a1, yCi_I, a3, hN, if_pos y1, if_pos y2, if_pos y3, a2, if_pos zb, a4, yCi_I, a5, yCi_I, if_pos rfl] at e
    split at e
    · next z =>
      rw [if_pos (by rw [a6 z])] at e
      obtain ⟨M', k⟩ := hk M2 _ _ _ (nc + 3) (ns + 18) a7 (by omega) (by omega)
      exact ⟨M', yL.I e k⟩
    · obtain ⟨M', k⟩ := hk M2 _ _ _ (nc + 3) (ns + 18) a7 (by omega) (by omega)
      exact ⟨M', yL.I e k⟩
  · have k1 := c75 hI.1 hI.2.2.1 (a := M 0 (yx (x + 1))) (b := M 0 (yx (x + 2))) (p := True)
    rw [hb1] at k1
    obtain ⟨M1, b, M2, a1, a2, a3, a4, a5, a6, a7⟩ := both (fun M' => yX 189 0 [some (.ref 190), some (.int (M 0 (yx (x + 1)))), some (.int (M 0 (yx (x + 2)))), some (.int 1)] [] M' 0 0) hI (⟨nAct_ok hI.2.2.1 ⟨by decide, by decide⟩, nAct_tg hI.2.2.1 hI.2.2.2.1⟩) (CR.wrap k1 e227 (g_0B x_a2)) (fun M1 hr h192 h193 => (by have k := c189 hr hI.2.2.1 (a := M 0 (yx (x + 1))) (b := M 0 (yx (x + 2))) (p := True); rw [hb1] at k; exact k)) cd0B
    rw [hN, if_pos y1, if_pos y2, if_pos y3, if_neg zb, a1, yCi_I, a3, hN, if_pos y1, if_pos y2, if_pos y3, a2, if_neg zb, a4, yCi_I, a5, yCi_I, if_pos rfl] at e
    split at e
    · next z =>
      rw [if_pos (by rw [a6 z])] at e
      obtain ⟨M', k⟩ := hk M2 _ _ _ (nc + 3) (ns + 18) a7 (by omega) (by omega)
      exact ⟨M', yL.I e k⟩
    · obtain ⟨M', k⟩ := hk M2 _ _ _ (nc + 3) (ns + 18) a7 (by omega) (by omega)
      exact ⟨M', yL.I e k⟩
theorem l_1250 (hI : LI M A S N) (hn : nc + 4 ≤ 601024 ∧ ns + 24 ≤ 7293034) (y1 : yinB (x + 1) N = true) (y2 : yinB (x + 2) N = true) (y3 : yinB (x + 3) N = true) (hk : LK S N x nc ns) : ∃ M', yX 240 1250 [some (.ref 0), some (.ref 7), some (.ref 190), some (.ref 202), some (.int x), o5, o6] [] M nc ns = yI 1 M' := by
  have hN : ylen M = N := hI.2.2.2.2.2
  have hb0 : yb False = 0 := yb_neg (fun z => z)
  have hb1 : yb True = 1 := yb_pos trivial
  have e := e240_1250 (x4 := x) (o5 := o5) (o6 := o6) (M := M) hn
  by_cases zb : M 0 (yx (x + 3)) = 0
  · have k1 := c76 hI.1 hI.2.2.1 (a := M 0 (yx (x + 1))) (b := M 0 (yx (x + 2))) (p := False)
    rw [hb0] at k1
    obtain ⟨M1, b, M2, a1, a2, a3, a4, a5, a6, a7⟩ := both (fun M' => yX 190 0 [some (.ref 190), some (.int (M 0 (yx (x + 1)))), some (.int (M 0 (yx (x + 2)))), some (.int 0), none] [] M' 0 0) hI (⟨nAct_ok hI.2.2.1 ⟨by decide, by decide⟩, nAct_tg hI.2.2.1 hI.2.2.2.1⟩) (CR.wrap k1 e228 (g_02B x_a3)) (fun M1 hr h192 h193 => (by have k := c190 hr hI.2.2.1 (a := M 0 (yx (x + 1))) (b := M 0 (yx (x + 2))) (p := False); rw [hb0] at k; exact k)) cd0B
    rw [hN, if_pos y1, if_pos y2, if_pos y3, if_pos zb, a1, yCi_I, a3, hN, if_pos y1, if_pos y2, if_pos y3, a2, if_pos zb, a4, yCi_I, a5, yCi_I, if_pos rfl] at e
    split at e
    · next z =>
      rw [if_pos (by rw [a6 z])] at e
      obtain ⟨M', k⟩ := hk M2 _ _ _ (nc + 3) (ns + 18) a7 (by omega) (by omega)
      exact ⟨M', yL.I e k⟩
    · obtain ⟨M', k⟩ := hk M2 _ _ _ (nc + 3) (ns + 18) a7 (by omega) (by omega)
      exact ⟨M', yL.I e k⟩
  · have k1 := c76 hI.1 hI.2.2.1 (a := M 0 (yx (x + 1))) (b := M 0 (yx (x + 2))) (p := True)
    rw [hb1] at k1
    obtain ⟨M1, b, M2, a1, a2, a3, a4, a5, a6, a7⟩ := both (fun M' => yX 190 0 [some (.ref 190), some (.int (M 0 (yx (x + 1)))), some (.int (M 0 (yx (x + 2)))), some (.int 1), none] [] M' 0 0) hI (⟨nAct_ok hI.2.2.1 ⟨by decide, by decide⟩, nAct_tg hI.2.2.1 hI.2.2.2.1⟩) (CR.wrap k1 e228 (g_02B x_a3)) (fun M1 hr h192 h193 => (by have k := c190 hr hI.2.2.1 (a := M 0 (yx (x + 1))) (b := M 0 (yx (x + 2))) (p := True); rw [hb1] at k; exact k)) cd0B
    rw [hN, if_pos y1, if_pos y2, if_pos y3, if_neg zb, a1, yCi_I, a3, hN, if_pos y1, if_pos y2, if_pos y3, a2, if_neg zb, a4, yCi_I, a5, yCi_I, if_pos rfl] at e
    split at e
    · next z =>
      rw [if_pos (by rw [a6 z])] at e
      obtain ⟨M', k⟩ := hk M2 _ _ _ (nc + 3) (ns + 18) a7 (by omega) (by omega)
      exact ⟨M', yL.I e k⟩
    · obtain ⟨M', k⟩ := hk M2 _ _ _ (nc + 3) (ns + 18) a7 (by omega) (by omega)
      exact ⟨M', yL.I e k⟩
theorem l_232 (hI : LI M A S N) (hn : nc + 4 ≤ 601024 ∧ ns + 24 ≤ 7293034) (y1 : yinB (x + 1) N = true) (y2 : yinB (x + 2) N = true) (y3 : yinB (x + 3) N = true) (hk : LK S N x nc ns) : ∃ M', yX 240 232 [some (.ref 0), some (.ref 7), some (.ref 190), some (.ref 202), some (.int x), o5, o6] [] M nc ns = yI 1 M' := by
  obtain ⟨M1, M2, a1, a4, a7⟩ := bothP (v := Int32.ofNat A.2.2.2.1) (fun M' => yX 156 0 [some (.ref 190), none] [] M' 0 0) hI (nClr_ok hI.2.2.1 hI.2.2.2.1) (c59 hI.1) (fun M1 hr h192 h193 => c156 hr (cd := cdA))
  have e := e240_232 (x4 := x) (o5 := o5) (o6 := o6) (M := M) hn
  rw [a1, yCi_I, a4, yCi_I, if_pos rfl] at e
  obtain ⟨M', k⟩ := hk M2 _ _ _ nc ns a7 (by omega) (by omega)
  exact ⟨M', yL.I e k⟩
theorem l_245 (hI : LI M A S N) (hn : nc + 4 ≤ 601024 ∧ ns + 24 ≤ 7293034) (y1 : yinB (x + 1) N = true) (y2 : yinB (x + 2) N = true) (y3 : yinB (x + 3) N = true) (hk : LK S N x nc ns) : ∃ M', yX 240 245 [some (.ref 0), some (.ref 7), some (.ref 190), some (.ref 202), some (.int x), o5, o6] [] M nc ns = yI 1 M' := by
  obtain ⟨M1, M2, a1, a4, a7⟩ := bothP (v := pV (pAll A.2.2.2.1 A.2.2.2.2 (M 193))) (fun M' => yX 170 0 [some (.ref 190)] [] M' 0 0) hI (⟨hI.2.2.1, hI.2.2.2.1⟩) (c60 hI.1 hI.2.2.1 (M 193)) (fun M1 hr h192 h193 => (by have k := c170 hr hI.2.2.1 (cd := cdA); rw [h193] at k; exact k))
  have e := e240_245 (x4 := x) (o5 := o5) (o6 := o6) (M := M) hn
  rw [a1, yCi_I, a4, yCi_I, if_pos rfl] at e
  obtain ⟨M', k⟩ := hk M2 _ _ _ nc ns a7 (by omega) (by omega)
  exact ⟨M', yL.I e k⟩
theorem l_1718 (hI : LI M A S N) (hn : nc + 4 ≤ 601024 ∧ ns + 24 ≤ 7293034) (y1 : yinB (x + 1) N = true) (y2 : yinB (x + 2) N = true) (y3 : yinB (x + 3) N = true) (hk : LK S N x nc ns) : ∃ M', yX 240 1718 [some (.ref 0), some (.ref 7), some (.ref 190), some (.ref 202), some (.int x), o5, o6] [] M nc ns = yI 1 M' := by
  obtain ⟨M1, M2, a1, a4, a7⟩ := bothP (v := Sbr A.1 (M 192)) (fun M' => yX 198 0 [some (.ref 190), none, none, none, none, none, none, none] [] M' 0 0) hI (⟨hI.2.2.1, hI.2.2.2.1⟩) (c83 hI.1 hI.2.2.1 (M 192)) (fun M1 hr h192 h193 => (by have k := c198 hr hI.2.2.1 (cd := cdA); rw [h192] at k; exact k))
  have e := e240_1718 (x4 := x) (o5 := o5) (o6 := o6) (M := M) hn
  rw [a1, yCi_I, a4, yCi_I, if_pos rfl] at e
  obtain ⟨M', k⟩ := hk M2 _ _ _ nc ns a7 (by omega) (by omega)
  exact ⟨M', yL.I e k⟩
end LCA
