theorem relFC_cpy {nf : Nat} {le al : Nat → Nat} {fle fal flo g1 g2 g3 : Nat → Int32} (hnf : nf ≤ 12) (h : relFC nf le al fle fal flo) : relFC nf le al (va_cpy fle g1 0 0 12) (va_cpy fal g2 0 0 12) (va_cpy flo g3 0 0 12) := by
  refine ⟨fun g hg => ?_, fun f hf => ?_⟩
  · rw [cpy_in (by omega), cpy_in (by omega)]
    exact h.1 g hg
  · rw [cpy_in (by omega)]
    exact h.2 f hf
theorem pu_reads {n D : Nat} (hn : 400 ≤ n) (hD : D < 2) {z : Nat} {L : Nat → Nat} {lt te : Nat → Int32} (h : relL z L lt te) (w0 w1 w2 w3 w4 w5 w6 w7 w8 : Nat → Int32) (d1 d2 d3 d4 d5 d6 d7 : Int32) (row : Nat → Int32) :
    fX8_reads n (nI z) te w4 w5 w6 w7 w8 w0 w1 w2 w3 d1 d2 d3 d4 d5 d6 d7 row (nI D) = rdX n te w0 w1 w2 w3 w4 w5 w6 w7 w8 (nI z) n (nI (tkS L z 0)) (nI (tkE L z (tkS L z 0))) (nI 1) (row 64) (row 71) (row 65) (nI D) row := by
  have E := pu_step8 hn h (Nat.zero_le z) d7
  have k := ok_01 hD
  unfold fX8_reads rdX
  rw [if_pos (show nI D = 0 ∨ nI D = 1 from k), show fX8_nextToken n (nI z) te d7 0 = some (nI (tkS L z 0), nI (tkE L z (tkS L z 0))) from E, Option.bind_some]
  rfl
/-- the class parses, the reference reads -/
theorem pu_parse {n : Nat} (hn : 400 ≤ n) {z nf nm nl ba mi : Nat} {L le al kd : Nat → Nat} {s : rmS} {lt te w0 w1 w2 w3 w4 w5 w6 w7 w8 fle fal flo : Nat → Int32} {T : rmT} (h : relL z L lt te) (hW : relWd w0 w1 w2 w3 w4 w5 w6 w7 w8) (o : okF nf le al) (hC : relFC nf le al fle fal flo) (hnm : nm ≤ 4) (hnl : nl ≤ 5) (hB : okB nf nm nl ba mi s) (hX : relX nm nl kd T ba mi s)
    (p : Int32) (g1 g2 g3 : Nat → Int32) (R : rmT) (cl en st : Int32) :
    prO z L (fX6_parse n (nI nf) fle fal flo T.1 T.2.1 T.2.2.1 T.2.2.2.1 T.2.2.2.2.1 T.2.2.2.2.2.1 T.2.2.2.2.2.2.1 T.2.2.2.2.2.2.2 (nI z) lt p g1 g2 g3 R.1 R.2.1 R.2.2.1 R.2.2.2.1 R.2.2.2.2.1 R.2.2.2.2.2.1 R.2.2.2.2.2.2.1 R.2.2.2.2.2.2.2 cl en st) (rdX n te w0 w1 w2 w3 w4 w5 w6 w7 w8 (nI z) n (nI (tkS L z 0)) (nI (tkE L z (tkS L z 0))) (nI 1) (nI nm) (nI nf) (nI nl)) (fun row => relZ nf nm nl le al kd row ba mi s) := by
  have E := pu_step7 hn h (Nat.zero_le z) st
  have T0 := tk_is L (Nat.zero_le z)
  have hX2 := relX_cpT R hnm hnl hX
  obtain ⟨x1, x2, x3, x4, x5⟩ := hX2
  have hS : stT nf nm nl le al kd ba mi s (va_cpy fle g1 0 0 12) (va_cpy fal g2 0 0 12) (va_cpy flo g3 0 0 12) (cpT T R).2.2.2.2.1 (cpT T R).2.2.2.2.2.1 (cpT T R).2.2.2.2.2.2.1 (cpT T R).2.2.2.2.2.2.2 := ⟨o, relFC_cpy o.1 hC, hnm, hnl, hB, x5⟩
  have P := pr_loop hn h hW (nI nf) fle fal flo T.1 T.2.1 T.2.2.1 T.2.2.2.1 T.2.2.2.2.1 T.2.2.2.2.2.1 T.2.2.2.2.2.2.1 T.2.2.2.2.2.2.2 19 0 (n - 20) (n - 21) _ _ nf nm nl le al kd ba mi s _ _ _ _ _ _ _ (by omega) T0 hS
  rw [show n - 20 + 19 + 1 = n by omega, show n - 21 + 19 + 2 = n by omega] at P
  have e : fX6_parse n (nI nf) fle fal flo T.1 T.2.1 T.2.2.1 T.2.2.2.1 T.2.2.2.2.1 T.2.2.2.2.2.1 T.2.2.2.2.2.2.1 T.2.2.2.2.2.2.2 (nI z) lt p g1 g2 g3 R.1 R.2.1 R.2.2.1 R.2.2.2.1 R.2.2.2.2.1 R.2.2.2.2.2.1 R.2.2.2.2.2.2.1 R.2.2.2.2.2.2.2 cl en st = fX6_parse_30 n (nI nf) fle fal flo T.1 T.2.1 T.2.2.1 T.2.2.2.1 T.2.2.2.2.1 T.2.2.2.2.2.1 T.2.2.2.2.2.2.1 T.2.2.2.2.2.2.2 (nI z) lt n (nI nf) (va_cpy fle g1 0 0 12) (va_cpy fal g2 0 0 12) (va_cpy flo g3 0 0 12) (nI nm) (nI nl) (nI ba) (nI mi) (cpT T R).2.2.2.2.1 (cpT T R).2.2.2.2.2.1 (cpT T R).2.2.2.2.2.2.1 (cpT T R).2.2.2.2.2.2.2 (nI 0) (nI (tkE L z (tkS L z 0))) (nI (tkS L z 0)) := by
    unfold fX6_parse fX0_setAs fX3_setAs
    rw [Option.bind_some, Option.bind_some, show fX6_step n (nI z) lt st 0 = some (nI (tkS L z 0), nI (tkE L z (tkS L z 0))) from E, Option.bind_some, ← x1, ← x2, ← x3, ← x4]
    rfl
  rw [e]
  exact P
/-- the call fault -/
theorem pu_fault {n : Nat} (hn : 400 ≤ n) {z nf nm nl u c : Nat} {L le al kd : Nat → Nat} {lt te w0 w1 w2 w3 w4 w5 w6 w7 w8 fle fal flo row : Nat → Int32} {N T : rmT} {A K : paT} (hL : relL z L lt te) (hWd : relWd w0 w1 w2 w3 w4 w5 w6 w7 w8) (hC : relFC nf le al fle fal flo) (h : relW nf nm nl le al kd N T u A c K row)
    (p : Int32) (g1 g2 g3 : Nat → Int32) (R : rmT) (cl en st d1 d2 d3 d4 d5 d6 d7 : Int32) :
    ∃ (r p' : Int32) (g1' g2' g3' : Nat → Int32) (R' : rmT) (cl' en' st' d1' d2' d3' d4' d5' d6' d7' : Int32),
      fX7_fault n (nI nf) fle fal flo T.1 T.2.1 T.2.2.1 T.2.2.2.1 T.2.2.2.2.1 T.2.2.2.2.2.1 T.2.2.2.2.2.2.1 T.2.2.2.2.2.2.2 (nI z) lt p g1 g2 g3 R.1 R.2.1 R.2.2.1 R.2.2.2.1 R.2.2.2.2.1 R.2.2.2.2.2.1 R.2.2.2.2.2.2.1 R.2.2.2.2.2.2.2 cl en st = some (r, p', g1', g2', g3', R'.1, R'.2.1, R'.2.2.1, R'.2.2.2.1, R'.2.2.2.2.1, R'.2.2.2.2.2.1, R'.2.2.2.2.2.2.1, R'.2.2.2.2.2.2.2, cl', en', st') ∧
      fX8_fault n (nI z) te w4 w5 w6 w7 w8 w0 w1 w2 w3 d1 d2 d3 d4 d5 d6 d7 row = some (r, d1', d2', d3', d4', d5', d6', d7', row) := by
  obtain ⟨o, hnm, hnl, r0, ⟨⟨zb, zm, s, hB, hX, hY⟩, hz⟩, -⟩ := id h
  have hZ := (relZ_eq nf nm nl le al kd row zb zm s).mpr ⟨hY, hz⟩
  obtain ⟨a', b', c', nf', nm', nl', le', al', kd', ba', mi', s', fle', fal', flo', kn', ki', on', ha', res, hc', hS', T', F1, F2⟩ := pu_parse hn hL hWd o hC hnm hnl hB hX p g1 g2 g3 R cl en st
  have Q := pu_reads hn (show 0 < 2 by omega) hL w0 w1 w2 w3 w4 w5 w6 w7 w8 d1 d2 d3 d4 d5 d6 d7 row
  rw [hZ.2.1.1, hZ.1.1, hZ.2.1.2.1] at Q
  have e7 : fX7_fault n (nI nf) fle fal flo T.1 T.2.1 T.2.2.1 T.2.2.2.1 T.2.2.2.2.1 T.2.2.2.2.2.1 T.2.2.2.2.2.2.1 T.2.2.2.2.2.2.2 (nI z) lt p g1 g2 g3 R.1 R.2.1 R.2.2.1 R.2.2.2.1 R.2.2.2.2.1 R.2.2.2.2.2.1 R.2.2.2.2.2.2.1 R.2.2.2.2.2.2.2 cl en st = some (res, nI nf', fle', fal', flo', nI nm', nI nl', nI ba', nI mi', kn', ki', on', ha', nI c', nI b', nI a') := by
    unfold fX7_fault
    rw [F1, Option.bind_some]
  rcases F2 with ⟨f1, f2⟩ | ⟨f1, f2, f3⟩
  · obtain ⟨u1, u2, u3, u4, u5, u6, U⟩ := f2 row
    refine ⟨res, nI nf', fle', fal', flo', (nI nm', nI nl', nI ba', nI mi', kn', ki', on', ha'), nI c', nI b', nI a', u1, u2, u3, u4, u5, u6, nI a', e7, ?_⟩
    unfold fX8_fault fX8_fault_16
    rw [show fX8_reads n (nI z) te w4 w5 w6 w7 w8 w0 w1 w2 w3 d1 d2 d3 d4 d5 d6 d7 row 0 = _ from Q.trans U, Option.bind_some]
    dsimp only
    rw [if_pos nI_0, f1]
  · obtain ⟨u1, u2, u3, u4, u5, u6, u7, U⟩ := f2 row
    refine ⟨res, nI nf', fle', fal', flo', (nI nm', nI nl', nI ba', nI mi', kn', ki', on', ha'), nI c', nI b', nI a', u1, u2, u3, u4, u5, u6, u7, e7, ?_⟩
    unfold fX8_fault fX8_fault_16
    rw [show fX8_reads n (nI z) te w4 w5 w6 w7 w8 w0 w1 w2 w3 d1 d2 d3 d4 d5 d6 d7 row 0 = _ from Q.trans U, Option.bind_some]
    dsimp only
    rw [if_neg (show ¬ nI 1 = (0 : Int32) by decide), f1]
    rfl
theorem pu_false : vp_nar .boolean (nI 0) = nI 0 := by decide
/-- the call club -/
theorem pu_club {n : Nat} (hn : 400 ≤ n) {z nf nm nl u c sz : Nat} {L le al kd : Nat → Nat} {lt te w0 w1 w2 w3 w4 w5 w6 w7 w8 fle fal flo row ik : Nat → Int32} {N T : rmT} {A K : paT} {S : Nat → Nat × Nat × Nat × Nat} {a1 a2 a3 a4 b1 b2 b3 b4 : Nat → Int32} (hL : relL z L lt te) (hWd : relWd w0 w1 w2 w3 w4 w5 w6 w7 w8) (hC : relFC nf le al fle fal flo) (h : relW nf nm nl le al kd N T u A c K row) (hik : relK c ik) (hS : relS nf nm sz S a1 a2 a3 a4 b1 b2 b3 b4)
    (p : Int32) (g1 g2 g3 : Nat → Int32) (R : rmT) (cl en st d1 d2 d3 d4 d5 d6 d7 : Int32) :
    ∃ (r p' : Int32) (g1' g2' g3' : Nat → Int32) (R' : rmT) (cl' en' st' : Int32) (nf' nm' nl' : Nat) (le' al' kd' : Nat → Nat) (fle' fal' flo' : Nat → Int32) (T' N' : rmT) (z' u' c' sz' : Nat) (d1' d2' d3' d4' d5' d6' d7' : Int32) (row' ik' : Nat → Int32),
      fX7_club n lt p g1 g2 g3 R.1 R.2.1 R.2.2.1 R.2.2.2.1 R.2.2.2.2.1 R.2.2.2.2.2.1 R.2.2.2.2.2.2.1 R.2.2.2.2.2.2.2 cl en st (nI nf) fle fal flo T.1 T.2.1 T.2.2.1 T.2.2.2.1 T.2.2.2.2.1 T.2.2.2.2.2.1 T.2.2.2.2.2.2.1 T.2.2.2.2.2.2.2 N.1 N.2.1 N.2.2.1 N.2.2.2.1 N.2.2.2.2.1 N.2.2.2.2.2.1 N.2.2.2.2.2.2.1 N.2.2.2.2.2.2.2 (nI z) (nI u) (nI c) (nI sz) = some (r, p', g1', g2', g3', R'.1, R'.2.1, R'.2.2.1, R'.2.2.2.1, R'.2.2.2.2.1, R'.2.2.2.2.2.1, R'.2.2.2.2.2.2.1, R'.2.2.2.2.2.2.2, cl', en', st', nI nf', fle', fal', flo', T'.1, T'.2.1, T'.2.2.1, T'.2.2.2.1, T'.2.2.2.2.1, T'.2.2.2.2.2.1, T'.2.2.2.2.2.2.1, T'.2.2.2.2.2.2.2, N'.1, N'.2.1, N'.2.2.1, N'.2.2.2.1, N'.2.2.2.2.1, N'.2.2.2.2.2.1, N'.2.2.2.2.2.2.1, N'.2.2.2.2.2.2.2, nI z', nI u', nI c', nI sz') ∧
      fX8_club n te w4 w5 w6 w7 w8 w0 w1 w2 w3 d1 d2 d3 d4 d5 d6 d7 row (nI z) (nI u) ik (nI sz) = some (r, d1', d2', d3', d4', d5', d6', d7', row', nI z', nI u', ik', nI sz') ∧
      relL z' L lt te ∧ relFC nf' le' al' fle' fal' flo' ∧ relW nf' nm' nl' le' al' kd' N' T' u' A c' K row' ∧ relK c' ik' ∧ relS nf' nm' sz' S a1 a2 a3 a4 b1 b2 b3 b4 := by
  obtain ⟨o, hnm, hnl, r0, ⟨⟨zb, zm, s, hB, hX, hY⟩, hz⟩, -⟩ := id h
  have hZ := (relZ_eq nf nm nl le al kd row zb zm s).mpr ⟨hY, hz⟩
  obtain ⟨a', b', cc, nf', nm', nl', le', al', kd', ba', mi', s', tl, ta, to, kn', ki', on', ha', res, hc', hS', T', F1, F2⟩ := pu_parse hn hL hWd o hC hnm hnl hB hX p g1 g2 g3 R cl en st
  have Q := fun D (hD : D < 2) e1 e2 e3 e4 e5 e6 e7 => pu_reads hn hD hL w0 w1 w2 w3 w4 w5 w6 w7 w8 e1 e2 e3 e4 e5 e6 e7 row
  rw [hZ.2.1.1, hZ.1.1, hZ.2.1.2.1] at Q
  have Q0 := Q 0 (by omega) d1 d2 d3 d4 d5 d6 d7
  rcases F2 with ⟨f1, f2⟩ | ⟨f1, f2, f3⟩
  · obtain ⟨u1, u2, u3, u4, u5, u6, U⟩ := f2 row
    refine ⟨-nI 4, nI nf', tl, ta, to, (nI nm', nI nl', nI ba', nI mi', kn', ki', on', ha'), nI cc, nI b', nI a', nf, nm, nl, le, al, kd, fle, fal, flo, T, N, z, u, c, sz, u1, u2, u3, u4, u5, u6, nI a', row, ik, ?_, ?_, hL, hC, h, hik, hS⟩
    · have ne : ¬ res = -1 := by rw [f1]; exact onI_nn1 (by have := T'.1; have := hL.1; omega)
      unfold fX7_club
      rw [F1, Option.bind_some]
      dsimp only
      rw [if_neg ne]
      rfl
    · unfold fX8_club
      rw [show fX8_reads n (nI z) te w4 w5 w6 w7 w8 w0 w1 w2 w3 d1 d2 d3 d4 d5 d6 d7 row 0 = _ from Q0.trans U, Option.bind_some]
      dsimp only
      rw [if_pos nI_0]
      rfl
  · obtain ⟨u1, u2, u3, u4, u5, u6, u7, U⟩ := f2 row
    obtain ⟨row1, v1, v2, v4, v5, v6, v7, V, Z', out⟩ := f3 row hZ
    have Q1 := Q 1 (by omega) u1 u2 u3 u4 u5 u6 u7
    obtain ⟨row2, E, k1, k2⟩ := pu_copyClub (n := n) (a := 48) (b := 0) (by omega) (by omega) (by omega) (by omega) row1
    obtain ⟨o', hC', hnm', hnl', hB', x5⟩ := hS'
    obtain ⟨Y', hz'⟩ := (relZ_eq _ _ _ _ _ _ _ _ _ _).mp Z'
    have hX' : relX nm' nl' kd' (nI nm', nI nl', nI ba', nI mi', kn', ki', on', ha') ba' mi' s' := ⟨rfl, rfl, rfl, rfl, x5⟩
    have rT : relR 48 nf' nm' nl' le' al' kd' (cpT (nI nm', nI nl', nI ba', nI mi', kn', ki', on', ha') T) row1 := relR_cpT T hnm' hnl' ⟨ba', mi', s', hB', hX', Y'⟩
    refine ⟨nI cc, nI nf', tl, ta, to, (nI nm', nI nl', nI ba', nI mi', kn', ki', on', ha'), nI cc, nI b', nI a', nf', nm', nl', le', al', kd', va_cpy tl fle 0 0 12, va_cpy ta fal 0 0 12, va_cpy to flo 0 0 12, cpT (nI nm', nI nl', nI ba', nI mi', kn', ki', on', ha') T, cpT (cpT (nI nm', nI nl', nI ba', nI mi', kn', ki', on', ha') T) N, 0, 0, 0, 0, v1, v2, nI cc, v4, v5, v6, v7, row2, upd (upd ik 0 (nI 0)) 1 (nI 0), ?_, ?_, ⟨by omega, fun j hj => absurd hj (Nat.not_lt_zero j)⟩, relFC_cpy o'.1 hC', ?_, ?_, ⟨by omega, fun j hj => absurd hj (Nat.not_lt_zero j)⟩⟩
    · unfold fX7_club fX0_setAs fX3_setAs
      rw [F1, Option.bind_some]
      dsimp only
      rw [if_pos (show res = -1 from f1), Option.bind_some, Option.bind_some, Option.bind_some]
      rfl
    · unfold fX8_club
      rw [show fX8_reads n (nI z) te w4 w5 w6 w7 w8 w0 w1 w2 w3 d1 d2 d3 d4 d5 d6 d7 row 0 = _ from Q0.trans U, Option.bind_some]
      dsimp only
      rw [if_neg (show ¬ nI 1 = (0 : Int32) by decide), show fX8_reads n (nI z) te w4 w5 w6 w7 w8 w0 w1 w2 w3 u1 u2 u3 u4 u5 u6 u7 row 1 = _ from Q1.trans V, Option.bind_some]
      dsimp only
      rw [show fX8_copyClub n row1 48 0 = some row2 from E, Option.bind_some, show vp_nar .boolean 0 = nI 0 from pu_false]
      rfl
    · have k0 : ∀ q, 48 ≤ q → row2 q = row1 q := fun q hq => k2 q (by omega)
      refine ⟨o', hnm', hnl', ?_, ⟨?_, fun l hl => (k0 _ (by omega)).trans (hz' l hl)⟩, by omega, fun i hi => absurd hi (Nat.not_lt_zero i), by omega, fun k hk hb => ?_⟩
      · exact relR_cpT N hnm' hnl' (relR_move o'.1 hnm' hnl' (fun j hj => k1 j hj) rT)
      · exact relR_same o'.1 hnm' hnl' (fun q hq _ => k0 q hq) rT
      · rw [Nat.zero_testBit] at hb
        cases hb
    · intro k hk
      rw [if_neg (by rw [Nat.zero_testBit]; decide)]
      rcases (show k = 0 ∨ k = 1 by omega) with rfl | rfl
      · rw [upd_ne _ _ (by omega), upd_at]
      · rw [upd_at]
