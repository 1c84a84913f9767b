theorem relW_undo {nf nm nl u u' c b : Nat} {le al kd : Nat → Nat} {N T X : rmT} {A K : paT} {row row' : Nat → Int32} (h : relW nf nm nl le al kd N T u A c K row) (hu : u' ≤ u) (hb : 48 ≤ b) (hb2 : b + 48 ≤ 624) (hX : relR b nf nm nl le al kd X row) (h1 : ∀ q, q < 48 → row' (0 + q) = row (b + q)) (h2 : ∀ q, q < 0 ∨ 0 + 48 ≤ q → row' q = row q) : relW nf nm nl le al kd (cpT X N) T u' A c K row' := by
  have hn0 : relR 0 nf nm nl le al kd (cpT X N) row' := relR_cpT N h.2.1 h.2.2.1 (relR_move h.1.1 h.2.1 h.2.2.1 h1 hX)
  obtain ⟨o, g1, g2, r0, r1, g3, rp, hc, rk⟩ := relW_now h hn0 (fun q hq _ => h2 q (by omega))
  exact ⟨o, g1, g2, r0, r1, by omega, fun i hi => rp i (by omega), hc, rk⟩
/-- the call undo -/
theorem pu_undo {n nf nm nl u c : Nat} {le al kd : Nat → Nat} {N T : rmT} {A K : paT} {row : Nat → Int32} (hn : 400 ≤ n) (h : relW nf nm nl le al kd N T u A c K row) :
    ∃ (r : Int32) (u' : Nat) (N' : rmT) (row' : Nat → Int32),
      fX7_undo n A.1 A.2.1 A.2.2.1 A.2.2.2.1 A.2.2.2.2.1 A.2.2.2.2.2.1 A.2.2.2.2.2.2.1 A.2.2.2.2.2.2.2 (nI u) N.1 N.2.1 N.2.2.1 N.2.2.2.1 N.2.2.2.2.1 N.2.2.2.2.2.1 N.2.2.2.2.2.2.1 N.2.2.2.2.2.2.2 = some (r, nI u', N'.1, N'.2.1, N'.2.2.1, N'.2.2.2.1, N'.2.2.2.2.1, N'.2.2.2.2.2.1, N'.2.2.2.2.2.2.1, N'.2.2.2.2.2.2.2) ∧
      fX8_undo n (nI u) row = some (r, nI u', row') ∧ relW nf nm nl le al kd N' T u' A c K row' := by
  obtain ⟨o, hnm, hnl, r0, r1, hu, rp, hc, rk⟩ := id h
  by_cases d : u = 0
  · refine ⟨-nI 4, u, N, row, ?_, ?_, h⟩
    · unfold fX7_undo
      simp (disch := omega) only [Nat.zero_add, qa, qb, qbb, qc, qd, qe, qf, qg, Option.bind_some, reduceIte, or_false, false_or, or_self, or_true, true_or, and_true, true_and, and_false, false_and, not_true_eq_false, not_false_eq_true]
    · unfold fX8_undo
      simp (disch := omega) only [Nat.zero_add, qa, qb, qbb, qc, qd, qe, qf, qg, Option.bind_some, reduceIte, or_false, false_or, or_self, or_true, true_or, and_true, true_and, and_false, false_and, not_true_eq_false, not_false_eq_true]
  · obtain ⟨row', E, h1, h2⟩ := pu_copyClub (n := n) (a := 96 + 48 * (u - 1)) (b := 0) (by omega) (by omega) (by omega) (by omega) row
    refine ⟨nI (u - 1), u - 1, cpT (atT A (u - 1)) N, row', ?_, ?_, ?_⟩
    · unfold fX7_undo fX3_setAs
      simp (disch := omega) only [Nat.zero_add, qa, qb, qbb, qc, qd, qe, qf, qg, Option.bind_some, reduceIte, or_false, false_or, or_self, or_true, true_or, and_true, true_and, and_false, false_and, not_true_eq_false, not_false_eq_true]
      rfl
    · unfold fX8_undo
      simp (disch := omega) only [Nat.zero_add, qa, qb, qbb, qc, qd, qe, qf, qg, Option.bind_some, reduceIte, or_false, false_or, or_self, or_true, true_or, and_true, true_and, and_false, false_and, not_true_eq_false, not_false_eq_true, E]
    · exact relW_undo h (by omega) (by omega) (by omega) (rp (u - 1) (by omega)) h1 h2
def relK (c : Nat) (ik : Nat → Int32) : Prop := ∀ k, k < 2 → ik k = if c.testBit k = true then nI 1 else nI 0
theorem pu_true : vp_nar .boolean (nI 1) = nI 1 := by decide
/-- the call keep -/
theorem pu_keep {n nf nm nl u c : Nat} {le al kd : Nat → Nat} {N T : rmT} {A K : paT} {row ik : Nat → Int32} (hn : 400 ≤ n) (h : relW nf nm nl le al kd N T u A c K row) (hik : relK c ik) (v1 : Int32) :
    ∃ (r : Int32) (K' : paT) (c' : Nat) (ik' row' : Nat → Int32),
      fX7_keep n N.1 N.2.1 N.2.2.1 N.2.2.2.1 N.2.2.2.2.1 N.2.2.2.2.2.1 N.2.2.2.2.2.2.1 N.2.2.2.2.2.2.2 K.1 K.2.1 K.2.2.1 K.2.2.2.1 K.2.2.2.2.1 K.2.2.2.2.2.1 K.2.2.2.2.2.2.1 K.2.2.2.2.2.2.2 (nI c) v1 = some (r, K'.1, K'.2.1, K'.2.2.1, K'.2.2.2.1, K'.2.2.2.2.1, K'.2.2.2.2.2.1, K'.2.2.2.2.2.2.1, K'.2.2.2.2.2.2.2, nI c') ∧
      fX8_keep n row ik v1 = some (r, row', ik') ∧ relW nf nm nl le al kd N T u A c' K' row' ∧ relK c' ik' := by
  obtain ⟨o, hnm, hnl, r0, r1, hu, rp, hc, rk⟩ := id h
  rcases q_cas v1 (a := 0) (N := 2) (by omega) (by omega) with ⟨k, -, hk, rfl⟩ | g | ⟨g, g1, -, -, g2⟩
  · obtain ⟨row', E, h1, h2⟩ := pu_copyClub (n := n) (a := 0) (b := 480 + 48 * k) (by omega) (by omega) (by omega) (by omega) row
    have hc4 : 2 ^ k ≤ 2 := by
      rcases (show k = 0 ∨ k = 1 by omega) with rfl | rfl <;> decide
    obtain ⟨zb, zm, s, b1, ⟨x1, x2, x3, x4, x5⟩, b3⟩ := id r0
    have b4 := b3.2.2.2
    have e15 : row' 15 = nI zm := by rw [h2 15 (by omega)]; exact b4
    refine ⟨nI zm, upT K k (cpT N (atT K k)), c ||| 2 ^ k, upd ik k (nI 1), row', ?_, ?_, ⟨o, hnm, hnl, ?_, ?_, hu, fun i hi => ?_, ?_, fun j hj hb => ?_⟩, fun j hj => ?_⟩
    · unfold fX7_keep fX3_setAs
      simp (disch := omega) only [Nat.zero_add, qa, qb, qbb, qc, qd, qe, qf, qg, Option.bind_some, reduceIte, or_false, false_or, or_self, or_true, true_or, and_true, true_and, and_false, false_and, not_true_eq_false, not_false_eq_true]
      rw [← x4]
      rfl
    · unfold fX8_keep
      simp (disch := omega) only [Nat.zero_add, qa, qb, qbb, qc, qd, qe, qf, qg, Option.bind_some, reduceIte, or_false, false_or, or_self, or_true, true_or, and_true, true_and, and_false, false_and, not_true_eq_false, not_false_eq_true, E, e15, pu_true]
    · exact relR_same o.1 hnm hnl (fun q _ hq => h2 q (by omega)) r0
    · exact ⟨relR_same o.1 hnm hnl (fun q _ hq => h2 q (by omega)) r1.1, fun l hl => (h2 (57 + l) (by omega)).trans (r1.2 l hl)⟩
    · exact relR_same o.1 hnm hnl (fun q _ hq => h2 q (by omega)) (rp i hi)
    · exact Nat.or_lt_two_pow (n := 2) hc (by omega)
    · by_cases d : j = k
      · subst d
        rw [atT_at]
        exact relR_cpT _ hnm hnl (relR_move o.1 hnm hnl (fun i hi => (h1 i hi)) r0)
      · rw [atT_ne _ _ d]
        refine relR_same o.1 hnm hnl (fun q _ hq => h2 q (by omega)) (rk j hj ?_)
        rw [Nat.testBit_or, Nat.testBit_two_pow] at hb
        simpa [Ne.symm d] using hb
    · by_cases d : j = k
      · subst d
        rw [upd_at, if_pos (by rw [Nat.testBit_or, Nat.testBit_two_pow]; simp)]
      · rw [upd_ne _ _ d, hik j hj, Nat.testBit_or, Nat.testBit_two_pow]
        simp [Ne.symm d]
  · refine ⟨-nI 2, K, c, ik, row, ?_, ?_, h, hik⟩
    · unfold fX7_keep fX7_keep_9
      simp (disch := omega) only [Nat.zero_add, qa, qb, qbb, qc, qd, qe, qf, qg, Option.bind_some, reduceIte, or_false, false_or, or_self, or_true, true_or, and_true, true_and, and_false, false_and, not_true_eq_false, not_false_eq_true, g]
    · unfold fX8_keep
      simp (disch := omega) only [Nat.zero_add, qa, qb, qbb, qc, qd, qe, qf, qg, Option.bind_some, reduceIte, or_false, false_or, or_self, or_true, true_or, and_true, true_and, and_false, false_and, not_true_eq_false, not_false_eq_true, g]
  · refine ⟨-nI 2, K, c, ik, row, ?_, ?_, h, hik⟩
    · unfold fX7_keep fX7_keep_9
      simp (disch := omega) only [Nat.zero_add, qa, qb, qbb, qc, qd, qe, qf, qg, Option.bind_some, reduceIte, or_false, false_or, or_self, or_true, true_or, and_true, true_and, and_false, false_and, not_true_eq_false, not_false_eq_true, g, g1]
    · unfold fX8_keep
      simp (disch := omega) only [Nat.zero_add, qa, qb, qbb, qc, qd, qe, qf, qg, Option.bind_some, reduceIte, or_false, false_or, or_self, or_true, true_or, and_true, true_and, and_false, false_and, not_true_eq_false, not_false_eq_true, g, g2]
/-- the call back -/
theorem pu_back {n nf nm nl u c : Nat} {le al kd : Nat → Nat} {N T : rmT} {A K : paT} {row ik : Nat → Int32} (hn : 400 ≤ n) (h : relW nf nm nl le al kd N T u A c K row) (hik : relK c ik) (v1 : Int32) :
    ∃ (r : Int32) (N' : rmT) (u' : Nat) (row' : Nat → Int32),
      fX7_back n (nI c) K.1 K.2.1 K.2.2.1 K.2.2.2.1 K.2.2.2.2.1 K.2.2.2.2.2.1 K.2.2.2.2.2.2.1 K.2.2.2.2.2.2.2 N.1 N.2.1 N.2.2.1 N.2.2.2.1 N.2.2.2.2.1 N.2.2.2.2.2.1 N.2.2.2.2.2.2.1 N.2.2.2.2.2.2.2 (nI u) v1 = some (r, N'.1, N'.2.1, N'.2.2.1, N'.2.2.2.1, N'.2.2.2.2.1, N'.2.2.2.2.2.1, N'.2.2.2.2.2.2.1, N'.2.2.2.2.2.2.2, nI u') ∧
      fX8_back n ik row (nI u) v1 = some (r, row', nI u') ∧ relW nf nm nl le al kd N' T u' A c K row' := by
  obtain ⟨o, hnm, hnl, r0, r1, hu, rp, hc, rk⟩ := id h
  rcases q_cas v1 (a := 0) (N := 2) (by omega) (by omega) with ⟨k, -, hk, rfl⟩ | g | ⟨g, g1, -, -, g2⟩
  · have hi := hik k hk
    by_cases d : c.testBit k = true
    · rw [if_pos d] at hi
      obtain ⟨row', E, h1, h2⟩ := pu_copyClub (n := n) (a := 480 + 48 * k) (b := 0) (by omega) (by omega) (by omega) (by omega) row
      have rX := rk k hk d
      obtain ⟨zb, zm, s, b1, ⟨x1, x2, x3, x4, x5⟩, b3⟩ := id rX
      have e15 : row' 15 = nI zm := by
        have := h1 15 (by omega)
        rw [Nat.zero_add] at this
        rw [this]; exact b3.2.2.2
      refine ⟨nI zm, cpT (atT K k) N, 0, row', ?_, ?_, relW_undo h (by omega) (by omega) (by omega) rX h1 h2⟩
      · unfold fX7_back fX3_setAs
        simp (disch := omega) only [Nat.zero_add, qa, qb, qbb, qc, qd, qe, qf, qg, Option.bind_some, reduceIte, or_false, false_or, or_self, or_true, true_or, and_true, true_and, and_false, false_and, not_true_eq_false, not_false_eq_true, d]
        rw [← x4]
        rfl
      · unfold fX8_back
        simp (disch := omega) only [Nat.zero_add, qa, qb, qbb, qc, qd, qe, qf, qg, Option.bind_some, reduceIte, or_false, false_or, or_self, or_true, true_or, and_true, true_and, and_false, false_and, not_true_eq_false, not_false_eq_true, hi, E, e15]
    · rw [if_neg d] at hi
      refine ⟨-nI 4, N, u, row, ?_, ?_, h⟩
      · unfold fX7_back
        simp (disch := omega) only [Nat.zero_add, qa, qb, qbb, qc, qd, qe, qf, qg, Option.bind_some, reduceIte, or_false, false_or, or_self, or_true, true_or, and_true, true_and, and_false, false_and, not_true_eq_false, not_false_eq_true, d, Bool.false_eq_true]
      · unfold fX8_back
        simp (disch := omega) only [Nat.zero_add, qa, qb, qbb, qc, qd, qe, qf, qg, Option.bind_some, reduceIte, or_false, false_or, or_self, or_true, true_or, and_true, true_and, and_false, false_and, not_true_eq_false, not_false_eq_true, hi]
  · refine ⟨-nI 2, N, u, row, ?_, ?_, h⟩
    · unfold fX7_back fX7_back_9
      simp (disch := omega) only [Nat.zero_add, qa, qb, qbb, qc, qd, qe, qf, qg, Option.bind_some, reduceIte, or_false, false_or, or_self, or_true, true_or, and_true, true_and, and_false, false_and, not_true_eq_false, not_false_eq_true, g]
    · unfold fX8_back
      simp (disch := omega) only [Nat.zero_add, qa, qb, qbb, qc, qd, qe, qf, qg, Option.bind_some, reduceIte, or_false, false_or, or_self, or_true, true_or, and_true, true_and, and_false, false_and, not_true_eq_false, not_false_eq_true, g]
  · refine ⟨-nI 2, N, u, row, ?_, ?_, h⟩
    · unfold fX7_back fX7_back_9
      simp (disch := omega) only [Nat.zero_add, qa, qb, qbb, qc, qd, qe, qf, qg, Option.bind_some, reduceIte, or_false, false_or, or_self, or_true, true_or, and_true, true_and, and_false, false_and, not_true_eq_false, not_false_eq_true, g, g1]
    · unfold fX8_back
      simp (disch := omega) only [Nat.zero_add, qa, qb, qbb, qc, qd, qe, qf, qg, Option.bind_some, reduceIte, or_false, false_or, or_self, or_true, true_or, and_true, true_and, and_false, false_and, not_true_eq_false, not_false_eq_true, g, g2]
theorem relW_tr {nf nm nl u c : Nat} {le al kd : Nat → Nat} {N T : rmT} {A K : paT} {row row' : Nat → Int32} (h : relW nf nm nl le al kd N T u A c K row) (hr : ∀ q, q < 576 → row' q = row q) : relW nf nm nl le al kd N T u A c K row' :=
  relW_now h (relR_same h.1.1 h.2.1 h.2.2.1 (fun q _ hq => hr q (by omega)) h.2.2.2.1) (fun q _ hq => hr q hq)
theorem pu_lay_loop {n : Nat} (hn : 400 ≤ n) {le al kd : Nat → Nat} {nf nm nl ba T : Nat} (hT : T < 2147483648) (hnm : nm ≤ 4) (hnl : nl ≤ 5) : ∀ (t i q mi : Nat) (row : Nat → Int32) (x1 x2 x3 : Int32) (s : rmS), i + t = T → fctM row nf al → okS nf nm nl s → relY 576 nf nm nl le al kd row ba mi s →
    ∃ row' y1 y2 y3, relY 576 nf nm nl le al kd row' ba (mi + t) (stM al nf nl kd t s) ∧ fctM row' nf al ∧ okS nf nm nl (stM al nf nl kd t s) ∧ (∀ j, j < 576 → row' j = row j) ∧
      fX8_layTried_10 n (q + t + 1) row x1 x2 x3 (nI T) (nI i) = some (row', y1, y2, y3) := by
  intro t
  induction t with
  | zero =>
    intro i q mi row x1 x2 x3 s hi hF hs hr
    refine ⟨row, x1, x2, x3, hr, hF, hs, fun _ _ => rfl, ?_⟩
    unfold fX8_layTried_10
    simp (disch := omega) only [Nat.zero_add, qa, qb, qbb, qc, qd, qe, qf, qg, Option.bind_some, reduceIte, or_false, false_or, or_self, or_true, true_or, and_true, true_and, and_false, false_and, not_true_eq_false, not_false_eq_true]
  | succ t ih =>
    intro i q mi row x1 x2 x3 s hi hF hs hr
    obtain ⟨r1, a1, a2, a3, b1, b2, b3, b4, E1⟩ := pu_step hn (b := 576) (Or.inr (by omega)) (by omega) hnm hnl x1 x2 x3 hF hs hr
    obtain ⟨r2, c1, c2, c3, d1, d0, d2, d3, E2⟩ := ih (i + 1) q (mi + 1) r1 a1 a2 a3 _ (by omega) b2 b3 b1
    have e : mi + 1 + t = mi + (t + 1) := by omega
    rw [e] at d1
    refine ⟨r2, c1, c2, c3, d1, d0, d2, fun j hj => (d3 j hj).trans (b4 j (by omega)), ?_⟩
    have e2 : q + (t + 1) + 1 = (q + t + 1) + 1 := by omega
    rw [e2]
    unfold fX8_layTried_10
    simp (disch := omega) only [Nat.zero_add, qa, qb, qbb, qc, qd, qe, qf, qg, Option.bind_some, reduceIte, or_false, false_or, or_self, or_true, true_or, and_true, true_and, and_false, false_and, not_true_eq_false, not_false_eq_true, E1]
    exact E2
theorem pu_lay {n : Nat} (hn : 400 ≤ n) {le al kd : Nat → Nat} {nf nm nl ba mi T : Nat} (hT : T < n) (hT2 : T < 2147483648) (hnf : nf ≤ 12) (hnm : nm ≤ 4) (hnl : nl ≤ 5) {row : Nat → Int32} (x1 x2 x3 : Int32) {s : rmS} (hF : fctM row nf al) (hs : okS nf nm nl s) (hr : relY 0 nf nm nl le al kd row ba mi s) :
    ∃ row' y1 y2 y3, relY 576 nf nm nl le al kd row' ba (mi + T) (stM al nf nl kd T s) ∧ fctM row' nf al ∧ okS nf nm nl (stM al nf nl kd T s) ∧ (∀ j, j < 576 → row' j = row j) ∧
      fX8_layTried n row x1 x2 x3 (nI T) = some (row', y1, y2, y3) := by
  obtain ⟨r1, E1, h1, h2⟩ := pu_copyClub (n := n) (a := 0) (b := 576) (by omega) (by omega) (by omega) (by omega) row
  have hF1 : fctM r1 nf al := ⟨hF.1, (h2 23 (by omega)).trans hF.2.1, fun g hg => ⟨(h2 (36 + g) (by omega)).trans (hF.2.2 g hg).1, (hF.2.2 g hg).2⟩⟩
  obtain ⟨r2, y1, y2, y3, b1, b2, b3, b4, E2⟩ := pu_lay_loop hn (T := T) hT2 hnm hnl T 0 (n - T - 1) mi r1 x1 x2 x3 s (by omega) hF1 hs (relY_move hnf hnm hnl h1 hr)
  have e : n - T - 1 + T + 1 = n := by omega
  rw [e] at E2
  refine ⟨r2, y1, y2, y3, b1, b2, b3, fun j hj => (b4 j hj).trans (h2 j (by omega)), ?_⟩
  unfold fX8_layTried
  simp (disch := omega) only [Nat.zero_add, qa, qb, qbb, qc, qd, qe, qf, qg, Option.bind_some, reduceIte, or_false, false_or, or_self, or_true, true_or, and_true, true_and, and_false, false_and, not_true_eq_false, not_false_eq_true, E1]
  exact E2
/-- the call ahead -/
theorem pu_ahead {n nf nm nl u c : Nat} {le al kd : Nat → Nat} {N T : rmT} {A K : paT} {row lw : Nat → Int32} (hn : 400 ≤ n) (hC : fctC lw nf al) (h : relW nf nm nl le al kd N T u A c K row) (R : rmT) (w1 w2 w3 v1 v2 : Int32) :
    ∃ (r : Int32) (R' : rmT) (row' : Nat → Int32) (w1' w2' w3' : Int32),
      fX7_ahead n N.1 N.2.1 N.2.2.1 N.2.2.2.1 N.2.2.2.2.1 N.2.2.2.2.2.1 N.2.2.2.2.2.2.1 N.2.2.2.2.2.2.2 lw R.1 R.2.1 R.2.2.1 R.2.2.2.1 R.2.2.2.2.1 R.2.2.2.2.2.1 R.2.2.2.2.2.2.1 R.2.2.2.2.2.2.2 v1 v2 = some (r, R'.1, R'.2.1, R'.2.2.1, R'.2.2.2.1, R'.2.2.2.2.1, R'.2.2.2.2.2.1, R'.2.2.2.2.2.2.1, R'.2.2.2.2.2.2.2) ∧
      fX8_ahead n row w1 w2 w3 v1 v2 = some (r, row', w1', w2', w3') ∧ relW nf nm nl le al kd N T u A c K row' := by
  obtain ⟨o, hnm, hnl, ⟨zb, zm, s, ⟨hb, hm, hs⟩, hx, hy⟩, hrest⟩ := id h
  have hx2 := relX_cpT R hnm hnl hx
  obtain ⟨x1, x2, x3, x4, x5⟩ := hx
  obtain ⟨z1, z2, z3, z4, z5⟩ := hx2
  have hy0 := hy
  rw [relY0_eq] at hy
  obtain ⟨⟨y1, y2⟩, ⟨y3, y4, y5, y6, y7, y8⟩, y9, y10⟩ := id hy
  have hnf := o.1
  have i16 := fun v => pu_isMember n (row := row) (N := nm) (by omega) y3 v
  rcases inG_cas v1 (N := nm) (by omega) with g | ⟨m, hmm, rfl, g⟩
  · refine ⟨-nI 2, R, row, w1, w2, w3, ?_, ?_, h⟩
    · unfold fX7_ahead
      simp (disch := omega) only [Nat.zero_add, qa, qb, qbb, qc, qd, qe, qf, qg, Option.bind_some, reduceIte, or_false, false_or, or_self, or_true, true_or, and_true, true_and, and_false, false_and, not_true_eq_false, not_false_eq_true, g, x1]
    · unfold fX8_ahead
      simp (disch := omega) only [Nat.zero_add, qa, qb, qbb, qc, qd, qe, qf, qg, Option.bind_some, reduceIte, or_false, false_or, or_self, or_true, true_or, and_true, true_and, and_false, false_and, not_true_eq_false, not_false_eq_true, g, i16]
  · rcases q_cas v2 (a := 0) (N := 41) (by omega) (by omega) with ⟨t, -, ht, rfl⟩ | g1 | ⟨g1, -, -, g2, g3⟩
    · obtain ⟨row', c1, c2, c3, d1, d2, d3, d4, E1⟩ := pu_lay hn (T := t) (by omega) (by omega) hnf hnm hnl w1 w2 w3 (fctM_of o hy) hs hy0
      obtain ⟨ha', kn', on', Q, S, E4⟩ := pu_pass (n := n) (mi := zm) (T := t) (by omega) (by omega) (by omega) hnf hnm hnl hC hs z5
      have q1 := Q.2.2.1 m hmm
      have q2 := d1.2.1.2.2.2.2.1 m hmm
      refine ⟨nI ((stM al nf nl kd t s).2.1 m), (nI nm, nI nl, nI zb, nI (zm + t), kn', (cpT N R).2.2.2.2.2.1, on', ha'), row', c1, c2, c3, ?_, ?_, relW_tr h d4⟩
      · unfold fX7_ahead fX3_setAs
        unfold cpT at E4 ⊢
        dsimp only at E4 ⊢
        simp (disch := omega) only [Nat.zero_add, qa, qb, qbb, qc, qd, qe, qf, qg, Option.bind_some, reduceIte, or_false, false_or, or_self, or_true, true_or, and_true, true_and, and_false, false_and, not_true_eq_false, not_false_eq_true, x1, x2, x3, x4, g] at E4 ⊢
        simp (disch := omega) only [Nat.zero_add, qa, qb, qbb, qc, qd, qe, qf, qg, Option.bind_some, reduceIte, or_false, false_or, or_self, or_true, true_or, and_true, true_and, and_false, false_and, not_true_eq_false, not_false_eq_true, E4, q1]
      · unfold fX8_ahead
        simp (disch := omega) only [Nat.zero_add, qa, qb, qbb, qc, qd, qe, qf, qg, Option.bind_some, reduceIte, or_false, false_or, or_self, or_true, true_or, and_true, true_and, and_false, false_and, not_true_eq_false, not_false_eq_true, g, i16, E1, q2]
    · refine ⟨-nI 3, R, row, w1, w2, w3, ?_, ?_, h⟩
      · unfold fX7_ahead fX7_ahead_24
        simp (disch := omega) only [Nat.zero_add, qa, qb, qbb, qc, qd, qe, qf, qg, Option.bind_some, reduceIte, or_false, false_or, or_self, or_true, true_or, and_true, true_and, and_false, false_and, not_true_eq_false, not_false_eq_true, g, x1, g1]
      · unfold fX8_ahead
        simp (disch := omega) only [Nat.zero_add, qa, qb, qbb, qc, qd, qe, qf, qg, Option.bind_some, reduceIte, or_false, false_or, or_self, or_true, true_or, and_true, true_and, and_false, false_and, not_true_eq_false, not_false_eq_true, g, i16, g1]
    · refine ⟨-nI 3, R, row, w1, w2, w3, ?_, ?_, h⟩
      · unfold fX7_ahead fX7_ahead_24
        simp (disch := omega) only [Nat.zero_add, qa, qb, qbb, qc, qd, qe, qf, qg, Option.bind_some, reduceIte, or_false, false_or, or_self, or_true, true_or, and_true, true_and, and_false, false_and, not_true_eq_false, not_false_eq_true, g, x1, g1, g2]
      · unfold fX8_ahead
        simp (disch := omega) only [Nat.zero_add, qa, qb, qbb, qc, qd, qe, qf, qg, Option.bind_some, reduceIte, or_false, false_or, or_self, or_true, true_or, and_true, true_and, and_false, false_and, not_true_eq_false, not_false_eq_true, g, i16, g1, g3]
