abbrev oC := Option (Int32 × Int32 × (Nat → Int32) × (Nat → Int32) × (Nat → Int32) × Int32 × Int32 × Int32 × Int32 × (Nat → Int32) × (Nat → Int32) × (Nat → Int32) × (Nat → Int32) × Int32 × Int32 × Int32)
abbrev oM := Option (Int32 × Int32 × Int32 × Int32 × Int32 × Int32 × Int32 × Int32 × (Nat → Int32))
/-- the reference: a clause and what is behind it -/
def rdX (n : Nat) (te w0 w1 w2 w3 w4 w5 w6 w7 w8 : Nat → Int32) (len : Int32) (fuel : Nat) (a b c nm nf nl D : Int32) (row : Nat → Int32) : oM :=
  (fX8_readsClause n te w4 w5 w6 w7 w8 w0 w1 w2 w3 len D a b row nm nf nl).bind fun z2 => fX8_reads_57 n len te w4 w5 w6 w7 w8 w0 w1 w2 w3 fuel D z2.2.2.1 c z2.2.2.2.2.2.1 z2.2.2.2.2.1 z2.2.2.2.2.2.2 z2.2.1 z2.2.2.2.1 z2.1
/-- class and reference come to one end -/
def prO (z : Nat) (L : Nat → Nat) (E : oC) (R : Int32 → (Nat → Int32) → oM) (Z : (Nat → Int32) → Prop) : Prop :=
  ∃ (a' b' c' nf' nm' nl' : Nat) (le' al' kd' : Nat → Nat) (ba' mi' : Nat) (s' : rmS) (fle' fal' flo' kn' ki' on' ha' : Nat → Int32) (res : Int32), c' ≤ 20 ∧ stT nf' nm' nl' le' al' kd' ba' mi' s' fle' fal' flo' kn' ki' on' ha' ∧ isTk L z a' b' ∧
    E = some (res, nI nf', fle', fal', flo', nI nm', nI nl', nI ba', nI mi', kn', ki', on', ha', nI c', nI b', nI a') ∧
    ((res = nI a' ∧ ∀ row, ∃ u1 u2 u3 u4 u5 u6, R (nI 0) row = some (nI 0, u1, u2, u3, u4, u5, u6, nI a', row)) ∨
     (res = onI 0 ∧ (∀ row, ∃ u1 u2 u3 u4 u5 u6 u7, R (nI 0) row = some (nI 1, u1, u2, u3, u4, u5, u6, u7, row)) ∧
      ∀ row, Z row → ∃ row' u1 u2 u4 u5 u6 u7, R (nI 1) row = some (nI 1, u1, u2, nI c', u4, u5, u6, u7, row') ∧ relZ nf' nm' nl' le' al' kd' row' ba' mi' s' ∧ out48 row row'))
theorem pr_step {n : Nat} (hn : 400 ≤ n) {z a b nf nm nl ba mi c : Nat} {L le al kd : Nat → Nat} {s : rmS} {lt te w0 w1 w2 w3 w4 w5 w6 w7 w8 fle fal flo kn ki on ha : Nat → Int32} (h : relL z L lt te) (hW : relWd w0 w1 w2 w3 w4 w5 w6 w7 w8) (hc : c < 20) (hT : isTk L z a b) (hS : stT nf nm nl le al kd ba mi s fle fal flo kn ki on ha)
    (p1 : Int32) (g1 g2 g3 : Nat → Int32) (p2 p3 p4 p5 : Int32) (g4 g5 g6 g7 : Nat → Int32) (q q2 : Nat)
    (ih : c + 1 < 20 → ∀ (a b nf nm nl : Nat) (le al kd : Nat → Nat) (ba mi : Nat) (s : rmS) (fle fal flo kn ki on ha : Nat → Int32), isTk L z a b → stT nf nm nl le al kd ba mi s fle fal flo kn ki on ha →
      prO z L (fX6_parse_30 n p1 g1 g2 g3 p2 p3 p4 p5 g4 g5 g6 g7 (nI z) lt q (nI nf) fle fal flo (nI nm) (nI nl) (nI ba) (nI mi) kn ki on ha (nI (c + 1)) (nI b) (nI a)) (rdX n te w0 w1 w2 w3 w4 w5 w6 w7 w8 (nI z) (q2 + 1) (nI a) (nI b) (nI (c + 2)) (nI nm) (nI nf) (nI nl)) (fun row => relZ nf nm nl le al kd row ba mi s)) :
    prO z L (fX6_parse_30 n p1 g1 g2 g3 p2 p3 p4 p5 g4 g5 g6 g7 (nI z) lt (q + 1) (nI nf) fle fal flo (nI nm) (nI nl) (nI ba) (nI mi) kn ki on ha (nI c) (nI b) (nI a)) (rdX n te w0 w1 w2 w3 w4 w5 w6 w7 w8 (nI z) (q2 + 2) (nI a) (nI b) (nI (c + 1)) (nI nm) (nI nf) (nI nl)) (fun row => relZ nf nm nl le al kd row ba mi s) := by
  obtain ⟨ok, a', b', nf', nm', nl', le', al', kd', ba', mi', s', fle', fal', flo', kn', ki', on', ha', hok, hS', T', E1, E2, E3⟩ := cl_all hn h hW hT hS
  have hz := h.1
  have t1 := T'.1
  rcases (show ok = 0 ∨ ok = 1 by omega) with rfl | rfl
  · refine ⟨a', b', c, nf', nm', nl', le', al', kd', ba', mi', s', fle', fal', flo', kn', ki', on', ha', nI a', by omega, hS', T', ?_, Or.inl ⟨rfl, fun row => ⟨nI 0, nI b', nI (c + 1), nI nf', nI nm', nI nl', ?_⟩⟩⟩
    · unfold fX6_parse_30 fX6_parse_104
      simp (disch := omega) only [Nat.zero_add, qa, qb, qbb, qc, qd, qe, qf, qg, Option.bind_some, reduceIte, or_false, false_or, or_self, or_true, true_or, and_true, true_and, and_false, false_and, not_true_eq_false, not_false_eq_true, E1]
    · have E2' := E2 row
      unfold rdX fX8_reads_57 fX8_reads_127
      simp (disch := omega) only [Nat.zero_add, qa, qb, qbb, qc, qd, qe, qf, qg, Option.bind_some, reduceIte, or_false, false_or, or_self, or_true, true_or, and_true, true_and, and_false, false_and, not_true_eq_false, not_false_eq_true, E2']
  · by_cases d : a' = z
    · refine ⟨a', b', c + 1, nf', nm', nl', le', al', kd', ba', mi', s', fle', fal', flo', kn', ki', on', ha', onI 0, by omega, hS', T', ?_, Or.inr ⟨rfl, fun row => ⟨nI 0, nI b', nI (c + 1), nI nf', nI nm', nI nl', nI a', ?_⟩, fun row hZ => ?_⟩⟩
      · unfold fX6_parse_30 fX6_parse_104
        simp (disch := omega) only [Nat.zero_add, qa, qb, qbb, qc, qd, qe, qf, qg, Option.bind_some, reduceIte, or_false, false_or, or_self, or_true, true_or, and_true, true_and, and_false, false_and, not_true_eq_false, not_false_eq_true, E1]
      · have E2' := E2 row
        unfold rdX fX8_reads_57 fX8_reads_127
        simp (disch := omega) only [Nat.zero_add, qa, qb, qbb, qc, qd, qe, qf, qg, Option.bind_some, reduceIte, or_false, false_or, or_self, or_true, true_or, and_true, true_and, and_false, false_and, not_true_eq_false, not_false_eq_true, E2']
      · obtain ⟨row', E3', Z', u'⟩ := E3 row hZ
        refine ⟨row', nI 1, nI b', nI nf', nI nm', nI nl', nI a', ?_, Z', u'⟩
        unfold rdX fX8_reads_57 fX8_reads_127
        simp (disch := omega) only [Nat.zero_add, qa, qb, qbb, qc, qd, qe, qf, qg, Option.bind_some, reduceIte, or_false, false_or, or_self, or_true, true_or, and_true, true_and, and_false, false_and, not_true_eq_false, not_false_eq_true, E3']
    · obtain ⟨l1, l2, l3⟩ := h.2 a' (by omega)
      have stop : (c + 1 = 20 ∨ L a' ≠ 59) → ∀ row, rdX n te w0 w1 w2 w3 w4 w5 w6 w7 w8 (nI z) (q2 + 2) (nI a) (nI b) (nI (c + 1)) (nI nm) (nI nf) (nI nl) (nI 0) row = some (nI 0, nI 0, nI b', nI (c + 1), nI nf', nI nm', nI nl', nI a', row) := by
        intro k row
        have E2' := E2 row
        have Z : fX8_reads_57 n (nI z) te w4 w5 w6 w7 w8 w0 w1 w2 w3 (q2 + 1) (nI 0) (nI b') (nI (c + 1)) (nI nf') (nI nm') (nI nl') (nI a') row (nI 0) = some (nI 0, nI 0, nI b', nI (c + 1), nI nf', nI nm', nI nl', nI a', row) := by
          unfold fX8_reads_57 fX8_reads_127
          simp (disch := omega) only [Nat.zero_add, qa, qb, qbb, qc, qd, qe, qf, qg, Option.bind_some, reduceIte, or_false, false_or, or_self, or_true, true_or, and_true, true_and, and_false, false_and, not_true_eq_false, not_false_eq_true]
        unfold rdX
        rw [E2', Option.bind_some]
        dsimp only
        rw [show q2 + 2 = (q2 + 1) + 1 from rfl]
        generalize q2 + 1 = q3 at Z
        unfold fX8_reads_57 fX8_reads_99 fX8_reads_100
        by_cases c20 : c + 1 = 20
        · simp (disch := omega) only [Nat.zero_add, qa, qb, qbb, qc, qd, qe, qf, qg, Option.bind_some, reduceIte, or_false, false_or, or_self, or_true, true_or, and_true, true_and, and_false, false_and, not_true_eq_false, not_false_eq_true]
          exact Z
        · have k2 : L a' ≠ 59 := by rcases k with k | k; exact absurd k c20; exact k
          simp (disch := omega) only [Nat.zero_add, qa, qb, qbb, qc, qd, qe, qf, qg, Option.bind_some, reduceIte, or_false, false_or, or_self, or_true, true_or, and_true, true_and, and_false, false_and, not_true_eq_false, not_false_eq_true, l3]
          exact Z
      by_cases c20 : c + 1 = 20
      · refine ⟨a', b', c + 1, nf', nm', nl', le', al', kd', ba', mi', s', fle', fal', flo', kn', ki', on', ha', nI a', by omega, hS', T', ?_, Or.inl ⟨rfl, fun row => ⟨_, _, _, _, _, _, stop (Or.inl c20) row⟩⟩⟩
        unfold fX6_parse_30 fX6_parse_92
        simp (disch := omega) only [Nat.zero_add, qa, qb, qbb, qc, qd, qe, qf, qg, Option.bind_some, reduceIte, or_false, false_or, or_self, or_true, true_or, and_true, true_and, and_false, false_and, not_true_eq_false, not_false_eq_true, E1]
      · by_cases k59 : L a' = 59
        · have S7 := pu_step7 hn h T'.2.2.1 (nI a')
          have S8 := pu_step8 hn h T'.2.2.1 (nI a')
          have T2 := tk_is L T'.2.2.1
          generalize tkS L z b' = a2 at S7 S8 T2
          generalize tkE L z a2 = b2 at S7 S8 T2
          obtain ⟨a3, b3, c3, nf3, nm3, nl3, le3, al3, kd3, ba3, mi3, s3, fle3, fal3, flo3, kn3, ki3, on3, ha3, res, hc3, hS3, T3, F1, F2⟩ := ih (by omega) a2 b2 nf' nm' nl' le' al' kd' ba' mi' s' fle' fal' flo' kn' ki' on' ha' T2 hS'
          have cont : ∀ D row row1, fX8_readsClause n te w4 w5 w6 w7 w8 w0 w1 w2 w3 (nI z) D (nI a) (nI b) row (nI nm) (nI nf) (nI nl) = some (nI 1, nI a', nI b', row1, nI nm', nI nf', nI nl') →
              rdX n te w0 w1 w2 w3 w4 w5 w6 w7 w8 (nI z) (q2 + 2) (nI a) (nI b) (nI (c + 1)) (nI nm) (nI nf) (nI nl) D row = rdX n te w0 w1 w2 w3 w4 w5 w6 w7 w8 (nI z) (q2 + 1) (nI a2) (nI b2) (nI (c + 2)) (nI nm') (nI nf') (nI nl') D row1 := by
            intro D row row1 hR
            unfold rdX
            rw [hR, Option.bind_some]
            dsimp only
            rw [show q2 + 2 = (q2 + 1) + 1 from rfl]
            generalize q2 + 1 = q3
            have e2 : fX8_reads_57 n (nI z) te w4 w5 w6 w7 w8 w0 w1 w2 w3 (q3 + 1) D (nI b') (nI (c + 1)) (nI nf') (nI nm') (nI nl') (nI a') row1 (nI 1) = fX8_reads_100 n (fX8_reads_57 n (nI z) te w4 w5 w6 w7 w8 w0 w1 w2 w3 q3) (nI z) te w4 w5 w6 w7 w8 w0 w1 w2 w3 D (nI b') (nI (c + 1)) (nI nf') (nI nm') (nI nl') (nI a') row1 (nI 1) := by
              rw [fX8_reads_57]
              simp (disch := omega) only [Nat.zero_add, qa, qb, qbb, qc, qd, qe, qf, qg, Option.bind_some, reduceIte, or_false, false_or, or_self, or_true, true_or, and_true, true_and, and_false, false_and, not_true_eq_false, not_false_eq_true, l3]
            rw [e2]
            unfold fX8_reads_100
            rw [if_neg (show ¬ nI 1 = (0 : Int32) by decide), S8, Option.bind_some, nI_1 (c + 1)]
          refine ⟨a3, b3, c3, nf3, nm3, nl3, le3, al3, kd3, ba3, mi3, s3, fle3, fal3, flo3, kn3, ki3, on3, ha3, res, hc3, hS3, T3, ?_, ?_⟩
          · rw [← F1, fX6_parse_30]
            simp (disch := omega) only [Nat.zero_add, qa, qb, qbb, qc, qd, qe, qf, qg, Option.bind_some, reduceIte, or_false, false_or, or_self, or_true, true_or, and_true, true_and, and_false, false_and, not_true_eq_false, not_false_eq_true, E1, l2, S7]
          · rcases F2 with ⟨f1, f2⟩ | ⟨f1, f2, f3⟩
            · left
              refine ⟨f1, fun row => ?_⟩
              obtain ⟨u1, u2, u3, u4, u5, u6, U⟩ := f2 row
              exact ⟨u1, u2, u3, u4, u5, u6, (cont (nI 0) row row (E2 row)).trans U⟩
            · right
              refine ⟨f1, fun row => ?_, fun row hZ => ?_⟩
              · obtain ⟨u1, u2, u3, u4, u5, u6, u7, U⟩ := f2 row
                exact ⟨u1, u2, u3, u4, u5, u6, u7, (cont (nI 0) row row (E2 row)).trans U⟩
              · obtain ⟨row1, E3', Z', u'⟩ := E3 row hZ
                obtain ⟨row2, u1, u2, u4, u5, u6, u7, U, Z2, v'⟩ := f3 row1 Z'
                exact ⟨row2, u1, u2, u4, u5, u6, u7, (cont (nI 1) row row1 E3').trans U, Z2, fun j hj => (v' j hj).trans (u' j hj)⟩
        · refine ⟨a', b', c + 1, nf', nm', nl', le', al', kd', ba', mi', s', fle', fal', flo', kn', ki', on', ha', nI a', by omega, hS', T', ?_, Or.inl ⟨rfl, fun row => ⟨_, _, _, _, _, _, stop (Or.inr k59) row⟩⟩⟩
          unfold fX6_parse_30 fX6_parse_92
          simp (disch := omega) only [Nat.zero_add, qa, qb, qbb, qc, qd, qe, qf, qg, Option.bind_some, reduceIte, or_false, false_or, or_self, or_true, true_or, and_true, true_and, and_false, false_and, not_true_eq_false, not_false_eq_true, E1, l2]
theorem pr_loop {n : Nat} (hn : 400 ≤ n) {z : Nat} {L : Nat → Nat} {lt te w0 w1 w2 w3 w4 w5 w6 w7 w8 : Nat → Int32} (h : relL z L lt te) (hW : relWd w0 w1 w2 w3 w4 w5 w6 w7 w8)
    (p1 : Int32) (g1 g2 g3 : Nat → Int32) (p2 p3 p4 p5 : Int32) (g4 g5 g6 g7 : Nat → Int32) : ∀ (t c q q2 a b nf nm nl : Nat) (le al kd : Nat → Nat) (ba mi : Nat) (s : rmS) (fle fal flo kn ki on ha : Nat → Int32), c + t + 1 = 20 → isTk L z a b → stT nf nm nl le al kd ba mi s fle fal flo kn ki on ha →
      prO z L (fX6_parse_30 n p1 g1 g2 g3 p2 p3 p4 p5 g4 g5 g6 g7 (nI z) lt (q + t + 1) (nI nf) fle fal flo (nI nm) (nI nl) (nI ba) (nI mi) kn ki on ha (nI c) (nI b) (nI a)) (rdX n te w0 w1 w2 w3 w4 w5 w6 w7 w8 (nI z) (q2 + t + 2) (nI a) (nI b) (nI (c + 1)) (nI nm) (nI nf) (nI nl)) (fun row => relZ nf nm nl le al kd row ba mi s) := by
  intro t
  induction t with
  | zero =>
    intro c q q2 a b nf nm nl le al kd ba mi s fle fal flo kn ki on ha hc hT hS
    exact pr_step hn h hW (by omega) hT hS p1 g1 g2 g3 p2 p3 p4 p5 g4 g5 g6 g7 q q2 (fun k => absurd k (by omega))
  | succ t ih =>
    intro c q q2 a b nf nm nl le al kd ba mi s fle fal flo kn ki on ha hc hT hS
    exact pr_step hn h hW (by omega) hT hS p1 g1 g2 g3 p2 p3 p4 p5 g4 g5 g6 g7 (q + t + 1) (q2 + t + 1) (fun k a b nf nm nl le al kd ba mi s fle fal flo kn ki on ha hT hS => ih (c + 1) q q2 a b nf nm nl le al kd ba mi s fle fal flo kn ki on ha (by omega) hT hS)
