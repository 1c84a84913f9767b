/-- what the class has read so far -/
def stT (nf nm nl : Nat) (le al kd : Nat → Nat) (ba mi : Nat) (s : rmS) (fle fal flo kn ki on ha : Nat → Int32) : Prop :=
  okF nf le al ∧ relFC nf le al fle fal flo ∧ nm ≤ 4 ∧ nl ≤ 5 ∧ okB nf nm nl ba mi s ∧ relC nm nl kd ki ha kn on s
theorem ok_01 {ok : Nat} (h : ok < 2) : nI ok = nI 0 ∨ nI ok = nI 1 := by
  rcases (show ok = 0 ∨ ok = 1 by omega) with rfl | rfl
  · exact Or.inl rfl
  · exact Or.inr rfl
/-- a clause -/
theorem cl_all {n : Nat} (hn : 400 ≤ n) {z a b nf nm nl ba mi : Nat} {L le al kd : Nat → Nat} {s : rmS} {lt te w0 w1 w2 w3 w4 w5 w6 w7 w8 fle fal flo kn ki on ha : Nat → Int32} (h : relL z L lt te) (hW : relWd w0 w1 w2 w3 w4 w5 w6 w7 w8) (hT : isTk L z a b) (hS : stT nf nm nl le al kd ba mi s fle fal flo kn ki on ha) :
    ∃ (ok a' b' nf' nm' nl' : Nat) (le' al' kd' : Nat → Nat) (ba' mi' : Nat) (s' : rmS) (fle' fal' flo' kn' ki' on' ha' : Nat → Int32), ok < 2 ∧ stT nf' nm' nl' le' al' kd' ba' mi' s' fle' fal' flo' kn' ki' on' ha' ∧ isTk L z a' b' ∧
      fX6_takeClause n lt (nI z) ki on ha (nI nl) (nI a) (nI b) kn (nI nm) fle fal flo (nI nf) (nI ba) (nI mi) = some (nI ok, ki', on', ha', nI nl', nI a', nI b', kn', nI nm', fle', fal', flo', nI nf', nI ba', nI mi') ∧
      (∀ row, fX8_readsClause n te w4 w5 w6 w7 w8 w0 w1 w2 w3 (nI z) (nI 0) (nI a) (nI b) row (nI nm) (nI nf) (nI nl) = some (nI ok, nI a', nI b', row, nI nm', nI nf', nI nl')) ∧
      ∀ row, relZ nf nm nl le al kd row ba mi s → ∃ row', fX8_readsClause n te w4 w5 w6 w7 w8 w0 w1 w2 w3 (nI z) (nI 1) (nI a) (nI b) row (nI nm) (nI nf) (nI nl) = some (nI ok, nI a', nI b', row', nI nm', nI nf', nI nl') ∧ relZ nf' nm' nl' le' al' kd' row' ba' mi' s' ∧ out48 row row' := by
  obtain ⟨o, hC, hnm, hnl, ⟨hb4, hm9, s1, s2, s3⟩, r1, r2, r3, r4⟩ := hS
  have hnf := o.1
  have hb := hT.2.2.1
  have hab := hT.2.1
  have k8 := pu_kindHere hn h hb hab hW
  have c0 := pu_isWord7 hn h hb hab (w := 0) (by omega)
  have c1 := pu_isWord7 hn h hb hab (w := 1) (by omega)
  have c2 := pu_isWord7 hn h hb hab (w := 2) (by omega)
  have c3 := pu_isWord7 hn h hb hab (w := 3) (by omega)
  have d0 := pu_isWord8 hn h hb hab (w := 0) (N := 4) (by omega) rfl hW.1
  have d1 := pu_isWord8 hn h hb hab (w := 1) (N := 4) (by omega) rfl hW.2.1
  have d2 := pu_isWord8 hn h hb hab (w := 2) (N := 6) (by omega) rfl hW.2.2.1
  have d3 := pu_isWord8 hn h hb hab (w := 3) (N := 2) (by omega) rfl hW.2.2.2.1
  have kz := kdW_i L a b
  by_cases e0 : wdB L 0 a b = true
  · have kk : kdW L a b = 0 := by
      by_cases q : kdW L a b = 0
      · exact q
      · have := (kz.2 q).1
        rw [e0] at this
        cases this
    rw [kk] at k8
    have E1 := pu_step7 hn h hb (nI a)
    have E2 := pu_step8 hn h hb (nI a)
    have T1 := tk_is L hb
    generalize tkS L z b = a1 at E1 E2 T1
    generalize tkE L z a1 = b1 at E1 E2 T1
    refine ⟨1, a1, b1, 0, 0, 0, le, al, kd, 0, 0, s, fle, fal, flo, kn, ki, on, ha, by omega, ⟨⟨by omega, fun g hg => absurd hg (Nat.not_lt_zero g)⟩, ⟨fun g hg => absurd hg (Nat.not_lt_zero g), fun g hg => absurd hg (Nat.not_lt_zero g)⟩, by omega, by omega, ⟨by omega, by omega, fun g hg => absurd hg (Nat.not_lt_zero g), fun g hg => absurd hg (Nat.not_lt_zero g), fun g hg => absurd hg (Nat.not_lt_zero g)⟩, fun g hg => absurd hg (Nat.not_lt_zero g), fun g hg => absurd hg (Nat.not_lt_zero g), fun g hg => absurd hg (Nat.not_lt_zero g), fun g hg => absurd hg (Nat.not_lt_zero g)⟩, T1, ?_, fun row => ?_, fun row hZ => ?_⟩
    · unfold fX6_takeClause fX3_setEmpty
      simp (disch := omega) only [Nat.zero_add, qa, qb, qbb, qc, qd, qe, qf, qg, Option.bind_some, reduceIte, or_false, false_or, or_self, or_true, true_or, and_true, true_and, and_false, false_and, not_true_eq_false, not_false_eq_true, c0, e0, E1]
    · obtain ⟨m, hm⟩ : ∃ m, n = m + 1 := ⟨n - 1, by omega⟩
      have Q : fX8_readsClub_21 n (nI z) te (nI 0) n (nI a1) (nI b1) (nI 0) (nI 0) (nI 0) row (nI 0) = some (nI 1, nI a1, nI b1, nI 0, nI 0, nI 0, row) := by
        have : ∀ k, fX8_readsClub_21 n (nI z) te (nI 0) (k + 1) (nI a1) (nI b1) (nI 0) (nI 0) (nI 0) row (nI 0) = some (nI 1, nI a1, nI b1, nI 0, nI 0, nI 0, row) := by
          intro k
          unfold fX8_readsClub_21 fX8_readsClub_50
          simp (disch := omega) only [Nat.zero_add, qa, qb, qbb, qc, qd, qe, qf, qg, Option.bind_some, reduceIte, or_false, false_or, or_self, or_true, true_or, and_true, true_and, and_false, false_and, not_true_eq_false, not_false_eq_true]
        have t := this m
        rw [← hm] at t
        exact t
      have R : fX8_readsClub n (nI z) te (nI 0) (nI a) (nI b) (nI nf) (nI nm) (nI nl) row = some (nI 1, nI a1, nI b1, nI 0, nI 0, nI 0, row) := by
        unfold fX8_readsClub
        simp (disch := omega) only [Nat.zero_add, qa, qb, qbb, qc, qd, qe, qf, qg, Option.bind_some, reduceIte, or_false, false_or, or_self, or_true, true_or, and_true, true_and, and_false, false_and, not_true_eq_false, not_false_eq_true, E2]
        exact Q
      unfold fX8_readsClause fX8_readsClause_94
      simp (disch := omega) only [Nat.zero_add, qa, qb, qbb, qc, qd, qe, qf, qg, Option.bind_some, reduceIte, or_false, false_or, or_self, or_true, true_or, and_true, true_and, and_false, false_and, not_true_eq_false, not_false_eq_true, k8, d0, e0, R]
    · obtain ⟨row', Q, q1, q2⟩ := cl_club1 n (nI z) te (nI a1) (nI b1) (nI 0) (nI 0) (nI 0) 48 0 (n - 49) row (by omega)
      have en : n - 49 + 48 + 1 = n := by omega
      rw [en] at Q
      have R : fX8_readsClub n (nI z) te (nI 1) (nI a) (nI b) (nI nf) (nI nm) (nI nl) row = some (nI 1, nI a1, nI b1, nI 0, nI 0, nI 0, row') := by
        unfold fX8_readsClub
        simp (disch := omega) only [Nat.zero_add, qa, qb, qbb, qc, qd, qe, qf, qg, Option.bind_some, reduceIte, or_false, false_or, or_self, or_true, true_or, and_true, true_and, and_false, false_and, not_true_eq_false, not_false_eq_true, E2]
        exact Q
      refine ⟨row', ?_, ⟨⟨q1 23 (by omega) (by omega), fun g hg => absurd hg (Nat.not_lt_zero g)⟩, ⟨q1 16 (by omega) (by omega), q1 17 (by omega) (by omega), fun g hg => absurd hg (Nat.not_lt_zero g), fun g hg => absurd hg (Nat.not_lt_zero g), fun g hg => absurd hg (Nat.not_lt_zero g), fun g hg => absurd hg (Nat.not_lt_zero g)⟩, ⟨q1 14 (by omega) (by omega), q1 15 (by omega) (by omega)⟩, fun l hl => ?_⟩, fun j hj => q2 j (by omega)⟩
      · unfold fX8_readsClause fX8_readsClause_94
        simp (disch := omega) only [Nat.zero_add, qa, qb, qbb, qc, qd, qe, qf, qg, Option.bind_some, reduceIte, or_false, false_or, or_self, or_true, true_or, and_true, true_and, and_false, false_and, not_true_eq_false, not_false_eq_true, k8, d0, e0, R]
      · have := q1 (9 + l) (by omega) (by omega)
        rw [show 48 + (9 + l) = 57 + l by omega] at this
        exact this
  · by_cases e1 : wdB L 1 a b = true
    · have kk : kdW L a b = 0 := by
        by_cases q : kdW L a b = 0
        · exact q
        · have := (kz.2 q).2.1
          rw [e1] at this
          cases this
      rw [kk] at k8
      obtain ⟨ok, a', b', nf', le', al', fle', fal', flo', hok, hle, o', hC', T', E1, E2, E3⟩ := cl_fact hn h hT o hC
      have o2 := ok_01 hok
      have hpw : 2 ^ nf ≤ 2 ^ nf' := Nat.pow_le_pow_right (by decide) hle
      refine ⟨ok, a', b', nf', nm, nl, le', al', kd, ba, mi, s, fle', fal', flo', kn, ki, on, ha, hok, ⟨o', hC', hnm, hnl, ⟨hb4, hm9, s1, fun m hm => Nat.lt_of_lt_of_le (s2 m hm) hpw, s3⟩, r1, r2, r3, r4⟩, T', ?_, fun row => ?_, fun row hZ => ?_⟩
      · unfold fX6_takeClause
        simp (disch := omega) only [Nat.zero_add, qa, qb, qbb, qc, qd, qe, qf, qg, Option.bind_some, reduceIte, or_false, false_or, or_self, or_true, true_or, and_true, true_and, and_false, false_and, not_true_eq_false, not_false_eq_true, c0, e0, c1, e1, E1, o2, Bool.false_eq_true]
      · have E2' := E2 row
        unfold fX8_readsClause fX8_readsClause_94
        simp (disch := omega) only [Nat.zero_add, qa, qb, qbb, qc, qd, qe, qf, qg, Option.bind_some, reduceIte, or_false, false_or, or_self, or_true, true_or, and_true, true_and, and_false, false_and, not_true_eq_false, not_false_eq_true, k8, d0, e0, d1, e1, E2', o2, Bool.false_eq_true]
      · obtain ⟨row', E3', Z', u'⟩ := E3 row nm nl kd ba mi s hnm hnl hZ
        refine ⟨row', ?_, Z', u'⟩
        unfold fX8_readsClause fX8_readsClause_94
        simp (disch := omega) only [Nat.zero_add, qa, qb, qbb, qc, qd, qe, qf, qg, Option.bind_some, reduceIte, or_false, false_or, or_self, or_true, true_or, and_true, true_and, and_false, false_and, not_true_eq_false, not_false_eq_true, k8, d0, e0, d1, e1, E3', o2, Bool.false_eq_true]
    · by_cases e2 : wdB L 2 a b = true
      · have kk : kdW L a b = 0 := by
          by_cases q : kdW L a b = 0
          · exact q
          · have := (kz.2 q).2.2.1
            rw [e2] at this
            cases this
        rw [kk] at k8
        obtain ⟨ok, a', b', nm', K', kn', hok, hle, hnm', r3', s2', T', E1, E2, E3⟩ := cl_member hn h hT o (fun g hg => (hC.1 g hg).2) hnm r3 s2
        have o2 := ok_01 hok
        refine ⟨ok, a', b', nf, nm', nl, le, al, kd, ba, mi, (s.1, K', s.2.2), fle, fal, flo, kn', ki, on, ha, hok, ⟨o, hC, hnm', hnl, ⟨hb4, hm9, s1, s2', fun l hl => Nat.le_trans (s3 l hl) hle⟩, r1, r2, r3', r4⟩, T', ?_, fun row => ?_, fun row hZ => ?_⟩
        · unfold fX6_takeClause
          simp (disch := omega) only [Nat.zero_add, qa, qb, qbb, qc, qd, qe, qf, qg, Option.bind_some, reduceIte, or_false, false_or, or_self, or_true, true_or, and_true, true_and, and_false, false_and, not_true_eq_false, not_false_eq_true, c0, e0, c1, e1, c2, e2, E1, o2, Bool.false_eq_true]
        · have E2' := E2 row
          unfold fX8_readsClause fX8_readsClause_94
          simp (disch := omega) only [Nat.zero_add, qa, qb, qbb, qc, qd, qe, qf, qg, Option.bind_some, reduceIte, or_false, false_or, or_self, or_true, true_or, and_true, true_and, and_false, false_and, not_true_eq_false, not_false_eq_true, k8, d0, e0, d1, e1, d2, e2, E2', o2, Bool.false_eq_true]
        · obtain ⟨row', E3', Z', u'⟩ := E3 row nl kd ba mi s.1 s.2.2 hnl hZ
          refine ⟨row', ?_, Z', u'⟩
          unfold fX8_readsClause fX8_readsClause_94
          simp (disch := omega) only [Nat.zero_add, qa, qb, qbb, qc, qd, qe, qf, qg, Option.bind_some, reduceIte, or_false, false_or, or_self, or_true, true_or, and_true, true_and, and_false, false_and, not_true_eq_false, not_false_eq_true, k8, d0, e0, d1, e1, d2, e2, E3', o2, Bool.false_eq_true]
      · by_cases e3 : wdB L 3 a b = true
        · have kk : kdW L a b = 0 := by
            by_cases q : kdW L a b = 0
            · exact q
            · have := (kz.2 q).2.2.2
              rw [e3] at this
              cases this
          rw [kk] at k8
          obtain ⟨ok, a', b', O', on', hok, r4', s3', T', E1, E2, E3⟩ := cl_on hn h hT hnl hnm r4 s3
          refine ⟨ok, a', b', nf, nm, nl, le, al, kd, ba, mi, (s.1, s.2.1, O'), fle, fal, flo, kn, ki, on', ha, hok, ⟨o, hC, hnm, hnl, ⟨hb4, hm9, s1, s2, s3'⟩, r1, r2, r3, r4'⟩, T', ?_, fun row => ?_, fun row hZ => ?_⟩
          · have o2 := ok_01 hok
            unfold fX6_takeClause
            simp (disch := omega) only [Nat.zero_add, qa, qb, qbb, qc, qd, qe, qf, qg, Option.bind_some, reduceIte, or_false, false_or, or_self, or_true, true_or, and_true, true_and, and_false, false_and, not_true_eq_false, not_false_eq_true, c0, e0, c1, e1, c2, e2, c3, e3, E1, o2, Bool.false_eq_true]
          · have E2' := E2 row
            unfold fX8_readsClause fX8_readsClause_93 fX8_readsClause_94
            rcases (show ok = 0 ∨ ok = 1 by omega) with rfl | rfl
            · simp (disch := omega) only [Nat.zero_add, qa, qb, qbb, qc, qd, qe, qf, qg, Option.bind_some, reduceIte, or_false, false_or, or_self, or_true, true_or, and_true, true_and, and_false, false_and, not_true_eq_false, not_false_eq_true, k8, d0, e0, d1, e1, d2, e2, d3, e3, E2', Bool.false_eq_true]
            · simp (disch := omega) only [Nat.zero_add, qa, qb, qbb, qc, qd, qe, qf, qg, Option.bind_some, reduceIte, or_false, false_or, or_self, or_true, true_or, and_true, true_and, and_false, false_and, not_true_eq_false, not_false_eq_true, k8, d0, e0, d1, e1, d2, e2, d3, e3, E2', Bool.false_eq_true]
          · obtain ⟨row', E3', Z', u'⟩ := E3 row nf le al kd ba mi s.1 s.2.1 hnf hZ
            refine ⟨row', ?_, Z', u'⟩
            unfold fX8_readsClause fX8_readsClause_93 fX8_readsClause_94
            rcases (show ok = 0 ∨ ok = 1 by omega) with rfl | rfl
            · simp (disch := omega) only [Nat.zero_add, qa, qb, qbb, qc, qd, qe, qf, qg, Option.bind_some, reduceIte, or_false, false_or, or_self, or_true, true_or, and_true, true_and, and_false, false_and, not_true_eq_false, not_false_eq_true, k8, d0, e0, d1, e1, d2, e2, d3, e3, E3', Bool.false_eq_true]
            · simp (disch := omega) only [Nat.zero_add, qa, qb, qbb, qc, qd, qe, qf, qg, Option.bind_some, reduceIte, or_false, false_or, or_self, or_true, true_or, and_true, true_and, and_false, false_and, not_true_eq_false, not_false_eq_true, k8, d0, e0, d1, e1, d2, e2, d3, e3, E3', Bool.false_eq_true]
        · by_cases kk : kdW L a b = 0
          · have k7 := pu_kindOfWord hn h hb hab
            rw [kk] at k7 k8
            have leq : fX6_takeLeech n lt (nI z) ki on ha (nI nl) (nI a) (nI b) = some (nI 0, ki, on, ha, nI nl, nI a, nI b) := by
              unfold fX6_takeLeech fX6_takeLeech_21
              simp (disch := omega) only [Nat.zero_add, qa, qb, qbb, qc, qd, qe, qf, qg, Option.bind_some, reduceIte, or_false, false_or, or_self, or_true, true_or, and_true, true_and, and_false, false_and, not_true_eq_false, not_false_eq_true, k7]
            refine ⟨0, a, b, nf, nm, nl, le, al, kd, ba, mi, s, fle, fal, flo, kn, ki, on, ha, by omega, ⟨o, hC, hnm, hnl, ⟨hb4, hm9, s1, s2, s3⟩, r1, r2, r3, r4⟩, hT, ?_, fun row => ?_, fun row hZ => ⟨row, ?_, hZ, fun _ _ => rfl⟩⟩
            · unfold fX6_takeClause
              simp (disch := omega) only [Nat.zero_add, qa, qb, qbb, qc, qd, qe, qf, qg, Option.bind_some, reduceIte, or_false, false_or, or_self, or_true, true_or, and_true, true_and, and_false, false_and, not_true_eq_false, not_false_eq_true, c0, e0, c1, e1, c2, e2, c3, e3, leq, Bool.false_eq_true]
            · unfold fX8_readsClause fX8_readsClause_93 fX8_readsClause_94
              simp (disch := omega) only [Nat.zero_add, qa, qb, qbb, qc, qd, qe, qf, qg, Option.bind_some, reduceIte, or_false, false_or, or_self, or_true, true_or, and_true, true_and, and_false, false_and, not_true_eq_false, not_false_eq_true, k8, d0, e0, d1, e1, d2, e2, d3, e3, Bool.false_eq_true]
            · unfold fX8_readsClause fX8_readsClause_93 fX8_readsClause_94
              simp (disch := omega) only [Nat.zero_add, qa, qb, qbb, qc, qd, qe, qf, qg, Option.bind_some, reduceIte, or_false, false_or, or_self, or_true, true_or, and_true, true_and, and_false, false_and, not_true_eq_false, not_false_eq_true, k8, d0, e0, d1, e1, d2, e2, d3, e3, Bool.false_eq_true]
          · obtain ⟨ok, a', b', nl', kd', H', O', ki', on', ha', hok, hle, hnl', r1', r2', r4', s1', s3', T', E1, E2, E3⟩ := cl_leech hn h hT hnl kk r1 r2 r4 s1 s3
            have o2 := ok_01 hok
            have kne : ¬ onI (kdW L a b) = onI 0 := by
              rw [onI_ne0 kk]
              exact onI_nn1 (by have := kz.1; omega)
            refine ⟨ok, a', b', nf, nm, nl', le, al, kd', ba, mi, (H', s.2.1, O'), fle, fal, flo, kn, ki', on', ha', hok, ⟨o, hC, hnm, hnl', ⟨hb4, hm9, s1', s2, s3'⟩, r1', r2', r3, r4'⟩, T', ?_, fun row => ?_, fun row hZ => ?_⟩
            · unfold fX6_takeClause
              simp (disch := omega) only [Nat.zero_add, qa, qb, qbb, qc, qd, qe, qf, qg, Option.bind_some, reduceIte, or_false, false_or, or_self, or_true, true_or, and_true, true_and, and_false, false_and, not_true_eq_false, not_false_eq_true, c0, e0, c1, e1, c2, e2, c3, e3, E1, o2, Bool.false_eq_true]
            · have E2' := E2 row
              unfold fX8_readsClause fX8_readsClause_94
              simp (disch := omega) only [Nat.zero_add, qa, qb, qbb, qc, qd, qe, qf, qg, Option.bind_some, reduceIte, or_false, false_or, or_self, or_true, true_or, and_true, true_and, and_false, false_and, not_true_eq_false, not_false_eq_true, k8, kne, E2', o2]
            · obtain ⟨row', E3', Z', u'⟩ := E3 row nf le al ba mi s.2.1 hnf hnm hZ
              refine ⟨row', ?_, Z', u'⟩
              unfold fX8_readsClause fX8_readsClause_94
              simp (disch := omega) only [Nat.zero_add, qa, qb, qbb, qc, qd, qe, qf, qg, Option.bind_some, reduceIte, or_false, false_or, or_self, or_true, true_or, and_true, true_and, and_false, false_and, not_true_eq_false, not_false_eq_true, k8, kne, E3', o2]
