/-- the token behind a set -/
def asT (L : Nat → Nat) (z a b : Nat) : Nat × Nat := if a < z ∧ smB (L a) = true then (tkS L z b, tkE L z (tkS L z b)) else (a, b)
theorem asT_is {L : Nat → Nat} {z a b : Nat} (h : isTk L z a b) : isTk L z (asT L z a b).1 (asT L z a b).2 := by
  unfold asT
  by_cases c : a < z ∧ smB (L a) = true
  · rw [if_pos c]; exact tk_is L h.2.2.1
  · rw [if_neg c]; exact h
theorem stS_le {L : Nat → Nat} {z a b : Nat} (h : isTk L z a b) (nf : Nat) : stS L z nf a b ≤ 2 ^ nf := by
  obtain ⟨t1, t2, t3, t4, t5⟩ := h
  unfold stS
  by_cases c : a < z ∧ smB (L a) = true
  · rw [if_pos c]
    exact fsS_le L nf (b - a) a 96 0 (fun j h1 h2 => (smB_i (t5 c.1 c.2 j h1 (by omega))).1) (Nat.pow_pos (by decide))
  · rw [if_neg c]
    exact Nat.pow_pos (by decide)
theorem pu_set7 {n : Nat} (hn : 400 ≤ n) {z a b nf : Nat} {L : Nat → Nat} {lt te : Nat → Int32} (h : relL z L lt te) (hT : isTk L z a b) (hnf : nf ≤ 12) :
    (stS L z nf a b = 0 → fX6_stepOverSet n (nI z) lt (nI nf) (nI a) (nI b) = some (onI 0, nI a, nI b)) ∧ (stS L z nf a b ≠ 0 → fX6_stepOverSet n (nI z) lt (nI nf) (nI a) (nI b) = some (nI (stS L z nf a b - 1), nI (asT L z a b).1, nI (asT L z a b).2)) := by
  rw [pu_sos hn h hT hnf]
  unfold asT
  by_cases c : a < z ∧ smB (L a) = true
  · rw [if_pos c, if_pos c]
    exact ⟨fun q => if_pos q, fun q => if_neg q⟩
  · rw [if_neg c, if_neg c]
    refine ⟨fun q => ?_, fun _ => rfl⟩
    unfold stS at q
    rw [if_neg c] at q
    exact absurd q (by decide)
theorem pu_set8 {n : Nat} (hn : 400 ≤ n) {z a b nf : Nat} {L : Nat → Nat} {lt te : Nat → Int32} (h : relL z L lt te) (hT : isTk L z a b) (hnf : nf ≤ 12) :
    (stS L z nf a b = 0 → fX8_facts n (nI z) te (nI nf) (nI a) (nI b) = some (onI 0, nI a, nI b)) ∧ (stS L z nf a b ≠ 0 → fX8_facts n (nI z) te (nI nf) (nI a) (nI b) = some (nI (stS L z nf a b - 1), nI (asT L z a b).1, nI (asT L z a b).2)) := by
  rw [pu_fa8 hn h hT hnf]
  unfold asT
  by_cases c : a < z ∧ smB (L a) = true
  · rw [if_pos c, if_pos c]
    exact ⟨fun q => if_pos q, fun q => if_neg q⟩
  · rw [if_neg c, if_neg c]
    refine ⟨fun q => ?_, fun _ => rfl⟩
    unfold stS at q
    rw [if_neg c] at q
    exact absurd q (by decide)
/-- the reference's told room, as its row has it -/
def relZ (nf nm nl : Nat) (le al kd : Nat → Nat) (row : Nat → Int32) (ba mi : Nat) (s : rmS) : Prop :=
  (row 71 = nI nf ∧ ∀ g, g < nf → row (72 + g) = nI (le g) ∧ row (84 + g) = nI (al g)) ∧
  (row 64 = nI nm ∧ row 65 = nI nl ∧ (∀ l, l < nl → kd l < 5 ∧ row (66 + l) = nI (kd l)) ∧ (∀ l, l < nl → row (57 + l) = nI (s.1 l)) ∧ (∀ m, m < nm → row (48 + m) = nI (s.2.1 m)) ∧ ∀ l, l < nl → row (52 + l) = onI (s.2.2 l)) ∧
  (row 62 = nI ba ∧ row 63 = nI mi) ∧ ∀ l, l < 5 → row (57 + l) = nI 0
theorem relZ_eq (nf nm nl : Nat) (le al kd : Nat → Nat) (row : Nat → Int32) (ba mi : Nat) (s : rmS) : relZ nf nm nl le al kd row ba mi s ↔ (relY 48 nf nm nl le al kd row ba mi s ∧ ∀ l, l < 5 → row (57 + l) = nI 0) := by
  unfold relY fcts relM relZ
  simp only [Nat.reduceAdd, and_assoc]
def out48 (row row' : Nat → Int32) : Prop := ∀ j, j < 48 ∨ 96 ≤ j → row' j = row j
/-- the clause fact -/
theorem cl_fact {n : Nat} (hn : 400 ≤ n) {z a b nf : Nat} {L le al : Nat → Nat} {lt te fle fal flo : Nat → Int32} (h : relL z L lt te) (hT : isTk L z a b) (o : okF nf le al) (hC : relFC nf le al fle fal flo) :
    ∃ (ok a' b' nf' : Nat) (le' al' : Nat → Nat) (fle' fal' flo' : Nat → Int32), ok < 2 ∧ nf ≤ nf' ∧ okF nf' le' al' ∧ relFC nf' le' al' fle' fal' flo' ∧ isTk L z a' b' ∧
      fX6_takeFact n (nI z) lt (nI a) (nI b) fle fal flo (nI nf) = some (nI ok, nI a', nI b', fle', fal', flo', nI nf') ∧
      (∀ row, fX8_readsFact n (nI z) te (nI 0) (nI a) (nI b) row (nI nf) = some (nI ok, nI a', nI b', row, nI nf')) ∧
      ∀ row nm nl kd ba mi s, nm ≤ 4 → nl ≤ 5 → relZ nf nm nl le al kd row ba mi s → ∃ row', fX8_readsFact n (nI z) te (nI 1) (nI a) (nI b) row (nI nf) = some (nI ok, nI a', nI b', row', nI nf') ∧ relZ nf' nm nl le' al' kd row' ba mi s ∧ out48 row row' := by
  have hnf := o.1
  by_cases c : nf = 12
  · subst c
    refine ⟨0, a, b, 12, le, al, fle, fal, flo, by omega, by omega, o, hC, hT, ?_, fun row => ?_, fun row nm nl kd ba mi s _ _ hZ => ⟨row, ?_, hZ, fun _ _ => rfl⟩⟩
    · unfold fX6_takeFact
      simp (disch := omega) only [Nat.zero_add, qa, qb, qbb, qc, qd, qe, qf, qg, Option.bind_some, reduceIte, or_false, false_or, or_self, or_true, true_or, and_true, true_and, and_false, false_and, not_true_eq_false, not_false_eq_true]
    · unfold fX8_readsFact
      simp (disch := omega) only [Nat.zero_add, qa, qb, qbb, qc, qd, qe, qf, qg, Option.bind_some, reduceIte, or_false, false_or, or_self, or_true, true_or, and_true, true_and, and_false, false_and, not_true_eq_false, not_false_eq_true]
    · unfold fX8_readsFact
      simp (disch := omega) only [Nat.zero_add, qa, qb, qbb, qc, qd, qe, qf, qg, Option.bind_some, reduceIte, or_false, false_or, or_self, or_true, true_or, and_true, true_and, and_false, false_and, not_true_eq_false, not_false_eq_true]
  · have hb := hT.2.2.1
    have E1 := pu_step7 hn h hb (nI a)
    have E2 := pu_step8 hn h hb (nI a)
    have T1 := tk_is L hb
    generalize tkS L z b = a1 at E1 E2 T1
    generalize tkE L z a1 = b1 at E1 E2 T1
    obtain ⟨S0, S1⟩ := pu_set7 hn h T1 hnf
    obtain ⟨Q0, Q1⟩ := pu_set8 hn h T1 hnf
    have hle := stS_le T1 nf
    have T2 := asT_is T1
    by_cases d : stS L z nf a1 b1 = 0
    · have S := S0 d
      have Q := Q0 d
      refine ⟨0, a1, b1, nf, le, al, fle, fal, flo, by omega, by omega, o, hC, T1, ?_, fun row => ?_, fun row nm nl kd ba mi s _ _ hZ => ⟨row, ?_, hZ, fun _ _ => rfl⟩⟩
      · unfold fX6_takeFact
        simp (disch := omega) only [Nat.zero_add, qa, qb, qbb, qc, qd, qe, qf, qg, Option.bind_some, reduceIte, or_false, false_or, or_self, or_true, true_or, and_true, true_and, and_false, false_and, not_true_eq_false, not_false_eq_true, E1, S]
      · unfold fX8_readsFact
        simp (disch := omega) only [Nat.zero_add, qa, qb, qbb, qc, qd, qe, qf, qg, Option.bind_some, reduceIte, or_false, false_or, or_self, or_true, true_or, and_true, true_and, and_false, false_and, not_true_eq_false, not_false_eq_true, E2, Q]
      · unfold fX8_readsFact
        simp (disch := omega) only [Nat.zero_add, qa, qb, qbb, qc, qd, qe, qf, qg, Option.bind_some, reduceIte, or_false, false_or, or_self, or_true, true_or, and_true, true_and, and_false, false_and, not_true_eq_false, not_false_eq_true, E2, Q]
    · have S := S1 d
      have Q := Q1 d
      generalize stS L z nf a1 b1 = st at S Q hle d
      have hs : st - 1 < 2 ^ nf := by omega
      have hp : 2 ^ nf ≤ 2 ^ 12 := Nat.pow_le_pow_right (by decide) hnf
      obtain ⟨fle', fal', flo', E3, hC'⟩ := pu_add hn o (by omega) hC hs
      refine ⟨1, (asT L z a1 b1).1, (asT L z a1 b1).2, nf + 1, _, _, fle', fal', flo', by omega, by omega, okF_add o (by omega) hs, hC', T2, ?_, fun row => ?_, fun row nm nl kd ba mi s hnm hnl hZ => ?_⟩
      · unfold fX6_takeFact
        simp (disch := omega) only [Nat.zero_add, qa, qb, qbb, qc, qd, qe, qf, qg, Option.bind_some, reduceIte, or_false, false_or, or_self, or_true, true_or, and_true, true_and, and_false, false_and, not_true_eq_false, not_false_eq_true, E1, S, E3]
      · unfold fX8_readsFact fX8_readsFact_84
        simp (disch := omega) only [Nat.zero_add, qa, qb, qbb, qc, qd, qe, qf, qg, Option.bind_some, reduceIte, or_false, false_or, or_self, or_true, true_or, and_true, true_and, and_false, false_and, not_true_eq_false, not_false_eq_true, E2, Q]
      · obtain ⟨⟨y1, y2⟩, ⟨y3, y4, y5, y6, y7, y8⟩, ⟨y9, y10⟩, y11⟩ := hZ
        have A := pu_ao8 (row := upd row (72 + nf) (nI (st - 1))) hn hnf (fun g hg => by rw [upd_ne _ _ (by omega)]; exact (y2 g hg).2) (fun g hg => (o.2 g hg).2.2) hs
        refine ⟨upd (upd (upd row (72 + nf) (nI (st - 1))) (84 + nf) (nI (aoS al (st - 1) nf ||| 2 ^ nf))) 71 (nI (nf + 1)), ?_, ⟨⟨?_, fun g hg => ?_⟩, ⟨?_, ?_, fun l hl => ⟨(y5 l hl).1, ?_⟩, fun l hl => ?_, fun m hm => ?_, fun l hl => ?_⟩, ⟨?_, ?_⟩, fun l hl => ?_⟩, fun j hj => ?_⟩
        · unfold fX8_readsFact fX8_readsFact_84
          simp (disch := omega) only [Nat.zero_add, qa, qb, qbb, qc, qd, qe, qf, qg, Option.bind_some, reduceIte, or_false, false_or, or_self, or_true, true_or, and_true, true_and, and_false, false_and, not_true_eq_false, not_false_eq_true, E2, Q, A, y1]
        · exact upd_at _ _ _
        · by_cases e : g = nf
          · subst e
            simp (disch := omega) only [Nat.zero_add, qa, qb, qbb, qc, qd, qe, qf, qg, Option.bind_some, reduceIte, or_false, false_or, or_self, or_true, true_or, and_true, true_and, and_false, false_and, not_true_eq_false, not_false_eq_true, updN_at]
          · obtain ⟨z1, z2⟩ := y2 g (by omega)
            rw [updN_ne _ _ e, updN_ne _ _ e]
            simp (disch := omega) only [Nat.zero_add, qa, qb, qbb, qc, qd, qe, qf, qg, Option.bind_some, reduceIte, or_false, false_or, or_self, or_true, true_or, and_true, true_and, and_false, false_and, not_true_eq_false, not_false_eq_true, z1, z2]
        · simp (disch := omega) only [Nat.zero_add, qa, qb, qbb, qc, qd, qe, qf, qg, Option.bind_some, reduceIte, or_false, false_or, or_self, or_true, true_or, and_true, true_and, and_false, false_and, not_true_eq_false, not_false_eq_true]
          exact y3
        · simp (disch := omega) only [Nat.zero_add, qa, qb, qbb, qc, qd, qe, qf, qg, Option.bind_some, reduceIte, or_false, false_or, or_self, or_true, true_or, and_true, true_and, and_false, false_and, not_true_eq_false, not_false_eq_true]
          exact y4
        · simp (disch := omega) only [Nat.zero_add, qa, qb, qbb, qc, qd, qe, qf, qg, Option.bind_some, reduceIte, or_false, false_or, or_self, or_true, true_or, and_true, true_and, and_false, false_and, not_true_eq_false, not_false_eq_true]
          exact (y5 l hl).2
        · simp (disch := omega) only [Nat.zero_add, qa, qb, qbb, qc, qd, qe, qf, qg, Option.bind_some, reduceIte, or_false, false_or, or_self, or_true, true_or, and_true, true_and, and_false, false_and, not_true_eq_false, not_false_eq_true]
          exact y6 l hl
        · simp (disch := omega) only [Nat.zero_add, qa, qb, qbb, qc, qd, qe, qf, qg, Option.bind_some, reduceIte, or_false, false_or, or_self, or_true, true_or, and_true, true_and, and_false, false_and, not_true_eq_false, not_false_eq_true]
          exact y7 m hm
        · simp (disch := omega) only [Nat.zero_add, qa, qb, qbb, qc, qd, qe, qf, qg, Option.bind_some, reduceIte, or_false, false_or, or_self, or_true, true_or, and_true, true_and, and_false, false_and, not_true_eq_false, not_false_eq_true]
          exact y8 l hl
        · simp (disch := omega) only [Nat.zero_add, qa, qb, qbb, qc, qd, qe, qf, qg, Option.bind_some, reduceIte, or_false, false_or, or_self, or_true, true_or, and_true, true_and, and_false, false_and, not_true_eq_false, not_false_eq_true]
          exact y9
        · simp (disch := omega) only [Nat.zero_add, qa, qb, qbb, qc, qd, qe, qf, qg, Option.bind_some, reduceIte, or_false, false_or, or_self, or_true, true_or, and_true, true_and, and_false, false_and, not_true_eq_false, not_false_eq_true]
          exact y10
        · simp (disch := omega) only [Nat.zero_add, qa, qb, qbb, qc, qd, qe, qf, qg, Option.bind_some, reduceIte, or_false, false_or, or_self, or_true, true_or, and_true, true_and, and_false, false_and, not_true_eq_false, not_false_eq_true]
          exact y11 l hl
        · rw [upd_ne _ _ (by omega), upd_ne _ _ (by omega), upd_ne _ _ (by omega)]
/-- the clause member -/
theorem cl_member {n : Nat} (hn : 400 ≤ n) {z a b nf nm : Nat} {L le al K : Nat → Nat} {lt te fal kn : Nat → Int32} (h : relL z L lt te) (hT : isTk L z a b) (o : okF nf le al) (hfa : ∀ g, g < nf → fal g = nI (al g)) (hnm : nm ≤ 4) (hkn : relF nm kn K) (hK : ∀ m, m < nm → K m < 2 ^ nf) :
    ∃ (ok a' b' nm' : Nat) (K' : Nat → Nat) (kn' : Nat → Int32), ok < 2 ∧ nm ≤ nm' ∧ nm' ≤ 4 ∧ relF nm' kn' K' ∧ (∀ m, m < nm' → K' m < 2 ^ nf) ∧ isTk L z a' b' ∧
      fX6_takeMember n (nI z) lt (nI nf) fal (nI a) (nI b) kn (nI nm) = some (nI ok, nI a', nI b', kn', nI nm') ∧
      (∀ row, fX8_readsMember n (nI z) te (nI nf) (nI 0) (nI a) (nI b) row (nI nm) = some (nI ok, nI a', nI b', row, nI nm')) ∧
      ∀ row nl kd ba mi H O, nl ≤ 5 → relZ nf nm nl le al kd row ba mi (H, K, O) → ∃ row', fX8_readsMember n (nI z) te (nI nf) (nI 1) (nI a) (nI b) row (nI nm) = some (nI ok, nI a', nI b', row', nI nm') ∧ relZ nf nm' nl le al kd row' ba mi (H, K', O) ∧ out48 row row' := by
  have hnf := o.1
  by_cases c : nm = 4
  · subst c
    refine ⟨0, a, b, 4, K, kn, by omega, by omega, by omega, hkn, hK, hT, ?_, fun row => ?_, fun row nl kd ba mi H O _ hZ => ⟨row, ?_, hZ, fun _ _ => rfl⟩⟩
    · unfold fX6_takeMember
      simp (disch := omega) only [Nat.zero_add, qa, qb, qbb, qc, qd, qe, qf, qg, Option.bind_some, reduceIte, or_false, false_or, or_self, or_true, true_or, and_true, true_and, and_false, false_and, not_true_eq_false, not_false_eq_true]
    · unfold fX8_readsMember
      simp (disch := omega) only [Nat.zero_add, qa, qb, qbb, qc, qd, qe, qf, qg, Option.bind_some, reduceIte, or_false, false_or, or_self, or_true, true_or, and_true, true_and, and_false, false_and, not_true_eq_false, not_false_eq_true]
    · unfold fX8_readsMember
      simp (disch := omega) only [Nat.zero_add, qa, qb, qbb, qc, qd, qe, qf, qg, Option.bind_some, reduceIte, or_false, false_or, or_self, or_true, true_or, and_true, true_and, and_false, false_and, not_true_eq_false, not_false_eq_true]
  · have hb := hT.2.2.1
    have E1 := pu_step7 hn h hb (nI a)
    have E2 := pu_step8 hn h hb (nI a)
    have T1 := tk_is L hb
    generalize tkS L z b = a1 at E1 E2 T1
    generalize tkE L z a1 = b1 at E1 E2 T1
    obtain ⟨S0, S1⟩ := pu_set7 hn h T1 hnf
    obtain ⟨Q0, Q1⟩ := pu_set8 hn h T1 hnf
    have hle := stS_le T1 nf
    have T2 := asT_is T1
    by_cases d : stS L z nf a1 b1 = 0
    · have S := S0 d
      have Q := Q0 d
      refine ⟨0, a1, b1, nm, K, kn, by omega, by omega, hnm, hkn, hK, T1, ?_, fun row => ?_, fun row nl kd ba mi H O _ hZ => ⟨row, ?_, hZ, fun _ _ => rfl⟩⟩
      · unfold fX6_takeMember
        simp (disch := omega) only [Nat.zero_add, qa, qb, qbb, qc, qd, qe, qf, qg, Option.bind_some, reduceIte, or_false, false_or, or_self, or_true, true_or, and_true, true_and, and_false, false_and, not_true_eq_false, not_false_eq_true, E1, S]
      · unfold fX8_readsMember
        simp (disch := omega) only [Nat.zero_add, qa, qb, qbb, qc, qd, qe, qf, qg, Option.bind_some, reduceIte, or_false, false_or, or_self, or_true, true_or, and_true, true_and, and_false, false_and, not_true_eq_false, not_false_eq_true, E2, Q]
      · unfold fX8_readsMember
        simp (disch := omega) only [Nat.zero_add, qa, qb, qbb, qc, qd, qe, qf, qg, Option.bind_some, reduceIte, or_false, false_or, or_self, or_true, true_or, and_true, true_and, and_false, false_and, not_true_eq_false, not_false_eq_true, E2, Q]
    · have S := S1 d
      have Q := Q1 d
      generalize stS L z nf a1 b1 = st at S Q hle d
      have hs : st - 1 < 2 ^ nf := by omega
      have hp : 2 ^ nf ≤ 2 ^ 12 := Nat.pow_le_pow_right (by decide) hnf
      have hs4 := lt4096 hnf hs
      have ha := aoS_lt (al := al) (fun g hg => al_lt o hg) (st - 1) nf (Nat.le_refl _)
      have A7 := pu_ao7 hn hnf hfa hs4
      refine ⟨1, (asT L z a1 b1).1, (asT L z a1 b1).2, nm + 1, updN K nm (aoS al (st - 1) nf), upd kn nm (nI (aoS al (st - 1) nf)), by omega, by omega, by omega, fun m hm => ?_, fun m hm => ?_, T2, ?_, fun row => ?_, fun row nl kd ba mi H O hnl hZ => ?_⟩
      · by_cases e : m = nm
        · rw [e, upd_at, updN_at]
        · rw [upd_ne _ _ e, updN_ne _ _ e]; exact hkn m (by omega)
      · by_cases e : m = nm
        · rw [e, updN_at]; exact ha
        · rw [updN_ne _ _ e]; exact hK m (by omega)
      · unfold fX6_takeMember fX3_addMember fX3_addMember_28
        simp (disch := omega) only [Nat.zero_add, qa, qb, qbb, qc, qd, qe, qf, qg, Option.bind_some, reduceIte, or_false, false_or, or_self, or_true, true_or, and_true, true_and, and_false, false_and, not_true_eq_false, not_false_eq_true, E1, S, A7]
      · unfold fX8_readsMember fX8_readsMember_63
        simp (disch := omega) only [Nat.zero_add, qa, qb, qbb, qc, qd, qe, qf, qg, Option.bind_some, reduceIte, or_false, false_or, or_self, or_true, true_or, and_true, true_and, and_false, false_and, not_true_eq_false, not_false_eq_true, E2, Q]
      · obtain ⟨⟨y1, y2⟩, ⟨y3, y4, y5, y6, y7, y8⟩, ⟨y9, y10⟩, y11⟩ := hZ
        have A := pu_ao8 (row := row) hn hnf (fun g hg => (y2 g hg).2) (fun g hg => (o.2 g hg).2.2) hs
        refine ⟨upd (upd row (48 + nm) (nI (aoS al (st - 1) nf))) 64 (nI (nm + 1)), ?_, ⟨⟨?_, fun g hg => ?_⟩, ⟨?_, ?_, fun l hl => ⟨(y5 l hl).1, ?_⟩, fun l hl => ?_, fun m hm => ?_, fun l hl => ?_⟩, ⟨?_, ?_⟩, fun l hl => ?_⟩, fun j hj => ?_⟩
        · unfold fX8_readsMember fX8_readsMember_63
          simp (disch := omega) only [Nat.zero_add, qa, qb, qbb, qc, qd, qe, qf, qg, Option.bind_some, reduceIte, or_false, false_or, or_self, or_true, true_or, and_true, true_and, and_false, false_and, not_true_eq_false, not_false_eq_true, E2, Q, A, y3]
        · simp (disch := omega) only [Nat.zero_add, qa, qb, qbb, qc, qd, qe, qf, qg, Option.bind_some, reduceIte, or_false, false_or, or_self, or_true, true_or, and_true, true_and, and_false, false_and, not_true_eq_false, not_false_eq_true]
          exact y1
        · obtain ⟨z1, z2⟩ := y2 g (by omega)
          simp (disch := omega) only [Nat.zero_add, qa, qb, qbb, qc, qd, qe, qf, qg, Option.bind_some, reduceIte, or_false, false_or, or_self, or_true, true_or, and_true, true_and, and_false, false_and, not_true_eq_false, not_false_eq_true, z1, z2]
        · exact upd_at _ _ _
        · simp (disch := omega) only [Nat.zero_add, qa, qb, qbb, qc, qd, qe, qf, qg, Option.bind_some, reduceIte, or_false, false_or, or_self, or_true, true_or, and_true, true_and, and_false, false_and, not_true_eq_false, not_false_eq_true]
          exact y4
        · simp (disch := omega) only [Nat.zero_add, qa, qb, qbb, qc, qd, qe, qf, qg, Option.bind_some, reduceIte, or_false, false_or, or_self, or_true, true_or, and_true, true_and, and_false, false_and, not_true_eq_false, not_false_eq_true]
          exact (y5 l hl).2
        · simp (disch := omega) only [Nat.zero_add, qa, qb, qbb, qc, qd, qe, qf, qg, Option.bind_some, reduceIte, or_false, false_or, or_self, or_true, true_or, and_true, true_and, and_false, false_and, not_true_eq_false, not_false_eq_true]
          exact y6 l hl
        · show _ = nI (updN K nm (aoS al (st - 1) nf) m)
          by_cases e : m = nm
          · subst e
            simp (disch := omega) only [Nat.zero_add, qa, qb, qbb, qc, qd, qe, qf, qg, Option.bind_some, reduceIte, or_false, false_or, or_self, or_true, true_or, and_true, true_and, and_false, false_and, not_true_eq_false, not_false_eq_true, updN_at]
          · have := y7 m (by omega)
            rw [updN_ne _ _ e]
            simp (disch := omega) only [Nat.zero_add, qa, qb, qbb, qc, qd, qe, qf, qg, Option.bind_some, reduceIte, or_false, false_or, or_self, or_true, true_or, and_true, true_and, and_false, false_and, not_true_eq_false, not_false_eq_true]
            exact this
        · simp (disch := omega) only [Nat.zero_add, qa, qb, qbb, qc, qd, qe, qf, qg, Option.bind_some, reduceIte, or_false, false_or, or_self, or_true, true_or, and_true, true_and, and_false, false_and, not_true_eq_false, not_false_eq_true]
          exact y8 l hl
        · simp (disch := omega) only [Nat.zero_add, qa, qb, qbb, qc, qd, qe, qf, qg, Option.bind_some, reduceIte, or_false, false_or, or_self, or_true, true_or, and_true, true_and, and_false, false_and, not_true_eq_false, not_false_eq_true]
          exact y9
        · simp (disch := omega) only [Nat.zero_add, qa, qb, qbb, qc, qd, qe, qf, qg, Option.bind_some, reduceIte, or_false, false_or, or_self, or_true, true_or, and_true, true_and, and_false, false_and, not_true_eq_false, not_false_eq_true]
          exact y10
        · simp (disch := omega) only [Nat.zero_add, qa, qb, qbb, qc, qd, qe, qf, qg, Option.bind_some, reduceIte, or_false, false_or, or_self, or_true, true_or, and_true, true_and, and_false, false_and, not_true_eq_false, not_false_eq_true]
          exact y11 l hl
        · rw [upd_ne _ _ (by omega), upd_ne _ _ (by omega)]
