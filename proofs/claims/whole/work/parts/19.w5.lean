/-- the clause of a leech -/
theorem cl_leech {n : Nat} (hn : 400 ≤ n) {z a b nl : Nat} {L kd H O : Nat → Nat} {lt te ki on ha : Nat → Int32} (h : relL z L lt te) (hT : isTk L z a b) (hnl : nl ≤ 5) (hk0 : kdW L a b ≠ 0)
    (hki : ∀ l, l < nl → kd l < 5 ∧ ki l = nI (kd l)) (hha : relF nl ha H) (hon : relO nl on O) (hH : ∀ l, l < nl → H l < 4096) {nm : Nat} (hO : ∀ l, l < nl → O l ≤ nm) :
    ∃ (ok a' b' nl' : Nat) (kd' H' O' : Nat → Nat) (ki' on' ha' : Nat → Int32), ok < 2 ∧ nl ≤ nl' ∧ nl' ≤ 5 ∧ (∀ l, l < nl' → kd' l < 5 ∧ ki' l = nI (kd' l)) ∧ relF nl' ha' H' ∧ relO nl' on' O' ∧ (∀ l, l < nl' → H' l < 4096) ∧ (∀ l, l < nl' → O' l ≤ nm) ∧ isTk L z a' b' ∧
      fX6_takeLeech n lt (nI z) ki on ha (nI nl) (nI a) (nI b) = some (nI ok, ki', on', ha', nI nl', nI a', nI b') ∧
      (∀ row, fX8_readsLeech n (nI z) te (nI 0) (nI a) (nI b) row (nI nl) (onI (kdW L a b)) = some (nI ok, nI a', nI b', row, nI nl')) ∧
      ∀ row nf le al ba mi K, nf ≤ 12 → nm ≤ 4 → relZ nf nm nl le al kd row ba mi (H, K, O) → ∃ row', fX8_readsLeech n (nI z) te (nI 1) (nI a) (nI b) row (nI nl) (onI (kdW L a b)) = some (nI ok, nI a', nI b', row', nI nl') ∧ relZ nf nm nl' le al kd' row' ba mi (H', K, O') ∧ out48 row row' := by
  have hk := pu_kindOfWord hn h hT.2.2.1 hT.2.1
  have hk5 := (kdW_i L a b).1
  generalize kdW L a b = k at hk0 hk hk5
  rw [onI_ne0 hk0] at hk ⊢
  by_cases c : nl = 5
  · subst c
    refine ⟨0, a, b, 5, kd, H, O, ki, on, ha, by omega, by omega, by omega, hki, hha, hon, hH, hO, hT, ?_, fun row => ?_, fun row nf le al ba mi K _ _ hZ => ⟨row, ?_, hZ, fun _ _ => rfl⟩⟩
    · unfold fX6_takeLeech fX6_takeLeech_21
      simp (disch := omega) only [Nat.zero_add, qa, qb, qbb, qc, qd, qe, qf, qg, Option.bind_some, reduceIte, or_false, false_or, or_self, or_true, true_or, and_true, true_and, and_false, false_and, not_true_eq_false, not_false_eq_true, hk]
    · unfold fX8_readsLeech
      simp (disch := omega) only [Nat.zero_add, qa, qb, qbb, qc, qd, qe, qf, qg, Option.bind_some, reduceIte, or_false, false_or, or_self, or_true, true_or, and_true, true_and, and_false, false_and, not_true_eq_false, not_false_eq_true]
    · unfold fX8_readsLeech
      simp (disch := omega) only [Nat.zero_add, qa, qb, qbb, qc, qd, qe, qf, qg, Option.bind_some, reduceIte, or_false, false_or, or_self, or_true, true_or, and_true, true_and, and_false, false_and, not_true_eq_false, not_false_eq_true]
  · have hb := hT.2.2.1
    have E1 := pu_step7 hn h hb (nI a)
    have E2 := pu_step8 hn h hb (nI a)
    have T1 := tk_is L hb
    generalize tkS L z b = a1 at E1 E2 T1
    generalize tkE L z a1 = b1 at E1 E2 T1
    refine ⟨1, a1, b1, nl + 1, updN kd nl (k - 1), updN H nl 0, updN O nl 0, upd ki nl (nI (k - 1)), upd on nl (onI 0), upd ha nl (nI 0), by omega, by omega, by omega, fun l hl => ?_, fun l hl => ?_, fun l hl => ?_, fun l hl => ?_, fun l hl => ?_, T1, ?_, fun row => ?_, fun row nf le al ba mi K hnf hnm hZ => ?_⟩
    · by_cases e : l = nl
      · rw [e, upd_at, updN_at]; exact ⟨by omega, rfl⟩
      · rw [upd_ne _ _ e, updN_ne _ _ e]; exact hki l (by omega)
    · by_cases e : l = nl
      · rw [e, upd_at, updN_at]
      · rw [upd_ne _ _ e, updN_ne _ _ e]; exact hha l (by omega)
    · by_cases e : l = nl
      · rw [e, upd_at, updN_at]
      · rw [upd_ne _ _ e, updN_ne _ _ e]; exact hon l (by omega)
    · by_cases e : l = nl
      · rw [e, updN_at]; omega
      · rw [updN_ne _ _ e]; exact hH l (by omega)
    · by_cases e : l = nl
      · rw [e, updN_at]; omega
      · rw [updN_ne _ _ e]; exact hO l (by omega)
    · unfold fX6_takeLeech fX3_addLeech fX3_addLeech_48
      simp (disch := omega) only [Nat.zero_add, qa, qb, qbb, qc, qd, qe, qf, qg, Option.bind_some, reduceIte, or_false, false_or, or_self, or_true, true_or, and_true, true_and, and_false, false_and, not_true_eq_false, not_false_eq_true, hk, E1]
    · unfold fX8_readsLeech fX8_readsLeech_58
      simp (disch := omega) only [Nat.zero_add, qa, qb, qbb, qc, qd, qe, qf, qg, Option.bind_some, reduceIte, or_false, false_or, or_self, or_true, true_or, and_true, true_and, and_false, false_and, not_true_eq_false, not_false_eq_true, E2]
    · obtain ⟨⟨y1, y2⟩, ⟨y3, y4, y5, y6, y7, y8⟩, ⟨y9, y10⟩, y11⟩ := hZ
      refine ⟨upd (upd (upd row (66 + nl) (nI (k - 1))) (52 + nl) (onI 0)) 65 (nI (nl + 1)), ?_, ⟨⟨?_, fun g hg => ?_⟩, ⟨?_, ?_, fun l hl => ?_, fun l hl => ?_, fun m hm => ?_, fun l hl => ?_⟩, ⟨?_, ?_⟩, fun l hl => ?_⟩, fun j hj => ?_⟩
      · unfold fX8_readsLeech fX8_readsLeech_58
        simp (disch := omega) only [Nat.zero_add, qa, qb, qbb, qc, qd, qe, qf, qg, Option.bind_some, reduceIte, or_false, false_or, or_self, or_true, true_or, and_true, true_and, and_false, false_and, not_true_eq_false, not_false_eq_true, E2, y4]
      · simp (disch := omega) only [Nat.zero_add, qa, qb, qbb, qc, qd, qe, qf, qg, Option.bind_some, reduceIte, or_false, false_or, or_self, or_true, true_or, and_true, true_and, and_false, false_and, not_true_eq_false, not_false_eq_true]
        exact y1
      · obtain ⟨z1, z2⟩ := y2 g (by omega)
        simp (disch := omega) only [Nat.zero_add, qa, qb, qbb, qc, qd, qe, qf, qg, Option.bind_some, reduceIte, or_false, false_or, or_self, or_true, true_or, and_true, true_and, and_false, false_and, not_true_eq_false, not_false_eq_true, z1, z2]
      · simp (disch := omega) only [Nat.zero_add, qa, qb, qbb, qc, qd, qe, qf, qg, Option.bind_some, reduceIte, or_false, false_or, or_self, or_true, true_or, and_true, true_and, and_false, false_and, not_true_eq_false, not_false_eq_true]
        exact y3
      · exact upd_at _ _ _
      · by_cases e : l = nl
        · subst e
          rw [updN_at]
          refine ⟨by omega, ?_⟩
          simp (disch := omega) only [Nat.zero_add, qa, qb, qbb, qc, qd, qe, qf, qg, Option.bind_some, reduceIte, or_false, false_or, or_self, or_true, true_or, and_true, true_and, and_false, false_and, not_true_eq_false, not_false_eq_true]
        · rw [updN_ne _ _ e]
          refine ⟨(y5 l (by omega)).1, ?_⟩
          simp (disch := omega) only [Nat.zero_add, qa, qb, qbb, qc, qd, qe, qf, qg, Option.bind_some, reduceIte, or_false, false_or, or_self, or_true, true_or, and_true, true_and, and_false, false_and, not_true_eq_false, not_false_eq_true]
          exact (y5 l (by omega)).2
      · show _ = nI (updN H nl 0 l)
        by_cases e : l = nl
        · subst e
          have := y11 l (by omega)
          simp (disch := omega) only [Nat.zero_add, qa, qb, qbb, qc, qd, qe, qf, qg, Option.bind_some, reduceIte, or_false, false_or, or_self, or_true, true_or, and_true, true_and, and_false, false_and, not_true_eq_false, not_false_eq_true, updN_at]
          exact this
        · rw [updN_ne _ _ e]
          simp (disch := omega) only [Nat.zero_add, qa, qb, qbb, qc, qd, qe, qf, qg, Option.bind_some, reduceIte, or_false, false_or, or_self, or_true, true_or, and_true, true_and, and_false, false_and, not_true_eq_false, not_false_eq_true]
          exact y6 l (by omega)
      · simp (disch := omega) only [Nat.zero_add, qa, qb, qbb, qc, qd, qe, qf, qg, Option.bind_some, reduceIte, or_false, false_or, or_self, or_true, true_or, and_true, true_and, and_false, false_and, not_true_eq_false, not_false_eq_true]
        exact y7 m hm
      · show _ = onI (updN O nl 0 l)
        by_cases e : l = nl
        · subst e
          simp (disch := omega) only [Nat.zero_add, qa, qb, qbb, qc, qd, qe, qf, qg, Option.bind_some, reduceIte, or_false, false_or, or_self, or_true, true_or, and_true, true_and, and_false, false_and, not_true_eq_false, not_false_eq_true, updN_at]
        · rw [updN_ne _ _ e]
          simp (disch := omega) only [Nat.zero_add, qa, qb, qbb, qc, qd, qe, qf, qg, Option.bind_some, reduceIte, or_false, false_or, or_self, or_true, true_or, and_true, true_and, and_false, false_and, not_true_eq_false, not_false_eq_true]
          exact y8 l (by omega)
      · simp (disch := omega) only [Nat.zero_add, qa, qb, qbb, qc, qd, qe, qf, qg, Option.bind_some, reduceIte, or_false, false_or, or_self, or_true, true_or, and_true, true_and, and_false, false_and, not_true_eq_false, not_false_eq_true]
        exact y9
      · simp (disch := omega) only [Nat.zero_add, qa, qb, qbb, qc, qd, qe, qf, qg, Option.bind_some, reduceIte, or_false, false_or, or_self, or_true, true_or, and_true, true_and, and_false, false_and, not_true_eq_false, not_false_eq_true]
        exact y10
      · simp (disch := omega) only [Nat.zero_add, qa, qb, qbb, qc, qd, qe, qf, qg, Option.bind_some, reduceIte, or_false, false_or, or_self, or_true, true_or, and_true, true_and, and_false, false_and, not_true_eq_false, not_false_eq_true]
        exact y11 l hl
      · rw [upd_ne _ _ (by omega), upd_ne _ _ (by omega), upd_ne _ _ (by omega)]
/-- the clause on -/
theorem cl_on {n : Nat} (hn : 400 ≤ n) {z a b nl nm : Nat} {L O : Nat → Nat} {lt te on : Nat → Int32} (h : relL z L lt te) (hT : isTk L z a b) (hnl : nl ≤ 5) (hnm : nm ≤ 4) (hon : relO nl on O) (hO : ∀ l, l < nl → O l ≤ nm) :
    ∃ (ok a' b' : Nat) (O' : Nat → Nat) (on' : Nat → Int32), ok < 2 ∧ relO nl on' O' ∧ (∀ l, l < nl → O' l ≤ nm) ∧ isTk L z a' b' ∧
      fX6_takeOn n (nI z) lt (nI nl) (nI nm) (nI a) (nI b) on = some (nI ok, nI a', nI b', on') ∧
      (∀ row, fX8_readsOn n (nI z) te (nI nl) (nI nm) (nI 0) (nI a) (nI b) row = some (nI ok, nI a', nI b', row)) ∧
      ∀ row nf le al kd ba mi H K, nf ≤ 12 → relZ nf nm nl le al kd row ba mi (H, K, O) → ∃ row', fX8_readsOn n (nI z) te (nI nl) (nI nm) (nI 1) (nI a) (nI b) row = some (nI ok, nI a', nI b', row') ∧ relZ nf nm nl le al kd row' ba mi (H, K, O') ∧ out48 row row' := by
  have hb := hT.2.2.1
  have E1 := pu_step7 hn h hb (nI a)
  have E2 := pu_step8 hn h hb (nI a)
  have T1 := tk_is L hb
  generalize tkS L z b = a1 at E1 E2 T1
  generalize tkE L z a1 = b1 at E1 E2 T1
  have N7 := pu_nb7 n h T1 hnl
  have N8 := pu_nb8 hn h T1 hnl
  have l1 := nbS_le L z nl a1 b1
  generalize nbS L z nl a1 b1 = x at N7 N8 l1
  by_cases c : x = 0
  · subst c
    rw [if_pos rfl] at N8
    refine ⟨0, a1, b1, O, on, by omega, hon, hO, T1, ?_, fun row => ?_, fun row nf le al kd ba mi H K _ hZ => ⟨row, ?_, hZ, fun _ _ => rfl⟩⟩
    · unfold fX6_takeOn
      simp (disch := omega) only [Nat.zero_add, qa, qb, qbb, qc, qd, qe, qf, qg, Option.bind_some, reduceIte, or_false, false_or, or_self, or_true, true_or, and_true, true_and, and_false, false_and, not_true_eq_false, not_false_eq_true, E1, N7]
    · unfold fX8_readsOn fX8_readsOn_30
      simp (disch := omega) only [Nat.zero_add, qa, qb, qbb, qc, qd, qe, qf, qg, Option.bind_some, reduceIte, or_false, false_or, or_self, or_true, true_or, and_true, true_and, and_false, false_and, not_true_eq_false, not_false_eq_true, E2, N8]
    · unfold fX8_readsOn fX8_readsOn_30
      simp (disch := omega) only [Nat.zero_add, qa, qb, qbb, qc, qd, qe, qf, qg, Option.bind_some, reduceIte, or_false, false_or, or_self, or_true, true_or, and_true, true_and, and_false, false_and, not_true_eq_false, not_false_eq_true, E2, N8]
  · rw [if_neg c] at N8
    rw [onI_ne0 c] at N7
    have hb1 := T1.2.2.1
    have E3 := pu_step7 hn h hb1 (nI a1)
    have T2 := tk_is L hb1
    generalize tkS L z b1 = a2 at E3 N8 T2
    generalize tkE L z a2 = b2 at E3 N8 T2
    have M7 := pu_nb7 n h T2 (show nm ≤ 5 by omega)
    have M8 := pu_nb8 hn h T2 (show nm ≤ 5 by omega)
    have l2 := nbS_le L z nm a2 b2
    generalize nbS L z nm a2 b2 = y at M7 M8 l2
    by_cases d : y = 0
    · subst d
      rw [if_pos rfl] at M8
      refine ⟨0, a2, b2, O, on, by omega, hon, hO, T2, ?_, fun row => ?_, fun row nf le al kd ba mi H K _ hZ => ⟨row, ?_, hZ, fun _ _ => rfl⟩⟩
      · unfold fX6_takeOn
        simp (disch := omega) only [Nat.zero_add, qa, qb, qbb, qc, qd, qe, qf, qg, Option.bind_some, reduceIte, or_false, false_or, or_self, or_true, true_or, and_true, true_and, and_false, false_and, not_true_eq_false, not_false_eq_true, E1, N7, E3, M7]
      · unfold fX8_readsOn fX8_readsOn_30
        simp (disch := omega) only [Nat.zero_add, qa, qb, qbb, qc, qd, qe, qf, qg, Option.bind_some, reduceIte, or_false, false_or, or_self, or_true, true_or, and_true, true_and, and_false, false_and, not_true_eq_false, not_false_eq_true, E2, N8, M8]
      · unfold fX8_readsOn fX8_readsOn_30
        simp (disch := omega) only [Nat.zero_add, qa, qb, qbb, qc, qd, qe, qf, qg, Option.bind_some, reduceIte, or_false, false_or, or_self, or_true, true_or, and_true, true_and, and_false, false_and, not_true_eq_false, not_false_eq_true, E2, N8, M8]
    · rw [if_neg d] at M8
      have dy := onI_ne0 d
      rw [dy] at M7
      have hb2 := T2.2.2.1
      have E4 := pu_step7 hn h hb2 (nI a2)
      have T3 := tk_is L hb2
      generalize tkS L z b2 = a3 at E4 M8 T3
      generalize tkE L z a3 = b3 at E4 M8 T3
      refine ⟨1, a3, b3, updN O (x - 1) y, upd on (x - 1) (onI y), by omega, relO_upd hon _ _, fun l hl => ?_, T3, ?_, fun row => ?_, fun row nf le al kd ba mi H K hnf hZ => ?_⟩
      · by_cases e : l = x - 1
        · rw [e, updN_at]; exact l2
        · rw [updN_ne _ _ e]; exact hO l hl
      · unfold fX6_takeOn
        simp (disch := omega) only [Nat.zero_add, qa, qb, qbb, qc, qd, qe, qf, qg, Option.bind_some, reduceIte, or_false, false_or, or_self, or_true, true_or, and_true, true_and, and_false, false_and, not_true_eq_false, not_false_eq_true, E1, N7, E3, M7, E4, dy]
      · have us : ∀ i, upd row i (row i) = row := fun i => upd_self rfl
        unfold fX8_readsOn fX8_readsOn_30 fX8_readsOn_66
        simp (disch := omega) only [Nat.zero_add, qa, qb, qbb, qc, qd, qe, qf, qg, Option.bind_some, reduceIte, or_false, false_or, or_self, or_true, true_or, and_true, true_and, and_false, false_and, not_true_eq_false, not_false_eq_true, E2, N8, M8, us]
      · obtain ⟨⟨y1, y2⟩, ⟨y3, y4, y5, y6, y7, y8⟩, ⟨y9, y10⟩, y11⟩ := hZ
        refine ⟨upd row (52 + (x - 1)) (onI y), ?_, ⟨⟨?_, fun g hg => ?_⟩, ⟨?_, ?_, fun l hl => ⟨(y5 l hl).1, ?_⟩, fun l hl => ?_, fun m hm => ?_, fun l hl => ?_⟩, ⟨?_, ?_⟩, fun l hl => ?_⟩, fun j hj => ?_⟩
        · unfold fX8_readsOn fX8_readsOn_30 fX8_readsOn_66
          simp (disch := omega) only [Nat.zero_add, qa, qb, qbb, qc, qd, qe, qf, qg, Option.bind_some, reduceIte, or_false, false_or, or_self, or_true, true_or, and_true, true_and, and_false, false_and, not_true_eq_false, not_false_eq_true, E2, N8, M8, dy]
        · simp (disch := omega) only [Nat.zero_add, qa, qb, qbb, qc, qd, qe, qf, qg, Option.bind_some, reduceIte, or_false, false_or, or_self, or_true, true_or, and_true, true_and, and_false, false_and, not_true_eq_false, not_false_eq_true]
          exact y1
        · obtain ⟨z1, z2⟩ := y2 g (by omega)
          simp (disch := omega) only [Nat.zero_add, qa, qb, qbb, qc, qd, qe, qf, qg, Option.bind_some, reduceIte, or_false, false_or, or_self, or_true, true_or, and_true, true_and, and_false, false_and, not_true_eq_false, not_false_eq_true, z1, z2]
        · simp (disch := omega) only [Nat.zero_add, qa, qb, qbb, qc, qd, qe, qf, qg, Option.bind_some, reduceIte, or_false, false_or, or_self, or_true, true_or, and_true, true_and, and_false, false_and, not_true_eq_false, not_false_eq_true]
          exact y3
        · simp (disch := omega) only [Nat.zero_add, qa, qb, qbb, qc, qd, qe, qf, qg, Option.bind_some, reduceIte, or_false, false_or, or_self, or_true, true_or, and_true, true_and, and_false, false_and, not_true_eq_false, not_false_eq_true]
          exact y4
        · simp (disch := omega) only [Nat.zero_add, qa, qb, qbb, qc, qd, qe, qf, qg, Option.bind_some, reduceIte, or_false, false_or, or_self, or_true, true_or, and_true, true_and, and_false, false_and, not_true_eq_false, not_false_eq_true]
          exact (y5 l hl).2
        · simp (disch := omega) only [Nat.zero_add, qa, qb, qbb, qc, qd, qe, qf, qg, Option.bind_some, reduceIte, or_false, false_or, or_self, or_true, true_or, and_true, true_and, and_false, false_and, not_true_eq_false, not_false_eq_true]
          exact y6 l hl
        · simp (disch := omega) only [Nat.zero_add, qa, qb, qbb, qc, qd, qe, qf, qg, Option.bind_some, reduceIte, or_false, false_or, or_self, or_true, true_or, and_true, true_and, and_false, false_and, not_true_eq_false, not_false_eq_true]
          exact y7 m hm
        · show _ = onI (updN O (x - 1) y l)
          by_cases e : l = x - 1
          · rw [e, updN_at, upd_at]
          · rw [updN_ne _ _ e]
            simp (disch := omega) only [Nat.zero_add, qa, qb, qbb, qc, qd, qe, qf, qg, Option.bind_some, reduceIte, or_false, false_or, or_self, or_true, true_or, and_true, true_and, and_false, false_and, not_true_eq_false, not_false_eq_true]
            exact y8 l hl
        · simp (disch := omega) only [Nat.zero_add, qa, qb, qbb, qc, qd, qe, qf, qg, Option.bind_some, reduceIte, or_false, false_or, or_self, or_true, true_or, and_true, true_and, and_false, false_and, not_true_eq_false, not_false_eq_true]
          exact y9
        · simp (disch := omega) only [Nat.zero_add, qa, qb, qbb, qc, qd, qe, qf, qg, Option.bind_some, reduceIte, or_false, false_or, or_self, or_true, true_or, and_true, true_and, and_false, false_and, not_true_eq_false, not_false_eq_true]
          exact y10
        · simp (disch := omega) only [Nat.zero_add, qa, qb, qbb, qc, qd, qe, qf, qg, Option.bind_some, reduceIte, or_false, false_or, or_self, or_true, true_or, and_true, true_and, and_false, false_and, not_true_eq_false, not_false_eq_true]
          exact y11 l hl
        · rw [upd_ne _ _ (by omega)]
/-- the clause club: the reference's row -/
theorem cl_club0 {n : Nat} (len : Int32) (te : Nat → Int32) (x y f m l : Int32) (row : Nat → Int32) : fX8_readsClub_21 n len te (nI 0) (n + 1) x y f m l row (nI 0) = some (nI 1, x, y, f, m, l, row) := by
  unfold fX8_readsClub_21 fX8_readsClub_50
  simp (disch := omega) only [Nat.zero_add, qa, qb, qbb, qc, qd, qe, qf, qg, Option.bind_some, reduceIte, or_false, false_or, or_self, or_true, true_or, and_true, true_and, and_false, false_and, not_true_eq_false, not_false_eq_true]
theorem cl_club1 (n : Nat) (len : Int32) (te : Nat → Int32) (x y f m l : Int32) : ∀ (t i k : Nat) (row : Nat → Int32), i + t = 48 →
    ∃ row', fX8_readsClub_21 n len te (nI 1) (k + t + 1) x y f m l row (nI i) = some (nI 1, x, y, f, m, l, row') ∧ (∀ q, i ≤ q → q < 48 → row' (48 + q) = nI 0) ∧ ∀ q, q < 48 + i ∨ 96 ≤ q → row' q = row q := by
  intro t
  induction t with
  | zero =>
    intro i k row hi
    refine ⟨row, ?_, fun q h1 h2 => absurd h2 (by omega), fun _ _ => rfl⟩
    unfold fX8_readsClub_21 fX8_readsClub_50
    simp (disch := omega) only [Nat.zero_add, qa, qb, qbb, qc, qd, qe, qf, qg, Option.bind_some, reduceIte, or_false, false_or, or_self, or_true, true_or, and_true, true_and, and_false, false_and, not_true_eq_false, not_false_eq_true]
  | succ t ih =>
    intro i k row hi
    obtain ⟨row', E, h1, h2⟩ := ih (i + 1) k (upd row (48 + i) (nI 0)) (by omega)
    refine ⟨row', ?_, fun q hq hq2 => ?_, fun q hq => ?_⟩
    · have e : k + (t + 1) + 1 = (k + t + 1) + 1 := by omega
      rw [e]
      unfold fX8_readsClub_21
      simp (disch := omega) only [Nat.zero_add, qa, qb, qbb, qc, qd, qe, qf, qg, Option.bind_some, reduceIte, or_false, false_or, or_self, or_true, true_or, and_true, true_and, and_false, false_and, not_true_eq_false, not_false_eq_true]
      exact E
    · by_cases e : q = i
      · rw [h2 (48 + q) (by omega), e, upd_at]
      · exact h1 q (by omega) hq2
    · rw [h2 q (by omega), upd_ne _ _ (by omega)]
