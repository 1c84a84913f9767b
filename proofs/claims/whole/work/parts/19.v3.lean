theorem inG_cas (v : Int32) {N : Nat} (hN : N < 2147483648) : inG v N = nI 0 ∨ ∃ m, m < N ∧ v = nI m ∧ inG v N = nI 1 := by
  by_cases c : v < 0 ∨ nI N ≤ v
  · left
    exact if_pos c
  · right
    obtain ⟨m, h1, h2⟩ := inG_get hN c
    exact ⟨m, h1, h2, if_neg c⟩
/-- the reference's room at 0 -/
def relY0 (nf nm nl : Nat) (le al kd : Nat → Nat) (row : Nat → Int32) (ba mi : Nat) (s : rmS) : Prop :=
  (row 23 = nI nf ∧ ∀ g, g < nf → row (24 + g) = nI (le g) ∧ row (36 + g) = nI (al g)) ∧
  (row 16 = nI nm ∧ row 17 = nI nl ∧ (∀ l, l < nl → kd l < 5 ∧ row (18 + l) = nI (kd l)) ∧ (∀ l, l < nl → row (9 + l) = nI (s.1 l)) ∧ (∀ m, m < nm → row m = nI (s.2.1 m)) ∧ ∀ l, l < nl → row (4 + l) = onI (s.2.2 l)) ∧
  row 14 = nI ba ∧ row 15 = nI mi
theorem relY0_eq (nf nm nl : Nat) (le al kd : Nat → Nat) (row : Nat → Int32) (ba mi : Nat) (s : rmS) : relY 0 nf nm nl le al kd row ba mi s = relY0 nf nm nl le al kd row ba mi s := by
  unfold relY fcts relM relY0
  simp only [Nat.zero_add]
theorem relY0_on {nf nm nl ba mi l o : Nat} {le al kd : Nat → Nat} {row : Nat → Int32} {s : rmS} (hnf : nf ≤ 12) (hnm : nm ≤ 4) (hnl : nl ≤ 5) (h : relY0 nf nm nl le al kd row ba mi s) (hl : l < nl) : relY0 nf nm nl le al kd (upd row (4 + l) (onI o)) ba mi (s.1, s.2.1, updN s.2.2 l o) := by
  obtain ⟨⟨y1, y2⟩, ⟨y3, y4, y5, y6, y7, y8⟩, y9, y10⟩ := h
  refine ⟨⟨?_, fun g hg => ⟨?_, ?_⟩⟩, ⟨?_, ?_, fun j hj => ⟨(y5 j hj).1, ?_⟩, fun j hj => ?_, fun j hj => ?_, fun j hj => ?_⟩, ?_, ?_⟩
  · rw [upd_ne _ _ (by omega)]; exact y1
  · rw [upd_ne _ _ (by omega)]; exact (y2 g hg).1
  · rw [upd_ne _ _ (by omega)]; exact (y2 g hg).2
  · rw [upd_ne _ _ (by omega)]; exact y3
  · rw [upd_ne _ _ (by omega)]; exact y4
  · rw [upd_ne _ _ (by omega)]; exact (y5 j hj).2
  · rw [upd_ne _ _ (by omega)]; exact y6 j hj
  · rw [upd_ne _ _ (by omega)]; exact y7 j hj
  · show _ = onI (updN s.2.2 l o j)
    by_cases d : j = l
    · rw [d, upd_at, updN_at]
    · rw [upd_ne _ _ (by omega), updN_ne _ _ d]; exact y8 j hj
  · rw [upd_ne _ _ (by omega)]; exact y9
  · rw [upd_ne _ _ (by omega)]; exact y10
theorem relY0_kn {nf nm nl ba mi m k : Nat} {le al kd : Nat → Nat} {row : Nat → Int32} {s : rmS} (hnf : nf ≤ 12) (hnm : nm ≤ 4) (hnl : nl ≤ 5) (h : relY0 nf nm nl le al kd row ba mi s) (hm : m < nm) : relY0 nf nm nl le al kd (upd row m (nI k)) ba mi (s.1, updN s.2.1 m k, s.2.2) := by
  obtain ⟨⟨y1, y2⟩, ⟨y3, y4, y5, y6, y7, y8⟩, y9, y10⟩ := h
  refine ⟨⟨?_, fun g hg => ⟨?_, ?_⟩⟩, ⟨?_, ?_, fun j hj => ⟨(y5 j hj).1, ?_⟩, fun j hj => ?_, fun j hj => ?_, fun j hj => ?_⟩, ?_, ?_⟩
  · rw [upd_ne _ _ (by omega)]; exact y1
  · rw [upd_ne _ _ (by omega)]; exact (y2 g hg).1
  · rw [upd_ne _ _ (by omega)]; exact (y2 g hg).2
  · rw [upd_ne _ _ (by omega)]; exact y3
  · rw [upd_ne _ _ (by omega)]; exact y4
  · rw [upd_ne _ _ (by omega)]; exact (y5 j hj).2
  · rw [upd_ne _ _ (by omega)]; exact y6 j hj
  · show _ = nI (updN s.2.1 m k j)
    by_cases d : j = m
    · rw [d, upd_at, updN_at]
    · rw [upd_ne _ _ d, updN_ne _ _ d]; exact y7 j hj
  · rw [upd_ne _ _ (by omega)]; exact y8 j hj
  · rw [upd_ne _ _ (by omega)]; exact y9
  · rw [upd_ne _ _ (by omega)]; exact y10
theorem relY0_sa {nf nm nl ba mi l b' : Nat} {le al kd : Nat → Nat} {row : Nat → Int32} {s : rmS} (hnf : nf ≤ 12) (hnm : nm ≤ 4) (hnl : nl ≤ 5) (h : relY0 nf nm nl le al kd row ba mi s) (hl : l < nl) : relY0 nf nm nl le al kd (upd (upd row 14 (nI b')) (9 + l) (nI 0)) b' mi (updN s.1 l 0, s.2.1, s.2.2) := by
  obtain ⟨⟨y1, y2⟩, ⟨y3, y4, y5, y6, y7, y8⟩, y9, y10⟩ := h
  refine ⟨⟨?_, fun g hg => ⟨?_, ?_⟩⟩, ⟨?_, ?_, fun j hj => ⟨(y5 j hj).1, ?_⟩, fun j hj => ?_, fun j hj => ?_, fun j hj => ?_⟩, ?_, ?_⟩
  · rw [upd_ne _ _ (by omega), upd_ne _ _ (by omega)]; exact y1
  · rw [upd_ne _ _ (by omega), upd_ne _ _ (by omega)]; exact (y2 g hg).1
  · rw [upd_ne _ _ (by omega), upd_ne _ _ (by omega)]; exact (y2 g hg).2
  · rw [upd_ne _ _ (by omega), upd_ne _ _ (by omega)]; exact y3
  · rw [upd_ne _ _ (by omega), upd_ne _ _ (by omega)]; exact y4
  · rw [upd_ne _ _ (by omega), upd_ne _ _ (by omega)]; exact (y5 j hj).2
  · show _ = nI (updN s.1 l 0 j)
    by_cases d : j = l
    · rw [d, upd_at, updN_at]
    · rw [upd_ne _ _ (by omega), upd_ne _ _ (by omega), updN_ne _ _ d]; exact y6 j hj
  · rw [upd_ne _ _ (by omega), upd_ne _ _ (by omega)]; exact y7 j hj
  · rw [upd_ne _ _ (by omega), upd_ne _ _ (by omega)]; exact y8 j hj
  · rw [upd_ne _ _ (by omega), upd_at]
  · rw [upd_ne _ _ (by omega), upd_ne _ _ (by omega)]; exact y10
theorem relY0_row {nf nm nl ba mi : Nat} {le al kd : Nat → Nat} {row row' : Nat → Int32} {s : rmS} (hnf : nf ≤ 12) (hnm : nm ≤ 4) (hnl : nl ≤ 5) (hr : ∀ q, q < 96 → row' q = row q) (h : relY0 nf nm nl le al kd row ba mi s) : relY0 nf nm nl le al kd row' ba mi s := by
  rw [← relY0_eq] at h ⊢
  exact relY_move hnf hnm hnl (fun j hj => hr _ (by omega)) h
/-- the call put -/
theorem pu_put {n nf nm nl u c : Nat} {le al kd : Nat → Nat} {mb lc ba mi : Int32} {kn ki on ha : Nat → Int32} {T : rmT} {A K : paT} {row : Nat → Int32} (hn : 400 ≤ n) (h : relW nf nm nl le al kd (mb, lc, ba, mi, kn, ki, on, ha) T u A c K row) (e k1 k2 k3 k4 : Nat → Nat) (xp : Nat → Option Nat) (v1 v2 : Int32) :
    ∃ (r : Int32) (A' : paT) (e' k1' k2' k3' k4' : Nat → Nat) (xp' : Nat → Option Nat) (u' : Nat) (on' row' : Nat → Int32),
      fX7_put n lc mb ba mi kn ki ha A.1 A.2.1 A.2.2.1 A.2.2.2.1 A.2.2.2.2.1 A.2.2.2.2.2.1 A.2.2.2.2.2.2.1 A.2.2.2.2.2.2.2 e k1 k2 k3 k4 xp (nI u) on v1 v2 = some (r, A'.1, A'.2.1, A'.2.2.1, A'.2.2.2.1, A'.2.2.2.2.1, A'.2.2.2.2.2.1, A'.2.2.2.2.2.2.1, A'.2.2.2.2.2.2.2, e', k1', k2', k3', k4', xp', nI u', on') ∧
      fX8_put n (nI u) row v1 v2 = some (r, nI u', row') ∧ relW nf nm nl le al kd (mb, lc, ba, mi, kn, ki, on', ha) T u' A' c K row' := by
  obtain ⟨o, hnm, hnl, ⟨zb, zm, s, ⟨hb, hm, s1, s2, s3⟩, ⟨x1, x2, x3, x4, x5, x6, x7, x8⟩, hy⟩, hrest⟩ := id h
  rw [relY0_eq] at hy
  obtain ⟨⟨y1, y2⟩, ⟨y3, y4, y5, y6, y7, y8⟩, y9, y10⟩ := id hy
  dsimp only at x1 x2 x3 x4 x5 x6 x7 x8
  subst x1 x2 x3 x4
  have i17 := fun v => pu_isLeech n (row := row) (N := nl) (by omega) y4 v
  have i16 := fun v => pu_isMember n (row := row) (N := nm) (by omega) y3 v
  rcases inG_cas v1 (N := nl) (by omega) with g | ⟨l, hl, rfl, g⟩
  · refine ⟨-nI 2, A, e, k1, k2, k3, k4, xp, u, on, row, ?_, ?_, h⟩
    · unfold fX7_put fX7_put_27
      simp (disch := omega) only [Nat.zero_add, qa, qb, qbb, qc, qd, qe, qf, qg, Option.bind_some, reduceIte, or_false, false_or, or_self, or_true, true_or, and_true, true_and, and_false, false_and, not_true_eq_false, not_false_eq_true, g]
    · unfold fX8_put fX8_put_21
      simp (disch := omega) only [Nat.zero_add, qa, qb, qbb, qc, qd, qe, qf, qg, Option.bind_some, reduceIte, or_false, false_or, or_self, or_true, true_or, and_true, true_and, and_false, false_and, not_true_eq_false, not_false_eq_true, g, i17]
  · have key : ∀ o, o ≤ nm → v2 = onI o → ∃ (r : Int32) (A' : paT) (e' k1' k2' k3' k4' : Nat → Nat) (xp' : Nat → Option Nat) (u' : Nat) (on' row' : Nat → Int32),
        fX7_put_30 n (nI nl) (nI nm) (nI zb) (nI zm) kn ki ha A.1 A.2.1 A.2.2.1 A.2.2.2.1 A.2.2.2.2.1 A.2.2.2.2.2.1 A.2.2.2.2.2.2.1 A.2.2.2.2.2.2.2 e k1 k2 k3 k4 xp (nI u) on (nI l) v2 = some (r, A'.1, A'.2.1, A'.2.2.1, A'.2.2.2.1, A'.2.2.2.2.1, A'.2.2.2.2.2.1, A'.2.2.2.2.2.2.1, A'.2.2.2.2.2.2.2, e', k1', k2', k3', k4', xp', nI u', on') ∧
        fX8_put_24 n (nI u) row (nI l) v2 = some (r, nI u', row') ∧ relW nf nm nl le al kd (nI nm, nI nl, nI zb, nI zm, kn, ki, on', ha) T u' A' c K row' := by
      intro o' ho hv
      subst hv
      have q1 := x8 l hl
      have q2 := y8 l hl
      have q3 := s3 l hl
      by_cases d : s.2.2 l = o'
      · refine ⟨-nI 4, A, e, k1, k2, k3, k4, xp, u, on, row, ?_, ?_, h⟩
        · unfold fX7_put_30
          simp (disch := omega) only [Nat.zero_add, qa, qb, qbb, qc, qd, qe, qf, qg, Option.bind_some, reduceIte, or_false, false_or, or_self, or_true, true_or, and_true, true_and, and_false, false_and, not_true_eq_false, not_false_eq_true, q1]
        · unfold fX8_put_24
          simp (disch := omega) only [Nat.zero_add, qa, qb, qbb, qc, qd, qe, qf, qg, Option.bind_some, reduceIte, or_false, false_or, or_self, or_true, true_or, and_true, true_and, and_false, false_and, not_true_eq_false, not_false_eq_true, q2]
      · obtain ⟨A', e', k1', k2', k3', k4', xp', u', row', E1, E2, hr, hW⟩ := pu_rem hn h e k1 k2 k3 k4 xp
        dsimp only at E1
        refine ⟨onI (s.2.2 l), A', e', k1', k2', k3', k4', xp', u', upd on l (onI o'), upd row' (4 + l) (onI o'), ?_, ?_, ?_⟩
        · unfold fX7_put_30
          simp (disch := omega) only [Nat.zero_add, qa, qb, qbb, qc, qd, qe, qf, qg, Option.bind_some, reduceIte, or_false, false_or, or_self, or_true, true_or, and_true, true_and, and_false, false_and, not_true_eq_false, not_false_eq_true, q1, E1]
        · have q4 := (hr (4 + l) (by omega)).trans q2
          unfold fX8_put_24
          simp (disch := omega) only [Nat.zero_add, qa, qb, qbb, qc, qd, qe, qf, qg, Option.bind_some, reduceIte, or_false, false_or, or_self, or_true, true_or, and_true, true_and, and_false, false_and, not_true_eq_false, not_false_eq_true, q2, E2, q4]
        · refine relW_now hW ⟨zb, zm, (s.1, s.2.1, updN s.2.2 l o'), ⟨hb, hm, s1, s2, fun j hj => ?_⟩, ⟨rfl, rfl, rfl, rfl, x5, x6, x7, relO_upd x8 l o'⟩, ?_⟩ (fun q hq _ => upd_ne _ _ (by omega))
          · show updN s.2.2 l o' j ≤ nm
            by_cases f : j = l
            · rw [f, updN_at]; exact ho
            · rw [updN_ne _ _ f]; exact s3 j hj
          · rw [relY0_eq]
            exact relY0_on o.1 hnm hnl (relY0_row o.1 hnm hnl hr hy) hl
    by_cases d : v2 = onI 0
    · obtain ⟨r, A', e', k1', k2', k3', k4', xp', u', on', row', E1, E2, hW⟩ := key 0 (by omega) d
      refine ⟨r, A', e', k1', k2', k3', k4', xp', u', on', row', ?_, ?_, hW⟩
      · unfold fX7_put
        simp (disch := omega) only [Nat.zero_add, qa, qb, qbb, qc, qd, qe, qf, qg, Option.bind_some, reduceIte, or_false, false_or, or_self, or_true, true_or, and_true, true_and, and_false, false_and, not_true_eq_false, not_false_eq_true, g, d] at E1 ⊢
        exact E1
      · unfold fX8_put
        simp (disch := omega) only [Nat.zero_add, qa, qb, qbb, qc, qd, qe, qf, qg, Option.bind_some, reduceIte, or_false, false_or, or_self, or_true, true_or, and_true, true_and, and_false, false_and, not_true_eq_false, not_false_eq_true, g, i17, d] at E2 ⊢
        exact E2
    · rcases inG_cas v2 (N := nm) (by omega) with g2 | ⟨m, hm, rfl, g2⟩
      · refine ⟨-nI 2, A, e, k1, k2, k3, k4, xp, u, on, row, ?_, ?_, h⟩
        · unfold fX7_put fX7_put_27
          simp (disch := omega) only [Nat.zero_add, qa, qb, qbb, qc, qd, qe, qf, qg, Option.bind_some, reduceIte, or_false, false_or, or_self, or_true, true_or, and_true, true_and, and_false, false_and, not_true_eq_false, not_false_eq_true, g, g2, d]
        · unfold fX8_put fX8_put_21
          simp (disch := omega) only [Nat.zero_add, qa, qb, qbb, qc, qd, qe, qf, qg, Option.bind_some, reduceIte, or_false, false_or, or_self, or_true, true_or, and_true, true_and, and_false, false_and, not_true_eq_false, not_false_eq_true, g, g2, i17, i16, d]
      · obtain ⟨r, A', e', k1', k2', k3', k4', xp', u', on', row', E1, E2, hW⟩ := key (m + 1) (by omega) (onI_s m).symm
        refine ⟨r, A', e', k1', k2', k3', k4', xp', u', on', row', ?_, ?_, hW⟩
        · unfold fX7_put
          simp (disch := omega) only [Nat.zero_add, qa, qb, qbb, qc, qd, qe, qf, qg, Option.bind_some, reduceIte, or_false, false_or, or_self, or_true, true_or, and_true, true_and, and_false, false_and, not_true_eq_false, not_false_eq_true, g, g2]
          exact E1
        · unfold fX8_put
          simp (disch := omega) only [Nat.zero_add, qa, qb, qbb, qc, qd, qe, qf, qg, Option.bind_some, reduceIte, or_false, false_or, or_self, or_true, true_or, and_true, true_and, and_false, false_and, not_true_eq_false, not_false_eq_true, g, g2, i17, i16]
          exact E2
