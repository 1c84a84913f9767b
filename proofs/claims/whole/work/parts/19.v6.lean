theorem pu_pass1 {n : Nat} {kind lw has knows on : Nat → Int32} {al kd : Nat → Nat} {nf nm nl mi : Nat} (hn : 400 ≤ n) (hnf : nf ≤ 12) (hnm : nm ≤ 4) (hnl : nl ≤ 5) (hC : fctC lw nf al) {s : rmS} (hs : okS nf nm nl s) (hr : relC nm nl kd kind has knows on s) :
    ∃ has' knows' on', relC nm nl kd kind has' knows' on' (stN al nf kd nl 0 s) ∧ fX3_pass n (nI nl) (nI nm) kind lw (nI mi) has knows on (nI 1) = some (nI (mi + 1), has', knows', on') := by
  obtain ⟨a, b, c, h1, h2, E⟩ := pu_pass (n := n) (mi := mi) (T := 1) (by omega) (by omega) (by omega) hnf hnm hnl hC hs hr
  exact ⟨a, b, c, h1, E⟩
theorem pu_gone_loop {n : Nat} (hn : 400 ≤ n) {le al kd : Nat → Nat} {nf nm nl ba m f : Nat} {lw : Nat → Int32} (hnf : nf ≤ 12) (hnm : nm ≤ 4) (hnl : nl ≤ 5) (hC : fctC lw nf al) (hm : m < nm) (hf : f < nf) (p1 p2 p3 p4 p5 p6 : Int32) (g1 g2 g3 g4 : Nat → Int32) (ki : Nat → Int32) (tb : Int32) : ∀ (t i q mi : Nat) (row kn on ha : Nat → Int32) (x1 x2 x3 : Int32) (s : rmS), i + t = 41 → fctM row nf al → okS nf nm nl s → relC nm nl kd ki ha kn on s → relY 576 nf nm nl le al kd row ba mi s →
    ∃ (r : Int32) (R' : rmT) (row' : Nat → Int32) (y1 y2 y3 : Int32), (∀ j, j < 576 → row' j = row j) ∧
      fX7_gone_38 n p1 p2 p3 p4 p5 g1 g2 g3 g4 lw (q + t + 1) (nI nm) (nI nl) tb (nI mi) kn ki on ha (nI m) (nI f) (nI i) = some (r, R'.1, R'.2.1, R'.2.2.1, R'.2.2.2.1, R'.2.2.2.2.1, R'.2.2.2.2.2.1, R'.2.2.2.2.2.2.1, R'.2.2.2.2.2.2.2) ∧
      fX8_gone_26 n (q + t + 1) row x1 x2 x3 (nI m) (nI f) (nI i) = some (r, row', y1, y2, y3) := by
  intro t
  induction t with
  | zero =>
    intro i q mi row kn on ha x1 x2 x3 s hi hF hs hr hy
    refine ⟨onI 0, (nI nm, nI nl, tb, nI mi, kn, ki, on, ha), row, x1, x2, x3, fun _ _ => rfl, ?_, ?_⟩
    · unfold fX7_gone_38
      simp (disch := omega) only [Nat.zero_add, qa, qb, qbb, qc, qd, qe, qf, qg, Option.bind_some, reduceIte, or_false, false_or, or_self, or_true, true_or, and_true, true_and, and_false, false_and, not_true_eq_false, not_false_eq_true]
    · unfold fX8_gone_26
      simp (disch := omega) only [Nat.zero_add, qa, qb, qbb, qc, qd, qe, qf, qg, Option.bind_some, reduceIte, or_false, false_or, or_self, or_true, true_or, and_true, true_and, and_false, false_and, not_true_eq_false, not_false_eq_true]
  | succ t ih =>
    intro i q mi row kn on ha x1 x2 x3 s hi hF hs hr hy
    have q1 := hr.2.2.1 m hm
    have q2 := hy.2.1.2.2.2.2.1 m hm
    have q3 := lt4096 hnf (hs.2.1 m hm)
    have e2 : q + (t + 1) + 1 = (q + t + 1) + 1 := by omega
    rw [e2]
    by_cases d : (s.2.1 m).testBit f = true
    · obtain ⟨r1, a1, a2, a3, b1, b2, b3, b4, E1⟩ := pu_step hn (b := 576) (Or.inr (by omega)) (by omega) hnm hnl x1 x2 x3 hF hs hy
      obtain ⟨ha', kn', on', R1, E2⟩ := pu_pass1 (mi := mi) hn hnf hnm hnl hC hs hr
      obtain ⟨r, R', row', y1, y2, y3, h1, E3, E4⟩ := ih (i + 1) q (mi + 1) r1 kn' on' ha' a1 a2 a3 _ (by omega) b2 b3 R1 b1
      refine ⟨r, R', row', y1, y2, y3, fun j hj => (h1 j hj).trans (b4 j (by omega)), ?_, ?_⟩
      · unfold fX7_gone_38
        simp (disch := omega) only [Nat.zero_add, qa, qb, qbb, qc, qd, qe, qf, qg, Option.bind_some, reduceIte, or_false, false_or, or_self, or_true, true_or, and_true, true_and, and_false, false_and, not_true_eq_false, not_false_eq_true, q1, d, E2]
        exact E3
      · unfold fX8_gone_26
        simp (disch := omega) only [Nat.zero_add, qa, qb, qbb, qc, qd, qe, qf, qg, Option.bind_some, reduceIte, or_false, false_or, or_self, or_true, true_or, and_true, true_and, and_false, false_and, not_true_eq_false, not_false_eq_true, q2, d, E1]
        exact E4
    · refine ⟨nI i, (nI nm, nI nl, tb, nI mi, kn, ki, on, ha), row, x1, x2, x3, fun _ _ => rfl, ?_, ?_⟩
      · unfold fX7_gone_38
        simp (disch := omega) only [Nat.zero_add, qa, qb, qbb, qc, qd, qe, qf, qg, Option.bind_some, reduceIte, or_false, false_or, or_self, or_true, true_or, and_true, true_and, and_false, false_and, not_true_eq_false, not_false_eq_true, q1, d, Bool.false_eq_true]
      · unfold fX8_gone_26
        simp (disch := omega) only [Nat.zero_add, qa, qb, qbb, qc, qd, qe, qf, qg, Option.bind_some, reduceIte, or_false, false_or, or_self, or_true, true_or, and_true, true_and, and_false, false_and, not_true_eq_false, not_false_eq_true, q2, d, Bool.false_eq_true]
/-- the call gone -/
theorem pu_gone {n nf nm nl u c : Nat} {le al kd : Nat → Nat} {N T : rmT} {A K : paT} {row lw : Nat → Int32} (hn : 400 ≤ n) (hC : fctC lw nf al) (h : relW nf nm nl le al kd N T u A c K row) (R : rmT) (w1 w2 w3 v1 v2 : Int32) :
    ∃ (r : Int32) (R' : rmT) (row' : Nat → Int32) (w1' w2' w3' : Int32),
      fX7_gone n N.1 (nI nf) N.2.1 N.2.2.1 N.2.2.2.1 N.2.2.2.2.1 N.2.2.2.2.2.1 N.2.2.2.2.2.2.1 N.2.2.2.2.2.2.2 lw R.1 R.2.1 R.2.2.1 R.2.2.2.1 R.2.2.2.2.1 R.2.2.2.2.2.1 R.2.2.2.2.2.2.1 R.2.2.2.2.2.2.2 v1 v2 = some (r, R'.1, R'.2.1, R'.2.2.1, R'.2.2.2.1, R'.2.2.2.2.1, R'.2.2.2.2.2.1, R'.2.2.2.2.2.2.1, R'.2.2.2.2.2.2.2) ∧
      fX8_gone n row w1 w2 w3 v1 v2 = some (r, row', w1', w2', w3') ∧ relW nf nm nl le al kd N T u A c K row' := by
  obtain ⟨o, hnm, hnl, ⟨zb, zm, s, ⟨hb, hm, hs⟩, hx, hy⟩, hrest⟩ := id h
  have hx2 := relX_cpT R hnm hnl hx
  obtain ⟨x1, x2, x3, x4, x5⟩ := hx
  obtain ⟨z1, z2, z3, z4, z5⟩ := hx2
  have hy0 := hy
  rw [relY0_eq] at hy
  obtain ⟨⟨y1, y2⟩, ⟨y3, y4, y5, y6, y7, y8⟩, y9, y10⟩ := id hy
  have hnf := o.1
  have i16 := fun v => pu_isMember n (row := row) (N := nm) (by omega) y3 v
  have i23 := fun v => pu_isFact n (row := row) (N := nf) (by omega) y1 v
  rcases inG_cas v1 (N := nm) (by omega) with g | ⟨m, hmm, rfl, g⟩
  · refine ⟨-nI 2, R, row, w1, w2, w3, ?_, ?_, h⟩
    · unfold fX7_gone fX7_gone_22
      simp (disch := omega) only [Nat.zero_add, qa, qb, qbb, qc, qd, qe, qf, qg, Option.bind_some, reduceIte, or_false, false_or, or_self, or_true, true_or, and_true, true_and, and_false, false_and, not_true_eq_false, not_false_eq_true, g, x1]
    · unfold fX8_gone fX8_gone_16
      simp (disch := omega) only [Nat.zero_add, qa, qb, qbb, qc, qd, qe, qf, qg, Option.bind_some, reduceIte, or_false, false_or, or_self, or_true, true_or, and_true, true_and, and_false, false_and, not_true_eq_false, not_false_eq_true, g, i16]
  · rcases inG_cas v2 (N := nf) (by omega) with g2 | ⟨f, hf, rfl, g2⟩
    · refine ⟨-nI 2, R, row, w1, w2, w3, ?_, ?_, h⟩
      · unfold fX7_gone fX7_gone_22
        simp (disch := omega) only [Nat.zero_add, qa, qb, qbb, qc, qd, qe, qf, qg, Option.bind_some, reduceIte, or_false, false_or, or_self, or_true, true_or, and_true, true_and, and_false, false_and, not_true_eq_false, not_false_eq_true, g, g2, x1]
      · unfold fX8_gone fX8_gone_16
        simp (disch := omega) only [Nat.zero_add, qa, qb, qbb, qc, qd, qe, qf, qg, Option.bind_some, reduceIte, or_false, false_or, or_self, or_true, true_or, and_true, true_and, and_false, false_and, not_true_eq_false, not_false_eq_true, g, g2, i16, i23]
    · obtain ⟨r1, c1, c2, c3, d1, d2, d3, d4, E1⟩ := pu_lay hn (T := 0) (by omega) (by omega) hnf hnm hnl w1 w2 w3 (fctM_of o hy) hs hy0
      obtain ⟨r, R', row', y1, y2, y3, h1, E3, E4⟩ := pu_gone_loop hn (lw := lw) (f := f) hnf hnm hnl hC hmm hf N.1 (nI nf) N.2.1 N.2.2.1 N.2.2.2.1 0 N.2.2.2.2.1 N.2.2.2.2.2.1 N.2.2.2.2.2.2.1 N.2.2.2.2.2.2.2 _ (nI zb) 41 0 (n - 42) zm r1 _ _ _ c1 c2 c3 s (by omega) d2 hs z5 d1
      have e : n - 42 + 41 + 1 = n := by omega
      rw [e] at E3 E4
      refine ⟨r, R', row', y1, y2, y3, ?_, ?_, relW_tr h (fun q hq => (h1 q hq).trans (d4 q hq))⟩
      · unfold fX7_gone fX3_setAs
        unfold cpT at E3
        dsimp only at E3 ⊢
        simp (disch := omega) only [Nat.zero_add, qa, qb, qbb, qc, qd, qe, qf, qg, Option.bind_some, reduceIte, or_false, false_or, or_self, or_true, true_or, and_true, true_and, and_false, false_and, not_true_eq_false, not_false_eq_true, x1, x2, x3, x4, g, g2] at E3 ⊢
        exact E3
      · unfold fX8_gone
        simp (disch := omega) only [Nat.zero_add, qa, qb, qbb, qc, qd, qe, qf, qg, Option.bind_some, reduceIte, or_false, false_or, or_self, or_true, true_or, and_true, true_and, and_false, false_and, not_true_eq_false, not_false_eq_true, g, g2, i16, i23, E1]
        exact E4
theorem pu_boyC (n : Nat) {fal : Nat → Int32} {nf ba : Nat} {al : Nat → Nat} (hnf : nf ≤ 12) (hf : ∀ g, g < nf → fal g = nI (al g)) (ha : ∀ g, g < nf → al g < 4096) (hb : ba < 4096) : ∀ (t i q : Nat), i + t = nf →
    fX7_boy_4 n (nI nf) fal (nI ba) (q + t + 1) (nI (colB (fun g => decide (difB (al g) ba = 0)) i)) (nI i) = some (nI (colB (fun g => decide (difB (al g) ba = 0)) nf)) := by
  intro t
  induction t with
  | zero =>
    intro i q h
    have : i = nf := by omega
    subst this
    unfold fX7_boy_4
    simp (disch := omega) only [Nat.zero_add, qa, qb, qbb, qc, qd, qe, qf, qg, Option.bind_some, reduceIte, or_false, false_or, or_self, or_true, true_or, and_true, true_and, and_false, false_and, not_true_eq_false, not_false_eq_true]
  | succ t ih =>
    intro i q h
    have ih := ih (i + 1) q (by omega)
    have e : q + (t + 1) + 1 = (q + t + 1) + 1 := by omega
    have h1 := hf i (by omega)
    have h2 := ha i (by omega)
    have h3 := difB_le (al i) ba
    rw [e]
    unfold fX7_boy_4 fX7_boy_43
    by_cases c : difB (al i) ba = 0
    · rw [colB_1 (by simp [c])] at ih
      simp (disch := omega) only [Nat.zero_add, qa, qb, qbb, qc, qd, qe, qf, qg, Option.bind_some, reduceIte, or_false, false_or, or_self, or_true, true_or, and_true, true_and, and_false, false_and, not_true_eq_false, not_false_eq_true, h1]
      exact ih
    · rw [colB_0 (by simp [c])] at ih
      simp (disch := omega) only [Nat.zero_add, qa, qb, qbb, qc, qd, qe, qf, qg, Option.bind_some, reduceIte, or_false, false_or, or_self, or_true, true_or, and_true, true_and, and_false, false_and, not_true_eq_false, not_false_eq_true, h1]
      exact ih
theorem pu_boyM (n : Nat) {row : Nat → Int32} {nf ba : Nat} {al : Nat → Nat} (hnf : nf ≤ 12) (h23 : row 23 = nI nf) (h14 : row 14 = nI ba) (hf : ∀ g, g < nf → row (36 + g) = nI (al g)) (ha : ∀ g, g < nf → al g < 4096) (hb : ba < 4096) : ∀ (t i q : Nat), i + t = nf →
    fX8_boy_4 n row (q + t + 1) (nI (colB (fun g => decide (difB (al g) ba = 0)) i)) (nI i) = some (nI (colB (fun g => decide (difB (al g) ba = 0)) nf)) := by
  intro t
  induction t with
  | zero =>
    intro i q h
    have : i = nf := by omega
    subst this
    unfold fX8_boy_4
    simp (disch := omega) only [Nat.zero_add, qa, qb, qbb, qc, qd, qe, qf, qg, Option.bind_some, reduceIte, or_false, false_or, or_self, or_true, true_or, and_true, true_and, and_false, false_and, not_true_eq_false, not_false_eq_true, h23]
  | succ t ih =>
    intro i q h
    have ih := ih (i + 1) q (by omega)
    have e : q + (t + 1) + 1 = (q + t + 1) + 1 := by omega
    have h1 := hf i (by omega)
    have h2 := ha i (by omega)
    have h3 := difB_le (al i) ba
    rw [e]
    unfold fX8_boy_4 fX8_boy_45
    by_cases c : difB (al i) ba = 0
    · rw [colB_1 (by simp [c])] at ih
      simp (disch := omega) only [Nat.zero_add, qa, qb, qbb, qc, qd, qe, qf, qg, Option.bind_some, reduceIte, or_false, false_or, or_self, or_true, true_or, and_true, true_and, and_false, false_and, not_true_eq_false, not_false_eq_true, h1, h23, h14]
      exact ih
    · rw [colB_0 (by simp [c])] at ih
      simp (disch := omega) only [Nat.zero_add, qa, qb, qbb, qc, qd, qe, qf, qg, Option.bind_some, reduceIte, or_false, false_or, or_self, or_true, true_or, and_true, true_and, and_false, false_and, not_true_eq_false, not_false_eq_true, h1, h23, h14, Nat.or_zero]
      exact ih
/-- the call boy -/
theorem pu_boy {n nf nm nl u c : Nat} {le al kd : Nat → Nat} {N T : rmT} {A K : paT} {row fal : Nat → Int32} (hn : 400 ≤ n) (hf : ∀ g, g < nf → fal g = nI (al g)) (h : relW nf nm nl le al kd N T u A c K row) :
    ∃ r, fX7_boy n (nI nf) fal N.2.2.1 = some r ∧ fX8_boy n row = some r := by
  obtain ⟨o, hnm, hnl, ⟨zb, zm, s, ⟨hb, hm, hs⟩, ⟨x1, x2, x3, x4⟩, hy⟩, hrest⟩ := id h
  rw [relY0_eq] at hy
  have ha : ∀ g, g < nf → al g < 4096 := fun g hg => lt4096 o.1 (al_lt o hg)
  have h1 := pu_boyC n o.1 hf ha hb nf 0 (n - nf - 1) (by omega)
  have h2 := pu_boyM n o.1 hy.1.1 hy.2.2.1 (fun g hg => (hy.1.2 g hg).2) ha hb nf 0 (n - nf - 1) (by omega)
  have e : n - nf - 1 + nf + 1 = n := by have := o.1; omega
  rw [e] at h1 h2
  refine ⟨_, ?_, h2⟩
  unfold fX7_boy
  rw [x3]
  exact h1
theorem pu_such0 : ∀ a, a < 5 → ∀ q, q < 6 → fX7_hasBit 0 (xt_SUCH q) (nI a) = some (if q = 0 ∨ q = a + 1 ∨ (a < 3 ∧ 0 < q ∧ q ≤ a) ∨ (q = 4 ∧ a = 4) then nI 1 else nI 0) := by decide +kernel
theorem pu_such (n : Nat) {a q : Nat} (ha : a < 5) (hq : q < 6) : fX7_hasBit n (xt_SUCH q) (nI a) = some (if q = 0 ∨ q = a + 1 ∨ (a < 3 ∧ 0 < q ∧ q ≤ a) ∨ (q = 4 ∧ a = 4) then nI 1 else nI 0) := pu_such0 a ha q hq
/-- the call as -/
theorem pu_as {n nf nm nl u c : Nat} {le al kd : Nat → Nat} {N T : rmT} {A K : paT} {row : Nat → Int32} (h : relW nf nm nl le al kd N T u A c K row) (v1 v2 : Int32) :
    ∃ r, fX7_as n N.2.1 N.2.2.2.2.2.1 v1 v2 = some r ∧ fX8_as n row v1 v2 = some r := by
  obtain ⟨o, hnm, hnl, ⟨zb, zm, s, ⟨hb, hm, hs⟩, ⟨x1, x2, x3, x4, x5, x6⟩, hy⟩, hrest⟩ := id h
  rw [relY0_eq] at hy
  obtain ⟨⟨y1, y2⟩, ⟨y3, y4, y5, y6, y7, y8⟩, y9, y10⟩ := id hy
  have i17 := fun v => pu_isLeech n (row := row) (N := nl) (by omega) y4 v
  rcases inG_cas v1 (N := nl) (by omega) with g | ⟨l, hl, rfl, g⟩
  · refine ⟨-nI 2, ?_, ?_⟩
    · unfold fX7_as
      simp (disch := omega) only [Nat.zero_add, qa, qb, qbb, qc, qd, qe, qf, qg, Option.bind_some, reduceIte, or_false, false_or, or_self, or_true, true_or, and_true, true_and, and_false, false_and, not_true_eq_false, not_false_eq_true, g, x2]
    · unfold fX8_as
      simp (disch := omega) only [Nat.zero_add, qa, qb, qbb, qc, qd, qe, qf, qg, Option.bind_some, reduceIte, or_false, false_or, or_self, or_true, true_or, and_true, true_and, and_false, false_and, not_true_eq_false, not_false_eq_true, g, i17]
  · obtain ⟨hk, q1⟩ := x5 l hl
    have q2 := (y5 l hl).2
    rcases q_cas v2 (a := 0) (N := 6) (by omega) (by omega) with ⟨q, -, hq, rfl⟩ | g1 | ⟨g1, g2, -, -, g3⟩
    · generalize kd l = a at hk q1 q2
      have q3 := pu_such n hk hq
      have q4 := tb_HAS hk
      have q5 := pu_room n hk
      have q6 := rmK_le a
      by_cases d : q = 0 ∨ q = a + 1 ∨ (a < 3 ∧ 0 < q ∧ q ≤ a) ∨ (q = 4 ∧ a = 4)
      · rw [if_pos d] at q3
        refine ⟨nI (rmK a), ?_, ?_⟩
        · unfold fX7_as fX7_as_61
          simp (disch := omega) only [Nat.zero_add, qa, qb, qbb, qc, qd, qe, qf, qg, Option.bind_some, reduceIte, or_false, false_or, or_self, or_true, true_or, and_true, true_and, and_false, false_and, not_true_eq_false, not_false_eq_true, g, x2, q1, q3, q4]
        · unfold fX8_as fX8_as_61 fX8_as_71 fX8_as_75 fX8_as_76 fX8_as_92
          by_cases d1 : q = 0
          · simp (disch := omega) only [Nat.zero_add, qa, qb, qbb, qc, qd, qe, qf, qg, Option.bind_some, reduceIte, or_false, false_or, or_self, or_true, true_or, and_true, true_and, and_false, false_and, not_true_eq_false, not_false_eq_true, g, i17, q2, q5]
          · by_cases d2 : q = a + 1
            · simp (disch := omega) only [Nat.zero_add, qa, qb, qbb, qc, qd, qe, qf, qg, Option.bind_some, reduceIte, or_false, false_or, or_self, or_true, true_or, and_true, true_and, and_false, false_and, not_true_eq_false, not_false_eq_true, g, i17, q2, q5]
            · by_cases d3 : a < 3 ∧ 0 < q ∧ q ≤ a
              · obtain ⟨d3, d4, d5⟩ := d3
                simp (disch := omega) only [Nat.zero_add, qa, qb, qbb, qc, qd, qe, qf, qg, Option.bind_some, reduceIte, or_false, false_or, or_self, or_true, true_or, and_true, true_and, and_false, false_and, not_true_eq_false, not_false_eq_true, g, i17, q2, q5]
              · have d6 : q = 4 ∧ a = 4 := by omega
                obtain ⟨rfl, rfl⟩ := d6
                simp (disch := omega) only [Nat.zero_add, qa, qb, qbb, qc, qd, qe, qf, qg, Option.bind_some, reduceIte, or_false, false_or, or_self, or_true, true_or, and_true, true_and, and_false, false_and, not_true_eq_false, not_false_eq_true, g, i17, q2, q5]
      · rw [if_neg d] at q3
        refine ⟨-nI 4, ?_, ?_⟩
        · unfold fX7_as fX7_as_61
          simp (disch := omega) only [Nat.zero_add, qa, qb, qbb, qc, qd, qe, qf, qg, Option.bind_some, reduceIte, or_false, false_or, or_self, or_true, true_or, and_true, true_and, and_false, false_and, not_true_eq_false, not_false_eq_true, g, x2, q1, q3]
        · unfold fX8_as fX8_as_61 fX8_as_71 fX8_as_75 fX8_as_76 fX8_as_92
          by_cases d1 : 3 ≤ a
          · by_cases d2 : q = 4
            · exfalso
              omega
            · simp (disch := omega) only [Nat.zero_add, qa, qb, qbb, qc, qd, qe, qf, qg, Option.bind_some, reduceIte, or_false, false_or, or_self, or_true, true_or, and_true, true_and, and_false, false_and, not_true_eq_false, not_false_eq_true, g, i17, q2, q5]
          · simp (disch := omega) only [Nat.zero_add, qa, qb, qbb, qc, qd, qe, qf, qg, Option.bind_some, reduceIte, or_false, false_or, or_self, or_true, true_or, and_true, true_and, and_false, false_and, not_true_eq_false, not_false_eq_true, g, i17, q2, q5]
            by_cases d2 : q = 4
            · simp (disch := omega) only [Nat.zero_add, qa, qb, qbb, qc, qd, qe, qf, qg, Option.bind_some, reduceIte, or_false, false_or, or_self, or_true, true_or, and_true, true_and, and_false, false_and, not_true_eq_false, not_false_eq_true]
            · simp (disch := omega) only [Nat.zero_add, qa, qb, qbb, qc, qd, qe, qf, qg, Option.bind_some, reduceIte, or_false, false_or, or_self, or_true, true_or, and_true, true_and, and_false, false_and, not_true_eq_false, not_false_eq_true]
    · refine ⟨-nI 3, ?_, ?_⟩
      · unfold fX7_as fX7_as_26
        simp (disch := omega) only [Nat.zero_add, qa, qb, qbb, qc, qd, qe, qf, qg, Option.bind_some, reduceIte, or_false, false_or, or_self, or_true, true_or, and_true, true_and, and_false, false_and, not_true_eq_false, not_false_eq_true, g, x2, g1]
      · unfold fX8_as
        simp (disch := omega) only [Nat.zero_add, qa, qb, qbb, qc, qd, qe, qf, qg, Option.bind_some, reduceIte, or_false, false_or, or_self, or_true, true_or, and_true, true_and, and_false, false_and, not_true_eq_false, not_false_eq_true, g, i17, g1]
    · refine ⟨-nI 3, ?_, ?_⟩
      · unfold fX7_as fX7_as_26
        simp (disch := omega) only [Nat.zero_add, qa, qb, qbb, qc, qd, qe, qf, qg, Option.bind_some, reduceIte, or_false, false_or, or_self, or_true, true_or, and_true, true_and, and_false, false_and, not_true_eq_false, not_false_eq_true, g, x2, g1, g2]
      · unfold fX8_as
        simp (disch := omega) only [Nat.zero_add, qa, qb, qbb, qc, qd, qe, qf, qg, Option.bind_some, reduceIte, or_false, false_or, or_self, or_true, true_or, and_true, true_and, and_false, false_and, not_true_eq_false, not_false_eq_true, g, i17, g1, g3]
/-- the letters -/
def relL (z : Nat) (L : Nat → Nat) (le te : Nat → Int32) : Prop := z ≤ 200 ∧ ∀ j, j < z → L j < 256 ∧ le j = nI (L j) ∧ te j = nI (L j)
/-- the call write -/
theorem pu_write (n : Nat) {z : Nat} {L : Nat → Nat} {lt te : Nat → Int32} (h : relL z L lt te) (v1 : Int32) :
    ∃ (r : Int32) (z' : Nat) (L' : Nat → Nat) (lt' te' : Nat → Int32), fX7_write n lt (nI z) v1 = some (r, lt', nI z') ∧ fX8_write n te (nI z) v1 = some (r, te', nI z') ∧ relL z' L' lt' te' := by
  obtain ⟨hz, hl⟩ := id h
  rcases q_cas v1 (a := 0) (N := 256) (by omega) (by omega) with ⟨q, -, hq, rfl⟩ | g1 | ⟨g1, -, -, g2, g3⟩
  · by_cases d : z = 200
    · refine ⟨-nI 5, z, L, lt, te, ?_, ?_, h⟩
      · unfold fX7_write
        simp (disch := omega) only [Nat.zero_add, qa, qb, qbb, qc, qd, qe, qf, qg, Option.bind_some, reduceIte, or_false, false_or, or_self, or_true, true_or, and_true, true_and, and_false, false_and, not_true_eq_false, not_false_eq_true]
      · unfold fX8_write
        simp (disch := omega) only [Nat.zero_add, qa, qb, qbb, qc, qd, qe, qf, qg, Option.bind_some, reduceIte, or_false, false_or, or_self, or_true, true_or, and_true, true_and, and_false, false_and, not_true_eq_false, not_false_eq_true]
    · refine ⟨nI (z + 1), z + 1, updN L z q, upd lt z (nI q), upd te z (nI q), ?_, ?_, by omega, fun j hj => ?_⟩
      · unfold fX7_write
        simp (disch := omega) only [Nat.zero_add, qa, qb, qbb, qc, qd, qe, qf, qg, Option.bind_some, reduceIte, or_false, false_or, or_self, or_true, true_or, and_true, true_and, and_false, false_and, not_true_eq_false, not_false_eq_true]
      · unfold fX8_write
        simp (disch := omega) only [Nat.zero_add, qa, qb, qbb, qc, qd, qe, qf, qg, Option.bind_some, reduceIte, or_false, false_or, or_self, or_true, true_or, and_true, true_and, and_false, false_and, not_true_eq_false, not_false_eq_true]
      · by_cases e : j = z
        · rw [e, updN_at, upd_at, upd_at]
          exact ⟨hq, rfl, rfl⟩
        · rw [updN_ne _ _ e, upd_ne _ _ e, upd_ne _ _ e]
          exact hl j (by omega)
  · refine ⟨-nI 3, z, L, lt, te, ?_, ?_, h⟩
    · unfold fX7_write fX7_write_11
      simp (disch := omega) only [Nat.zero_add, qa, qb, qbb, qc, qd, qe, qf, qg, Option.bind_some, reduceIte, or_false, false_or, or_self, or_true, true_or, and_true, true_and, and_false, false_and, not_true_eq_false, not_false_eq_true, g1]
    · unfold fX8_write
      simp (disch := omega) only [Nat.zero_add, qa, qb, qbb, qc, qd, qe, qf, qg, Option.bind_some, reduceIte, or_false, false_or, or_self, or_true, true_or, and_true, true_and, and_false, false_and, not_true_eq_false, not_false_eq_true, g1]
  · refine ⟨-nI 3, z, L, lt, te, ?_, ?_, h⟩
    · unfold fX7_write fX7_write_11
      simp (disch := omega) only [Nat.zero_add, qa, qb, qbb, qc, qd, qe, qf, qg, Option.bind_some, reduceIte, or_false, false_or, or_self, or_true, true_or, and_true, true_and, and_false, false_and, not_true_eq_false, not_false_eq_true, g1, g2]
    · unfold fX8_write
      simp (disch := omega) only [Nat.zero_add, qa, qb, qbb, qc, qd, qe, qf, qg, Option.bind_some, reduceIte, or_false, false_or, or_self, or_true, true_or, and_true, true_and, and_false, false_and, not_true_eq_false, not_false_eq_true, g1, g3]
/-- the call erase -/
theorem pu_erase (n : Nat) {z : Nat} {L : Nat → Nat} {lt te : Nat → Int32} (h : relL z L lt te) :
    fX7_erase n (nI z) = some (nI z, nI 0) ∧ fX8_erase n (nI z) = some (nI z, nI 0) ∧ relL 0 L lt te := by
  refine ⟨?_, ?_, by omega, fun j hj => absurd hj (by omega)⟩
  · unfold fX7_erase
    simp (disch := omega) only [Nat.zero_add, qa, qb, qbb, qc, qd, qe, qf, qg, Option.bind_some, reduceIte, or_false, false_or, or_self, or_true, true_or, and_true, true_and, and_false, false_and, not_true_eq_false, not_false_eq_true]
  · unfold fX8_erase
    simp (disch := omega) only [Nat.zero_add, qa, qb, qbb, qc, qd, qe, qf, qg, Option.bind_some, reduceIte, or_false, false_or, or_self, or_true, true_or, and_true, true_and, and_false, false_and, not_true_eq_false, not_false_eq_true]
/-- what was seen: of whom, how long, of which fact, known or not -/
def relS (nf nm z : Nat) (S : Nat → Nat × Nat × Nat × Nat) (a1 a2 a3 a4 b1 b2 b3 b4 : Nat → Int32) : Prop := z ≤ 6 ∧ ∀ j, j < z → ((S j).1 < nm ∧ 1 ≤ (S j).2.1 ∧ (S j).2.1 ≤ 6 ∧ (S j).2.2.1 < nf ∧ (S j).2.2.2 < 2) ∧ (a1 j = nI (S j).1 ∧ a2 j = nI (S j).2.1 ∧ a3 j = nI (S j).2.2.1 ∧ a4 j = nI (S j).2.2.2) ∧ b1 j = nI (S j).1 ∧ b2 j = nI (S j).2.1 ∧ b3 j = nI (S j).2.2.1 ∧ b4 j = nI (S j).2.2.2
/-- the call seen -/
theorem pu_seen (n : Nat) {nf nm z : Nat} {S : Nat → Nat × Nat × Nat × Nat} {a1 a2 a3 a4 b1 b2 b3 b4 row : Nat → Int32} (hnf : nf ≤ 12) (hnm : nm ≤ 4) (y1 : row 23 = nI nf) (y3 : row 16 = nI nm) (h : relS nf nm z S a1 a2 a3 a4 b1 b2 b3 b4) (v1 v2 v3 v4 : Int32) :
    ∃ (r : Int32) (z' : Nat) (S' : Nat → Nat × Nat × Nat × Nat) (c1 c2 c3 c4 d1 d2 d3 d4 : Nat → Int32), fX7_seen n (nI nm) (nI nf) a1 a2 a3 a4 (nI z) v1 v2 v3 v4 = some (r, c1, c2, c3, c4, nI z') ∧ fX8_seen n row b1 b2 b3 b4 (nI z) v1 v2 v3 v4 = some (r, d1, d2, d3, d4, nI z') ∧ relS nf nm z' S' c1 c2 c3 c4 d1 d2 d3 d4 := by
  obtain ⟨hz, hl⟩ := id h
  have i16 := fun v => pu_isMember n (row := row) (N := nm) (by omega) y3 v
  have i23 := fun v => pu_isFact n (row := row) (N := nf) (by omega) y1 v
  rcases inG_cas v1 (N := nm) (by omega) with g | ⟨m, hmm, rfl, g⟩
  · refine ⟨-nI 2, z, S, a1, a2, a3, a4, b1, b2, b3, b4, ?_, ?_, h⟩
    · unfold fX7_seen fX7_seen_22
      simp (disch := omega) only [Nat.zero_add, qa, qb, qbb, qc, qd, qe, qf, qg, Option.bind_some, reduceIte, or_false, false_or, or_self, or_true, true_or, and_true, true_and, and_false, false_and, not_true_eq_false, not_false_eq_true, g]
    · unfold fX8_seen fX8_seen_16
      simp (disch := omega) only [Nat.zero_add, qa, qb, qbb, qc, qd, qe, qf, qg, Option.bind_some, reduceIte, or_false, false_or, or_self, or_true, true_or, and_true, true_and, and_false, false_and, not_true_eq_false, not_false_eq_true, g, i16]
  · rcases inG_cas v3 (N := nf) (by omega) with g2 | ⟨f, hf, rfl, g2⟩
    · refine ⟨-nI 2, z, S, a1, a2, a3, a4, b1, b2, b3, b4, ?_, ?_, h⟩
      · unfold fX7_seen fX7_seen_22
        simp (disch := omega) only [Nat.zero_add, qa, qb, qbb, qc, qd, qe, qf, qg, Option.bind_some, reduceIte, or_false, false_or, or_self, or_true, true_or, and_true, true_and, and_false, false_and, not_true_eq_false, not_false_eq_true, g, g2]
      · unfold fX8_seen fX8_seen_16
        simp (disch := omega) only [Nat.zero_add, qa, qb, qbb, qc, qd, qe, qf, qg, Option.bind_some, reduceIte, or_false, false_or, or_self, or_true, true_or, and_true, true_and, and_false, false_and, not_true_eq_false, not_false_eq_true, g, g2, i16, i23]
    · rcases q_cas v2 (a := 1) (N := 7) (by omega) (by omega) with ⟨t, ht, ht2, rfl⟩ | e1 | ⟨e1, -, -, e2, e3⟩
      · rcases q_cas v4 (a := 0) (N := 2) (by omega) (by omega) with ⟨k, -, hk, rfl⟩ | f1 | ⟨f1, -, -, f2, f3⟩
        · by_cases d : z = 6
          · refine ⟨-nI 5, z, S, a1, a2, a3, a4, b1, b2, b3, b4, ?_, ?_, h⟩
            · unfold fX7_seen
              simp (disch := omega) only [Nat.zero_add, qa, qb, qbb, qc, qd, qe, qf, qg, Option.bind_some, reduceIte, or_false, false_or, or_self, or_true, true_or, and_true, true_and, and_false, false_and, not_true_eq_false, not_false_eq_true, g, g2]
            · unfold fX8_seen
              simp (disch := omega) only [Nat.zero_add, qa, qb, qbb, qc, qd, qe, qf, qg, Option.bind_some, reduceIte, or_false, false_or, or_self, or_true, true_or, and_true, true_and, and_false, false_and, not_true_eq_false, not_false_eq_true, g, g2, i16, i23]
          · refine ⟨nI (z + 1), z + 1, va_up S z (m, t, f, k), upd a1 z (nI m), upd a2 z (nI t), upd a3 z (nI f), upd a4 z (nI k), upd b1 z (nI m), upd b2 z (nI t), upd b3 z (nI f), upd b4 z (nI k), ?_, ?_, by omega, fun j hj => ?_⟩
            · unfold fX7_seen fX4_add fX4_add_60
              simp (disch := omega) only [Nat.zero_add, qa, qb, qbb, qc, qd, qe, qf, qg, Option.bind_some, reduceIte, or_false, false_or, or_self, or_true, true_or, and_true, true_and, and_false, false_and, not_true_eq_false, not_false_eq_true, g, g2]
            · unfold fX8_seen
              simp (disch := omega) only [Nat.zero_add, qa, qb, qbb, qc, qd, qe, qf, qg, Option.bind_some, reduceIte, or_false, false_or, or_self, or_true, true_or, and_true, true_and, and_false, false_and, not_true_eq_false, not_false_eq_true, g, g2, i16, i23]
            · by_cases w : j = z
              · subst w
                simp only [upd_at, up_at]
                exact ⟨⟨hmm, ht, by omega, hf, hk⟩, ⟨trivial, trivial, trivial, trivial⟩, trivial, trivial, trivial, trivial⟩
              · simp only [upd_ne _ _ w, up_ne _ _ w]
                exact hl j (by omega)
        · refine ⟨-nI 3, z, S, a1, a2, a3, a4, b1, b2, b3, b4, ?_, ?_, h⟩
          · unfold fX7_seen fX7_seen_47
            simp (disch := omega) only [Nat.zero_add, qa, qb, qbb, qc, qd, qe, qf, qg, Option.bind_some, reduceIte, or_false, false_or, or_self, or_true, true_or, and_true, true_and, and_false, false_and, not_true_eq_false, not_false_eq_true, g, g2, f1]
          · unfold fX8_seen fX8_seen_42
            simp (disch := omega) only [Nat.zero_add, qa, qb, qbb, qc, qd, qe, qf, qg, Option.bind_some, reduceIte, or_false, false_or, or_self, or_true, true_or, and_true, true_and, and_false, false_and, not_true_eq_false, not_false_eq_true, g, g2, i16, i23, f1]
        · refine ⟨-nI 3, z, S, a1, a2, a3, a4, b1, b2, b3, b4, ?_, ?_, h⟩
          · unfold fX7_seen fX7_seen_47
            simp (disch := omega) only [Nat.zero_add, qa, qb, qbb, qc, qd, qe, qf, qg, Option.bind_some, reduceIte, or_false, false_or, or_self, or_true, true_or, and_true, true_and, and_false, false_and, not_true_eq_false, not_false_eq_true, g, g2, f1, f2]
          · unfold fX8_seen fX8_seen_42
            simp (disch := omega) only [Nat.zero_add, qa, qb, qbb, qc, qd, qe, qf, qg, Option.bind_some, reduceIte, or_false, false_or, or_self, or_true, true_or, and_true, true_and, and_false, false_and, not_true_eq_false, not_false_eq_true, g, g2, i16, i23, f1, f3]
      · refine ⟨-nI 3, z, S, a1, a2, a3, a4, b1, b2, b3, b4, ?_, ?_, h⟩
        · unfold fX7_seen fX7_seen_47
          simp (disch := omega) only [Nat.zero_add, qa, qb, qbb, qc, qd, qe, qf, qg, Option.bind_some, reduceIte, or_false, false_or, or_self, or_true, true_or, and_true, true_and, and_false, false_and, not_true_eq_false, not_false_eq_true, g, g2, e1]
        · unfold fX8_seen fX8_seen_42
          simp (disch := omega) only [Nat.zero_add, qa, qb, qbb, qc, qd, qe, qf, qg, Option.bind_some, reduceIte, or_false, false_or, or_self, or_true, true_or, and_true, true_and, and_false, false_and, not_true_eq_false, not_false_eq_true, g, g2, i16, i23, e1]
      · refine ⟨-nI 3, z, S, a1, a2, a3, a4, b1, b2, b3, b4, ?_, ?_, h⟩
        · unfold fX7_seen fX7_seen_47
          simp (disch := omega) only [Nat.zero_add, qa, qb, qbb, qc, qd, qe, qf, qg, Option.bind_some, reduceIte, or_false, false_or, or_self, or_true, true_or, and_true, true_and, and_false, false_and, not_true_eq_false, not_false_eq_true, g, g2, e1, e3]
        · unfold fX8_seen fX8_seen_42
          simp (disch := omega) only [Nat.zero_add, qa, qb, qbb, qc, qd, qe, qf, qg, Option.bind_some, reduceIte, or_false, false_or, or_self, or_true, true_or, and_true, true_and, and_false, false_and, not_true_eq_false, not_false_eq_true, g, g2, i16, i23, e1, e3]
/-- the call forget -/
theorem pu_forget (n : Nat) {nf nm z : Nat} {S : Nat → Nat × Nat × Nat × Nat} {a1 a2 a3 a4 b1 b2 b3 b4 : Nat → Int32} (h : relS nf nm z S a1 a2 a3 a4 b1 b2 b3 b4) :
    fX7_forget n (nI z) = some (nI z, nI 0) ∧ fX8_forget n (nI z) = some (nI z, nI 0) ∧ relS nf nm 0 S a1 a2 a3 a4 b1 b2 b3 b4 := by
  refine ⟨?_, ?_, by omega, fun j hj => absurd hj (by omega)⟩
  · unfold fX7_forget
    simp (disch := omega) only [Nat.zero_add, qa, qb, qbb, qc, qd, qe, qf, qg, Option.bind_some, reduceIte, or_false, false_or, or_self, or_true, true_or, and_true, true_and, and_false, false_and, not_true_eq_false, not_false_eq_true]
  · unfold fX8_forget
    simp (disch := omega) only [Nat.zero_add, qa, qb, qbb, qc, qd, qe, qf, qg, Option.bind_some, reduceIte, or_false, false_or, or_self, or_true, true_or, and_true, true_and, and_false, false_and, not_true_eq_false, not_false_eq_true]
