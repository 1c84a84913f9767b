/-- the call salt -/
theorem pu_salt {n nf nm nl u c : Nat} {le al kd : Nat → Nat} {mb lc ba mi : Int32} {kn ki on ha : Nat → Int32} {T : rmT} {A K : paT} {row : Nat → Int32} (hn : 400 ≤ n) (h : relW nf nm nl le al kd (mb, lc, ba, mi, kn, ki, on, ha) T u A c K row) (e k1 k2 k3 k4 : Nat → Nat) (xp : Nat → Option Nat) (v1 : Int32) :
    ∃ (r : Int32) (A' : paT) (e' k1' k2' k3' k4' : Nat → Nat) (xp' : Nat → Option Nat) (u' : Nat) (ba' : Int32) (ha' row' : Nat → Int32),
      fX7_salt n lc on mb mi kn ki A.1 A.2.1 A.2.2.1 A.2.2.2.1 A.2.2.2.2.1 A.2.2.2.2.2.1 A.2.2.2.2.2.2.1 A.2.2.2.2.2.2.2 e k1 k2 k3 k4 xp (nI u) ba ha v1 = some (r, A'.1, A'.2.1, A'.2.2.1, A'.2.2.2.1, A'.2.2.2.2.1, A'.2.2.2.2.2.1, A'.2.2.2.2.2.2.1, A'.2.2.2.2.2.2.2, e', k1', k2', k3', k4', xp', nI u', ba', ha') ∧
      fX8_salt n (nI u) row v1 = some (r, nI u', row') ∧ relW nf nm nl le al kd (mb, lc, ba', mi, kn, ki, on, ha') T u' A' c K row' := by
  obtain ⟨o, hnm, hnl, ⟨zb, zm, s, ⟨hb, hm, s1, s2, s3⟩, ⟨x1, x2, x3, x4, x5, x6, x7, x8⟩, hy⟩, hrest⟩ := id h
  rw [relY0_eq] at hy
  obtain ⟨⟨y1, y2⟩, ⟨y3, y4, y5, y6, y7, y8⟩, y9, y10⟩ := id hy
  dsimp only at x1 x2 x3 x4 x5 x6 x7 x8
  subst x1 x2 x3 x4
  have i17 := fun v => pu_isLeech n (row := row) (N := nl) (by omega) y4 v
  rcases inG_cas v1 (N := nl) (by omega) with g | ⟨l, hl, rfl, g⟩
  · refine ⟨-nI 2, A, e, k1, k2, k3, k4, xp, u, nI zb, ha, row, ?_, ?_, h⟩
    · unfold fX7_salt
      simp (disch := omega) only [Nat.zero_add, qa, qb, qbb, qc, qd, qe, qf, qg, Option.bind_some, reduceIte, or_false, false_or, or_self, or_true, true_or, and_true, true_and, and_false, false_and, not_true_eq_false, not_false_eq_true, g]
    · unfold fX8_salt
      simp (disch := omega) only [Nat.zero_add, qa, qb, qbb, qc, qd, qe, qf, qg, Option.bind_some, reduceIte, or_false, false_or, or_self, or_true, true_or, and_true, true_and, and_false, false_and, not_true_eq_false, not_false_eq_true, g, i17]
  · have q1 := x8 l hl
    have q2 := y8 l hl
    have q3 := s3 l hl
    have q5 := x6 l hl
    have q6 := y6 l hl
    by_cases d : s.2.2 l = 0
    · obtain ⟨A', e', k1', k2', k3', k4', xp', u', row', E1, E2, hr, hW⟩ := pu_rem hn h e k1 k2 k3 k4 xp
      dsimp only at E1
      refine ⟨nI (zb ||| s.1 l), A', e', k1', k2', k3', k4', xp', u', nI (zb ||| s.1 l), upd ha l (nI 0), upd (upd row' 14 (nI (zb ||| s.1 l))) (9 + l) (nI 0), ?_, ?_, ?_⟩
      · unfold fX7_salt
        simp (disch := omega) only [Nat.zero_add, qa, qb, qbb, qc, qd, qe, qf, qg, Option.bind_some, reduceIte, or_false, false_or, or_self, or_true, true_or, and_true, true_and, and_false, false_and, not_true_eq_false, not_false_eq_true, g, q1, q5, E1]
      · have q4 := (hr (9 + l) (by omega)).trans q6
        have q7 := (hr 14 (by omega)).trans y9
        unfold fX8_salt
        simp (disch := omega) only [Nat.zero_add, qa, qb, qbb, qc, qd, qe, qf, qg, Option.bind_some, reduceIte, or_false, false_or, or_self, or_true, true_or, and_true, true_and, and_false, false_and, not_true_eq_false, not_false_eq_true, g, i17, q2, E2, q4, q7]
      · have ho : zb ||| s.1 l < 4096 := Nat.or_lt_two_pow (n := 12) hb (s1 l hl)
        refine relW_now hW ⟨zb ||| s.1 l, zm, (updN s.1 l 0, s.2.1, s.2.2), ⟨ho, hm, fun j hj => ?_, s2, s3⟩, ⟨rfl, rfl, rfl, rfl, x5, relF_upd x6 l 0, x7, x8⟩, ?_⟩ (fun q hq _ => by rw [upd_ne _ _ (by omega), upd_ne _ _ (by omega)])
        · show updN s.1 l 0 j < 4096
          by_cases f : j = l
          · rw [f, updN_at]; omega
          · rw [updN_ne _ _ f]; exact s1 j hj
        · rw [relY0_eq]
          exact relY0_sa o.1 hnm hnl (relY0_row o.1 hnm hnl hr hy) hl
    · refine ⟨-nI 4, A, e, k1, k2, k3, k4, xp, u, nI zb, ha, row, ?_, ?_, h⟩
      · unfold fX7_salt
        simp (disch := omega) only [Nat.zero_add, qa, qb, qbb, qc, qd, qe, qf, qg, Option.bind_some, reduceIte, or_false, false_or, or_self, or_true, true_or, and_true, true_and, and_false, false_and, not_true_eq_false, not_false_eq_true, g, q1]
      · unfold fX8_salt
        simp (disch := omega) only [Nat.zero_add, qa, qb, qbb, qc, qd, qe, qf, qg, Option.bind_some, reduceIte, or_false, false_or, or_self, or_true, true_or, and_true, true_and, and_false, false_and, not_true_eq_false, not_false_eq_true, g, i17, q2]
theorem al_lt {nf : Nat} {le al : Nat → Nat} (o : okF nf le al) {g : Nat} (hg : g < nf) : al g < 2 ^ nf := Nat.lt_of_lt_of_le (o.2 g hg).2.1 (Nat.pow_le_pow_right (by decide) hg)
theorem le_lt {nf : Nat} {le al : Nat → Nat} (o : okF nf le al) {g : Nat} (hg : g < nf) : le g < 2 ^ nf := Nat.lt_of_lt_of_le (o.2 g hg).1 (Nat.pow_le_pow_right (by decide) (Nat.le_of_lt hg))
theorem or_dif {k a : Nat} (hk : k < 4096) (ha : a < 4096) : k ||| difB a k = k ||| a := by
  have h1 := difB_le a k
  apply set_ext (Nat.or_lt_two_pow (n := 12) hk (Nat.lt_of_le_of_lt h1 ha)) (Nat.or_lt_two_pow (n := 12) hk ha)
  intro i hi
  rw [Nat.testBit_or, Nat.testBit_or, difB_bit (by omega)]
  cases k.testBit i <;> cases a.testBit i <;> rfl
/-- the call read -/
theorem pu_read {n nf nm nl u c : Nat} {le al kd : Nat → Nat} {mb lc ba mi : Int32} {kn ki on ha fal : Nat → Int32} {T : rmT} {A K : paT} {row : Nat → Int32} (hn : 400 ≤ n) (hfa : ∀ g, g < nf → fal g = nI (al g)) (h : relW nf nm nl le al kd (mb, lc, ba, mi, kn, ki, on, ha) T u A c K row) (e k1 k2 k3 k4 : Nat → Nat) (xp : Nat → Option Nat) (v1 v2 : Int32) :
    ∃ (r : Int32) (A' : paT) (e' k1' k2' k3' k4' : Nat → Nat) (xp' : Nat → Option Nat) (u' : Nat) (kn' row' : Nat → Int32),
      fX7_read n mb (nI nf) lc ba mi ki on ha fal A.1 A.2.1 A.2.2.1 A.2.2.2.1 A.2.2.2.2.1 A.2.2.2.2.2.1 A.2.2.2.2.2.2.1 A.2.2.2.2.2.2.2 e k1 k2 k3 k4 xp (nI u) kn v1 v2 = some (r, A'.1, A'.2.1, A'.2.2.1, A'.2.2.2.1, A'.2.2.2.2.1, A'.2.2.2.2.2.1, A'.2.2.2.2.2.2.1, A'.2.2.2.2.2.2.2, e', k1', k2', k3', k4', xp', nI u', kn') ∧
      fX8_read n (nI u) row v1 v2 = some (r, nI u', row') ∧ relW nf nm nl le al kd (mb, lc, ba, mi, kn', ki, on, ha) T u' A' c K row' := by
  obtain ⟨o, hnm, hnl, ⟨zb, zm, s, ⟨hb, hm, s1, s2, s3⟩, ⟨x1, x2, x3, x4, x5, x6, x7, x8⟩, hy⟩, hrest⟩ := id h
  rw [relY0_eq] at hy
  obtain ⟨⟨y1, y2⟩, ⟨y3, y4, y5, y6, y7, y8⟩, y9, y10⟩ := id hy
  dsimp only at x1 x2 x3 x4 x5 x6 x7 x8
  subst x1 x2 x3 x4
  have hnf := o.1
  have i16 := fun v => pu_isMember n (row := row) (N := nm) (by omega) y3 v
  have i23 := fun v => pu_isFact n (row := row) (N := nf) (by omega) y1 v
  rcases inG_cas v1 (N := nm) (by omega) with g | ⟨m, hmm, rfl, g⟩
  · refine ⟨-nI 2, A, e, k1, k2, k3, k4, xp, u, kn, row, ?_, ?_, h⟩
    · unfold fX7_read fX7_read_22
      simp (disch := omega) only [Nat.zero_add, qa, qb, qbb, qc, qd, qe, qf, qg, Option.bind_some, reduceIte, or_false, false_or, or_self, or_true, true_or, and_true, true_and, and_false, false_and, not_true_eq_false, not_false_eq_true, g]
    · unfold fX8_read fX8_read_16
      simp (disch := omega) only [Nat.zero_add, qa, qb, qbb, qc, qd, qe, qf, qg, Option.bind_some, reduceIte, or_false, false_or, or_self, or_true, true_or, and_true, true_and, and_false, false_and, not_true_eq_false, not_false_eq_true, g, i16]
  · rcases inG_cas v2 (N := nf) (by omega) with g2 | ⟨f, hf, rfl, g2⟩
    · refine ⟨-nI 2, A, e, k1, k2, k3, k4, xp, u, kn, row, ?_, ?_, h⟩
      · unfold fX7_read fX7_read_22
        simp (disch := omega) only [Nat.zero_add, qa, qb, qbb, qc, qd, qe, qf, qg, Option.bind_some, reduceIte, or_false, false_or, or_self, or_true, true_or, and_true, true_and, and_false, false_and, not_true_eq_false, not_false_eq_true, g, g2]
      · unfold fX8_read fX8_read_16
        simp (disch := omega) only [Nat.zero_add, qa, qb, qbb, qc, qd, qe, qf, qg, Option.bind_some, reduceIte, or_false, false_or, or_self, or_true, true_or, and_true, true_and, and_false, false_and, not_true_eq_false, not_false_eq_true, g, g2, i16, i23]
    · have q1 := x7 m hmm
      have q2 := y7 m hmm
      have q3 := s2 m hmm
      have q4 := lt4096 hnf q3
      have q5 := hfa f hf
      have q6 := (y2 f hf).2
      have q7 := al_lt o hf
      have q8 := lt4096 hnf q7
      have q9 := difB_le (al f) (s.2.1 m)
      by_cases d : (s.2.1 m).testBit f = true
      · refine ⟨-nI 4, A, e, k1, k2, k3, k4, xp, u, kn, row, ?_, ?_, h⟩
        · unfold fX7_read
          simp (disch := omega) only [Nat.zero_add, qa, qb, qbb, qc, qd, qe, qf, qg, Option.bind_some, reduceIte, or_false, false_or, or_self, or_true, true_or, and_true, true_and, and_false, false_and, not_true_eq_false, not_false_eq_true, g, g2, q1, d]
        · unfold fX8_read
          simp (disch := omega) only [Nat.zero_add, qa, qb, qbb, qc, qd, qe, qf, qg, Option.bind_some, reduceIte, or_false, false_or, or_self, or_true, true_or, and_true, true_and, and_false, false_and, not_true_eq_false, not_false_eq_true, g, g2, i16, i23, q2, d]
      · obtain ⟨A', e', k1', k2', k3', k4', xp', u', row', E1, E2, hr, hW⟩ := pu_rem hn h e k1 k2 k3 k4 xp
        dsimp only at E1
        refine ⟨nI (pc (difB (al f) (s.2.1 m))), A', e', k1', k2', k3', k4', xp', u', upd kn m (nI (s.2.1 m ||| al f)), upd row' m (nI (s.2.1 m ||| al f)), ?_, ?_, ?_⟩
        · unfold fX7_read
          simp (disch := omega) only [Nat.zero_add, qa, qb, qbb, qc, qd, qe, qf, qg, Option.bind_some, reduceIte, or_false, false_or, or_self, or_true, true_or, and_true, true_and, and_false, false_and, not_true_eq_false, not_false_eq_true, g, g2, q1, d, E1, q5, Bool.false_eq_true, if_false]
        · have q10 := (hr m (by omega)).trans q2
          have q11 := (hr (36 + f) (by omega)).trans q6
          have q12 := pu_bits (n := n) (by omega) (a := difB (al f) (s.2.1 m)) (by omega)
          unfold fX8_read
          simp (disch := omega) only [Nat.zero_add, qa, qb, qbb, qc, qd, qe, qf, qg, Option.bind_some, reduceIte, or_false, false_or, or_self, or_true, true_or, and_true, true_and, and_false, false_and, not_true_eq_false, not_false_eq_true, g, g2, i16, i23, q2, d, E2, q10, q11, q12, or_dif q4 q8, Bool.false_eq_true, if_false]
        · refine relW_now hW ⟨zb, zm, (s.1, updN s.2.1 m (s.2.1 m ||| al f), s.2.2), ⟨hb, hm, s1, fun j hj => ?_, s3⟩, ⟨rfl, rfl, rfl, rfl, x5, x6, relF_upd x7 m _, x8⟩, ?_⟩ (fun q hq _ => upd_ne _ _ (by omega))
          · show updN s.2.1 m _ j < 2 ^ nf
            by_cases w : j = m
            · rw [w, updN_at]; exact Nat.or_lt_two_pow q3 q7
            · rw [updN_ne _ _ w]; exact s2 j hj
          · rw [relY0_eq]
            exact relY0_kn hnf hnm hnl (relY0_row hnf hnm hnl hr hy) hmm
theorem okS_stN {al : Nat → Nat} {nf nm nl : Nat} {kd : Nat → Nat} (hnf : nf ≤ 12) : ∀ (t l : Nat) (s : rmS), l + t = nl → okS nf nm nl s → okS nf nm nl (stN al nf kd t l s) := by
  intro t
  induction t with
  | zero => intro l s _ h; exact h
  | succ t ih =>
    intro l s hl h
    exact ih (l + 1) _ (by omega) (okS_st1 hnf (by omega) h)
/-- the reference: a minute at b -/
theorem pu_step {n : Nat} (hn : 400 ≤ n) {le al kd : Nat → Nat} {nf nm nl b ba mi : Nat} (hb : b = 0 ∨ 48 ≤ b) (hb2 : b + 48 ≤ 624) (hnm : nm ≤ 4) (hnl : nl ≤ 5) {row : Nat → Int32} (x1 x2 x3 : Int32) {s : rmS} (hF : fctM row nf al) (hs : okS nf nm nl s) (hr : relY b nf nm nl le al kd row ba mi s) :
    ∃ row' y1 y2 y3, relY b nf nm nl le al kd row' ba (mi + 1) (stN al nf kd nl 0 s) ∧ fctM row' nf al ∧ okS nf nm nl (stN al nf kd nl 0 s) ∧ (∀ j, j < b ∨ b + 48 ≤ j → row' j = row j) ∧
      fX8_passes n row x1 x2 x3 (nI b) = some (row', y1, y2, y3) := by
  obtain ⟨⟨f1, f2⟩, hm, h14, h15⟩ := hr
  obtain ⟨row', y1, y2, y3, a1, a2, a3, E⟩ := pu_passes (n := n) (by omega) hb hb2 hnm hnl x1 x2 x3 hF hs hm h15
  have hnf := hF.1
  refine ⟨row', y1, y2, y3, ⟨⟨?_, fun g hg => ⟨?_, ?_⟩⟩, a1, ?_, a2⟩, ⟨hnf, ?_, fun g hg => ⟨?_, (hF.2.2 g hg).2⟩⟩, okS_stN hnf nl 0 s (by omega) hs, fun j hj => a3 j (by omega), E⟩
  · rw [a3 _ (by omega)]; exact f1
  · rw [a3 _ (by omega)]; exact (f2 g hg).1
  · rw [a3 _ (by omega)]; exact (f2 g hg).2
  · rw [a3 _ (by omega)]; exact h14
  · rw [a3 _ (by omega)]; exact hF.2.1
  · rw [a3 _ (by omega)]; exact (hF.2.2 g hg).1
theorem pu_min_loop {n : Nat} (hn : 400 ≤ n) {le al kd : Nat → Nat} {nf nm nl ba T : Nat} (hT : T < 2147483648) (hnm : nm ≤ 4) (hnl : nl ≤ 5) (u : Int32) : ∀ (t i q mi : Nat) (row : Nat → Int32) (x1 x2 x3 : Int32) (s : rmS), i + t = T → fctM row nf al → okS nf nm nl s → relY 0 nf nm nl le al kd row ba mi s →
    ∃ row' y1 y2 y3, relY 0 nf nm nl le al kd row' ba (mi + t) (stM al nf nl kd t s) ∧ okS nf nm nl (stM al nf nl kd t s) ∧ (∀ j, 48 ≤ j → row' j = row j) ∧
      fX8_minute_39 n (q + t + 1) u row x1 x2 x3 (nI T) (nI i) = some (nI (mi + t), u, row', y1, y2, y3) := by
  intro t
  induction t with
  | zero =>
    intro i q mi row x1 x2 x3 s hi hF hs hr
    refine ⟨row, x1, x2, x3, hr, hs, fun _ _ => rfl, ?_⟩
    have h15 := hr.2.2.2
    rw [Nat.zero_add] at h15
    unfold fX8_minute_39
    simp (disch := omega) only [Nat.zero_add, qa, qb, qbb, qc, qd, qe, qf, qg, Option.bind_some, reduceIte, or_false, false_or, or_self, or_true, true_or, and_true, true_and, and_false, false_and, not_true_eq_false, not_false_eq_true, h15]
    rfl
  | succ t ih =>
    intro i q mi row x1 x2 x3 s hi hF hs hr
    obtain ⟨r1, a1, a2, a3, b1, b2, b3, b4, E1⟩ := pu_step hn (b := 0) (Or.inl rfl) (by omega) hnm hnl x1 x2 x3 hF hs hr
    obtain ⟨r2, c1, c2, c3, d1, d2, d3, E2⟩ := ih (i + 1) q (mi + 1) r1 a1 a2 a3 _ (by omega) b2 b3 b1
    have e : mi + 1 + t = mi + (t + 1) := by omega
    rw [e] at d1 E2
    refine ⟨r2, c1, c2, c3, d1, d2, fun j hj => (d3 j hj).trans (b4 j (by omega)), ?_⟩
    have e2 : q + (t + 1) + 1 = (q + t + 1) + 1 := by omega
    rw [e2]
    unfold fX8_minute_39
    simp (disch := omega) only [Nat.zero_add, qa, qb, qbb, qc, qd, qe, qf, qg, Option.bind_some, reduceIte, or_false, false_or, or_self, or_true, true_or, and_true, true_and, and_false, false_and, not_true_eq_false, not_false_eq_true, E1]
    exact E2
theorem fctM_of {nf nm nl ba mi : Nat} {le al kd : Nat → Nat} {row : Nat → Int32} {s : rmS} (o : okF nf le al) (h : relY0 nf nm nl le al kd row ba mi s) : fctM row nf al :=
  ⟨o.1, h.1.1, fun g hg => ⟨(h.1.2 g hg).2, lt4096 o.1 (al_lt o hg)⟩⟩
/-- the call minute -/
theorem pu_minute {n nf nm nl u c : Nat} {le al kd : Nat → Nat} {mb lc ba mi : Int32} {kn ki on ha lw : Nat → Int32} {T : rmT} {A K : paT} {row : Nat → Int32} (hn : 400 ≤ n) (hC : fctC lw nf al) (h : relW nf nm nl le al kd (mb, lc, ba, mi, kn, ki, on, ha) T u A c K row) (e k1 k2 k3 k4 : Nat → Nat) (xp : Nat → Option Nat) (w1 w2 w3 v1 : Int32) :
    ∃ (r : Int32) (A' : paT) (e' k1' k2' k3' k4' : Nat → Nat) (xp' : Nat → Option Nat) (u' : Nat) (mi' : Int32) (ha' kn' on' row' : Nat → Int32) (w1' w2' w3' : Int32),
      fX7_minute n mb lc ba ki lw A.1 A.2.1 A.2.2.1 A.2.2.2.1 A.2.2.2.2.1 A.2.2.2.2.2.1 A.2.2.2.2.2.2.1 A.2.2.2.2.2.2.2 e k1 k2 k3 k4 xp (nI u) mi ha kn on v1 = some (r, A'.1, A'.2.1, A'.2.2.1, A'.2.2.2.1, A'.2.2.2.2.1, A'.2.2.2.2.2.1, A'.2.2.2.2.2.2.1, A'.2.2.2.2.2.2.2, e', k1', k2', k3', k4', xp', nI u', mi', ha', kn', on') ∧
      fX8_minute n (nI u) row w1 w2 w3 v1 = some (r, nI u', row', w1', w2', w3') ∧ relW nf nm nl le al kd (mb, lc, ba, mi', kn', ki, on', ha') T u' A' c K row' := by
  obtain ⟨o, hnm, hnl, ⟨zb, zm, s, ⟨hb, hm, hs⟩, ⟨x1, x2, x3, x4, hx⟩, hy⟩, hrest⟩ := id h
  rw [relY0_eq] at hy
  obtain ⟨⟨y1, y2⟩, ⟨y3, y4, y5, y6, y7, y8⟩, y9, y10⟩ := id hy
  dsimp only at x1 x2 x3 x4 hx
  subst x1 x2 x3 x4
  have hnf := o.1
  have out : (v1 < nI 1 ∨ ¬ v1 < nI 1 ∧ ¬ v1 < nI 13 ∧ nI 13 ≤ v1 ∧ ¬ v1 ≤ nI (13 - 1) ∧ nI (13 - 1) < v1) → fX7_minute n (nI nm) (nI nl) (nI zb) ki lw A.1 A.2.1 A.2.2.1 A.2.2.2.1 A.2.2.2.2.1 A.2.2.2.2.2.1 A.2.2.2.2.2.2.1 A.2.2.2.2.2.2.2 e k1 k2 k3 k4 xp (nI u) (nI zm) ha kn on v1 = some (-nI 3, A.1, A.2.1, A.2.2.1, A.2.2.2.1, A.2.2.2.2.1, A.2.2.2.2.2.1, A.2.2.2.2.2.2.1, A.2.2.2.2.2.2.2, e, k1, k2, k3, k4, xp, nI u, nI zm, ha, kn, on) ∧ fX8_minute n (nI u) row w1 w2 w3 v1 = some (-nI 3, nI u, row, w1, w2, w3) := by
    rintro (g | ⟨g, -, -, g2, g3⟩)
    · constructor
      · unfold fX7_minute fX7_minute_11
        simp (disch := omega) only [Nat.zero_add, qa, qb, qbb, qc, qd, qe, qf, qg, Option.bind_some, reduceIte, or_false, false_or, or_self, or_true, true_or, and_true, true_and, and_false, false_and, not_true_eq_false, not_false_eq_true, g]
      · unfold fX8_minute
        simp (disch := omega) only [Nat.zero_add, qa, qb, qbb, qc, qd, qe, qf, qg, Option.bind_some, reduceIte, or_false, false_or, or_self, or_true, true_or, and_true, true_and, and_false, false_and, not_true_eq_false, not_false_eq_true, g]
    · constructor
      · unfold fX7_minute fX7_minute_11
        simp (disch := omega) only [Nat.zero_add, qa, qb, qbb, qc, qd, qe, qf, qg, Option.bind_some, reduceIte, or_false, false_or, or_self, or_true, true_or, and_true, true_and, and_false, false_and, not_true_eq_false, not_false_eq_true, g, g2]
      · unfold fX8_minute
        simp (disch := omega) only [Nat.zero_add, qa, qb, qbb, qc, qd, qe, qf, qg, Option.bind_some, reduceIte, or_false, false_or, or_self, or_true, true_or, and_true, true_and, and_false, false_and, not_true_eq_false, not_false_eq_true, g, g3]
  rcases q_cas v1 (a := 1) (N := 13) (by omega) (by omega) with ⟨t, t1, t2, rfl⟩ | g
  · by_cases d : zm + t ≤ 999
    · obtain ⟨A', e', k1', k2', k3', k4', xp', u', row', E1, E2, hr, hW⟩ := pu_rem hn h e k1 k2 k3 k4 xp
      dsimp only at E1
      have hy' := relY0_row hnf hnm hnl hr hy
      have hF' := fctM_of o hy'
      rw [← relY0_eq] at hy'
      obtain ⟨r2, c1, c2, c3, d1, d2, d3, E3⟩ := pu_min_loop hn (T := t) (by omega) hnm hnl (nI u') t 0 (n - t - 1) zm row' w1 w2 w3 s (by omega) hF' hs hy'
      have en : n - t - 1 + t + 1 = n := by omega
      rw [en] at E3
      obtain ⟨ha', kn', on', R, S, E4⟩ := pu_pass (n := n) (mi := zm) (T := t) (by omega) (by omega) (by omega) hnf hnm hnl hC hs hx
      refine ⟨nI (zm + t), A', e', k1', k2', k3', k4', xp', u', nI (zm + t), ha', kn', on', r2, c1, c2, c3, ?_, ?_, ?_⟩
      · unfold fX7_minute
        simp (disch := omega) only [Nat.zero_add, qa, qb, qbb, qc, qd, qe, qf, qg, Option.bind_some, reduceIte, or_false, false_or, or_self, or_true, true_or, and_true, true_and, and_false, false_and, not_true_eq_false, not_false_eq_true, E1, E4]
      · have q1 := (hr 15 (by omega)).trans y10
        unfold fX8_minute
        simp (disch := omega) only [Nat.zero_add, qa, qb, qbb, qc, qd, qe, qf, qg, Option.bind_some, reduceIte, or_false, false_or, or_self, or_true, true_or, and_true, true_and, and_false, false_and, not_true_eq_false, not_false_eq_true, y10, E2]
        exact E3
      · exact relW_now hW ⟨zb, zm + t, _, ⟨hb, d, d2⟩, ⟨rfl, rfl, rfl, rfl, R⟩, d1⟩ (fun q hq _ => d3 q hq)
    · refine ⟨-nI 5, A, e, k1, k2, k3, k4, xp, u, nI zm, ha, kn, on, row, w1, w2, w3, ?_, ?_, h⟩
      · unfold fX7_minute
        simp (disch := omega) only [Nat.zero_add, qa, qb, qbb, qc, qd, qe, qf, qg, Option.bind_some, reduceIte, or_false, false_or, or_self, or_true, true_or, and_true, true_and, and_false, false_and, not_true_eq_false, not_false_eq_true]
      · unfold fX8_minute
        simp (disch := omega) only [Nat.zero_add, qa, qb, qbb, qc, qd, qe, qf, qg, Option.bind_some, reduceIte, or_false, false_or, or_self, or_true, true_or, and_true, true_and, and_false, false_and, not_true_eq_false, not_false_eq_true, y10]
  · exact ⟨_, A, e, k1, k2, k3, k4, xp, u, nI zm, ha, kn, on, row, w1, w2, w3, (out g).1, (out g).2, h⟩
