/-- what a line is worth: 0 if somebody knows too much, else one more than what is known by some -/
def vL (lim : Nat) (kn : Nat → Nat) (nm : Nat) : Nat := if alB (fun m => decide (pc (kn m) ≤ lim)) nm 0 = true then pc (orN kn nm) + 1 else 0
theorem orN_lt {K : Nat → Nat} {nm : Nat} (h : ∀ m, m < nm → K m < 4096) : ∀ i, i ≤ nm → orN K i < 4096 := by
  intro i
  induction i with
  | zero => intro _; exact (by decide : (0 : Nat) < 4096)
  | succ i ih => intro hi; exact Nat.or_lt_two_pow (n := 12) (ih (by omega)) (h i (by omega))
theorem vL_le (lim : Nat) (kn : Nat → Nat) (nm : Nat) : vL lim kn nm ≤ 13 := by
  unfold vL
  have := pc_le (orN kn nm)
  split <;> omega
theorem pu_judge {n : Nat} (hn : 400 ≤ n) {nm lim mo : Nat} {kn : Nat → Nat} {ch pu be : Nat → Int32} {P : Nat → Nat} {af : Nat → Nat → Int32} (hnm : nm ≤ 4) (hlim : lim ≤ 12) (hmo : mo ≤ 13) (hK : ∀ m, m < nm → kn m < 4096) (hpu : ∀ m, m < nm → pu m = nI (P m) ∧ P m < 32 ∧ af m (P m) = nI (kn m)) :
    fX2_judge n (nI nm) ch pu af (nI lim) (onI mo) be = some (onI (if mo < vL lim kn nm then vL lim kn nm else mo), if mo < vL lim kn nm then va_cpy ch be 0 0 5 else be) := by
  have key : ∀ (t i k : Nat), i + t = nm → fX2_judge_4 n (nI nm) ch pu af (nI lim) (k + t + 1) (onI mo) be (nI (orN kn i)) (nI i) = if alB (fun m => decide (pc (kn m) ≤ lim)) t i = true then some (onI (if mo < pc (orN kn nm) + 1 then pc (orN kn nm) + 1 else mo), if mo < pc (orN kn nm) + 1 then va_cpy ch be 0 0 5 else be) else some (onI mo, be) := by
    intro t
    induction t with
    | zero =>
      intro i k hi
      have : i = nm := by omega
      subst this
      have h1 := orN_lt hK i (Nat.le_refl _)
      have h2 := pc_le (orN kn i)
      have e0 : alB (fun m => decide (pc (kn m) ≤ lim)) 0 i = true := rfl
      rw [if_pos e0]
      unfold fX2_judge_4 fX2_judge_81
      by_cases c : mo < pc (orN kn i) + 1
      · rw [if_pos c, if_pos c, onI_s]
        have c2 : ¬ nI (pc (orN kn i)) ≤ onI mo := by
          by_cases d : mo = 0
          · rw [d]
            intro q
            have := Int32.le_iff_toInt_le.mp q
            rw [nI_toInt (by omega), show (onI 0).toInt = -1 from rfl] at this
            omega
          · rw [onI_ne0 d]
            exact nI_ge (by omega) (by omega)
        simp (disch := omega) only [Nat.zero_add, qa, qb, qbb, qc, qd, qe, qf, qg, Option.bind_some, reduceIte, or_false, false_or, or_self, or_true, true_or, and_true, true_and, and_false, false_and, not_true_eq_false, not_false_eq_true, c2]
      · rw [if_neg c, if_neg c]
        have d : mo ≠ 0 := by omega
        rw [onI_ne0 d]
        simp (disch := omega) only [Nat.zero_add, qa, qb, qbb, qc, qd, qe, qf, qg, Option.bind_some, reduceIte, or_false, false_or, or_self, or_true, true_or, and_true, true_and, and_false, false_and, not_true_eq_false, not_false_eq_true]
    | succ t ih =>
      intro i k hi
      have E := ih (i + 1) k (by omega)
      obtain ⟨p1, p2, p3⟩ := hpu i (by omega)
      have h1 := hK i (by omega)
      have h2 := pc_le (kn i)
      have e : k + (t + 1) + 1 = (k + t + 1) + 1 := by omega
      rw [e]
      by_cases c : pc (kn i) ≤ lim
      · rw [alB_1 (decide_eq_true c)]
        rw [← E]
        have o1 : orN kn (i + 1) = orN kn i ||| kn i := rfl
        rw [o1]
        rw [fX2_judge_4]
        simp (disch := omega) only [Nat.zero_add, qa, qb, qbb, qc, qd, qe, qf, qg, Option.bind_some, reduceIte, or_false, false_or, or_self, or_true, true_or, and_true, true_and, and_false, false_and, not_true_eq_false, not_false_eq_true, p1, p3]
      · rw [alB_0 (by simp; omega)]
        rw [if_neg (by decide)]
        unfold fX2_judge_4
        simp (disch := omega) only [Nat.zero_add, qa, qb, qbb, qc, qd, qe, qf, qg, Option.bind_some, reduceIte, or_false, false_or, or_self, or_true, true_or, and_true, true_and, and_false, false_and, not_true_eq_false, not_false_eq_true, p1, p3]
  have h := key nm 0 (n - nm - 1) (by omega)
  have en : n - nm - 1 + nm + 1 = n := by omega
  rw [en] at h
  have h' : fX2_judge n (nI nm) ch pu af (nI lim) (onI mo) be = if alB (fun m => decide (pc (kn m) ≤ lim)) nm 0 = true then some (onI (if mo < pc (orN kn nm) + 1 then pc (orN kn nm) + 1 else mo), if mo < pc (orN kn nm) + 1 then va_cpy ch be 0 0 5 else be) else some (onI mo, be) := h
  rw [h']
  unfold vL
  by_cases c : alB (fun m => decide (pc (kn m) ≤ lim)) nm 0 = true
  · rw [if_pos c, if_pos c]
  · rw [if_neg c, if_neg c, if_neg (Nat.not_lt_zero mo), if_neg (Nat.not_lt_zero mo)]
theorem q_lin {d : Nat} (h : d < 2147483648) : nI d - nI 1 = onI d := by
  by_cases c : d = 0
  · rw [c]; decide
  · rw [q_sub (by omega), onI_ne0 c]
/-- the reference lays a line -/
theorem pu_kl10 {n : Nat} {nf nm nl ba mi : Nat} {le al kd D H K O : Nat → Nat} {row0 line : Nat → Int32} (hnf : nf ≤ 12) (hnm : nm ≤ 4) (hnl : nl ≤ 5) (h17 : row0 17 = nI nl) (hO : ∀ l, l < nl → row0 (4 + l) = onI (O l)) (hO2 : ∀ l, l < nl → O l ≤ nm) (hD : ∀ l, l < nl → line l = nI (D l) ∧ D l ≤ nm) (v1 v2 x1 x2 x3 : Int32) : ∀ (t i q : Nat) (row : Nat → Int32), i + t = nl → (∀ j, j < 576 → row j = row0 j) → relY 576 nf nm nl le al kd row ba mi (H, K, fun l => if l < i then asg O D l else O l) →
    ∃ row', (∀ j, j < 576 → row' j = row0 j) ∧ relY 576 nf nm nl le al kd row' ba mi (H, K, asg O D) ∧ fX8_knownByLine_10 n line (q + t + 1) row x1 x2 x3 v1 v2 (nI i) = fX8_knownByLine_70 n line n row' x1 x2 x3 v1 v2 (nI 0) := by
  intro t
  induction t with
  | zero =>
    intro i q row hi h1 hY
    refine ⟨row, h1, ?_, ?_⟩
    · obtain ⟨f, ⟨y3, y4, y5, y6, y7, y8⟩, y9⟩ := hY
      refine ⟨f, ⟨y3, y4, y5, y6, y7, fun l hl => ?_⟩, y9⟩
      have := y8 l hl
      dsimp only at this
      rw [if_pos (by omega)] at this
      exact this
    · have e17 := (h1 17 (by omega)).trans h17
      unfold fX8_knownByLine_10
      simp (disch := omega) only [Nat.zero_add, qa, qb, qbb, qc, qd, qe, qf, qg, Option.bind_some, reduceIte, or_false, false_or, or_self, or_true, true_or, and_true, true_and, and_false, false_and, not_true_eq_false, not_false_eq_true, e17]
  | succ t ih =>
    intro i q row hi h1 hY
    have e17 := (h1 17 (by omega)).trans h17
    have e4 := (h1 (4 + i) (by omega)).trans (hO i (by omega))
    obtain ⟨d1, d2⟩ := hD i (by omega)
    have q580 : (580 : Int32) = nI 580 := rfl
    have dl := q_lin (show D i < 2147483648 by omega)
    have o2 := hO2 i (by omega)
    have e : q + (t + 1) + 1 = (q + t + 1) + 1 := by omega
    obtain ⟨row', k1, k2, E⟩ := ih (i + 1) q (upd row (580 + i) (onI (asg O D i))) (by omega) (fun j hj => (upd_ne _ _ (by omega)).trans (h1 j hj)) (by
      obtain ⟨⟨f1, f2⟩, ⟨y3, y4, y5, y6, y7, y8⟩, y9, y10⟩ := hY
      refine ⟨⟨?_, fun g hg => ⟨?_, ?_⟩⟩, ⟨?_, ?_, fun l hl => ⟨(y5 l hl).1, ?_⟩, fun l hl => ?_, fun m hm => ?_, fun l hl => ?_⟩, ?_, ?_⟩
      · rw [upd_ne _ _ (by omega)]; exact f1
      · rw [upd_ne _ _ (by omega)]; exact (f2 g hg).1
      · rw [upd_ne _ _ (by omega)]; exact (f2 g hg).2
      · rw [upd_ne _ _ (by omega)]; exact y3
      · rw [upd_ne _ _ (by omega)]; exact y4
      · rw [upd_ne _ _ (by omega)]; exact (y5 l hl).2
      · rw [upd_ne _ _ (by omega)]; exact y6 l hl
      · rw [upd_ne _ _ (by omega)]; exact y7 m hm
      · show _ = onI (if l < i + 1 then asg O D l else O l)
        by_cases w : l = i
        · rw [w, if_pos (by omega), q_at _ _ (by omega)]
        · rw [upd_ne _ _ (by omega), y8 l hl]
          by_cases v : l < i
          · rw [if_pos (by omega)]
            show onI (if l < i then asg O D l else O l) = _
            rw [if_pos v]
          · rw [if_neg (by omega)]
            show onI (if l < i then asg O D l else O l) = _
            rw [if_neg v]
      · rw [upd_ne _ _ (by omega)]; exact y9
      · rw [upd_ne _ _ (by omega)]; exact y10)
    refine ⟨row', k1, k2, ?_⟩
    rw [e, ← E, fX8_knownByLine_10]
    unfold fX8_knownByLine_61 asg
    by_cases c : O i = 0
    · rw [if_pos c]
      rw [c] at e4
      simp (disch := omega) only [Nat.zero_add, qa, qb, qbb, qc, qd, qe, qf, qg, Option.bind_some, reduceIte, or_false, false_or, or_self, or_true, true_or, and_true, true_and, and_false, false_and, not_true_eq_false, not_false_eq_true, e17, e4, d1, dl, q580]
    · rw [if_neg c]
      rw [onI_ne0 c] at e4 ⊢
      simp (disch := omega) only [Nat.zero_add, qa, qb, qbb, qc, qd, qe, qf, qg, Option.bind_some, reduceIte, or_false, false_or, or_self, or_true, true_or, and_true, true_and, and_false, false_and, not_true_eq_false, not_false_eq_true, e17, e4, q580]
theorem pu_kl70 {n : Nat} (hn : 400 ≤ n) {le al kd : Nat → Nat} {nf nm nl ba T : Nat} (hT : T < 2147483648) (hnm : nm ≤ 4) (hnl : nl ≤ 5) (line : Nat → Int32) (v1 : Int32) : ∀ (t i q mi : Nat) (row : Nat → Int32) (x1 x2 x3 : Int32) (s : rmS), i + t = T → fctM row nf al → okS nf nm nl s → relY 576 nf nm nl le al kd row ba mi s →
    ∃ row' y1 y2 y3, relY 576 nf nm nl le al kd row' ba (mi + t) (stM al nf nl kd t s) ∧ okS nf nm nl (stM al nf nl kd t s) ∧ (∀ j, j < 576 → row' j = row j) ∧
      fX8_knownByLine_70 n line (q + t + 1) row x1 x2 x3 v1 (nI T) (nI i) = fX8_knownByLine_93 n line n row' y1 y2 y3 v1 (nI 1) (nI 0) := by
  intro t
  induction t with
  | zero =>
    intro i q mi row x1 x2 x3 s hi hF hs hr
    refine ⟨row, x1, x2, x3, hr, hs, fun _ _ => rfl, ?_⟩
    unfold fX8_knownByLine_70
    simp (disch := omega) only [Nat.zero_add, qa, qb, qbb, qc, qd, qe, qf, qg, Option.bind_some, reduceIte, or_false, false_or, or_self, or_true, true_or, and_true, true_and, and_false, false_and, not_true_eq_false, not_false_eq_true]
  | succ t ih =>
    intro i q mi row x1 x2 x3 s hi hF hs hr
    obtain ⟨r1, a1, a2, a3, b1, b2, b3, b4, E1⟩ := pu_step hn (b := 576) (Or.inr (by omega)) (by omega) hnm hnl x1 x2 x3 hF hs hr
    obtain ⟨r2, c1, c2, c3, d1, d2, d3, E2⟩ := ih (i + 1) q (mi + 1) r1 a1 a2 a3 _ (by omega) b2 b3 b1
    have e : mi + 1 + t = mi + (t + 1) := by omega
    rw [e] at d1
    refine ⟨r2, c1, c2, c3, d1, d2, fun j hj => (d3 j hj).trans (b4 j (by omega)), ?_⟩
    have e2 : q + (t + 1) + 1 = (q + t + 1) + 1 := by omega
    rw [e2, ← E2, fX8_knownByLine_70]
    simp (disch := omega) only [Nat.zero_add, qa, qb, qbb, qc, qd, qe, qf, qg, Option.bind_some, reduceIte, or_false, false_or, or_self, or_true, true_or, and_true, true_and, and_false, false_and, not_true_eq_false, not_false_eq_true, E1]
theorem pu_kl93 {n : Nat} (hn : 400 ≤ n) {nm lim : Nat} {kn : Nat → Nat} {row line : Nat → Int32} (hnm : nm ≤ 4) (hlim : lim ≤ 12) (hK : ∀ m, m < nm → kn m < 4096) (h16 : row 16 = nI nm) (h592 : row (576 + 16) = nI nm) (hr : ∀ m, m < nm → row (576 + m) = nI (kn m)) (x1 x2 x3 : Int32) :
    fX8_knownByLine_93 n line n row x1 x2 x3 (nI lim) (nI 1) (nI 0) = some (onI (vL lim kn nm), row, x1, x2, x3) := by
  have zr : ∀ (t i k : Nat), i + t = nm → fX8_knownByLine_93 n line (k + t + 1) row x1 x2 x3 (nI lim) (nI 0) (nI i) = some (onI 0, row, x1, x2, x3) := by
    intro t
    induction t with
    | zero =>
      intro i k hi
      unfold fX8_knownByLine_93 fX8_knownByLine_157
      simp (disch := omega) only [Nat.zero_add, qa, qb, qbb, qc, qd, qe, qf, qg, Option.bind_some, reduceIte, or_false, false_or, or_self, or_true, true_or, and_true, true_and, and_false, false_and, not_true_eq_false, not_false_eq_true, h16]
    | succ t ih =>
      intro i k hi
      have E := ih (i + 1) k (by omega)
      have e : k + (t + 1) + 1 = (k + t + 1) + 1 := by omega
      rw [e]
      unfold fX8_knownByLine_93 fX8_knownByLine_131 fX8_knownByLine_132
      simp (disch := omega) only [Nat.zero_add, qa, qb, qbb, qc, qd, qe, qf, qg, Option.bind_some, reduceIte, or_false, false_or, or_self, or_true, true_or, and_true, true_and, and_false, false_and, not_true_eq_false, not_false_eq_true, h16]
      exact E
  have key : ∀ (t i k : Nat), i + t = nm → fX8_knownByLine_93 n line (k + t + 1) row x1 x2 x3 (nI lim) (nI 1) (nI i) = some (onI (if alB (fun m => decide (pc (kn m) ≤ lim)) t i = true then pc (orN kn nm) + 1 else 0), row, x1, x2, x3) := by
    intro t
    induction t with
    | zero =>
      intro i k hi
      have h1 := orN_lt hK nm (Nat.le_refl _)
      have kb := pu_knownBy (n := n) (by omega) (a := nm) (b := 576) hnm (by omega) h592 hr
      have hb := pu_bits (n := n) (by omega) (a := orN kn nm) (by omega)
      have e0 : alB (fun m => decide (pc (kn m) ≤ lim)) 0 i = true := rfl
      rw [if_pos e0, onI_s]
      unfold fX8_knownByLine_93 fX8_knownByLine_157
      simp (disch := omega) only [Nat.zero_add, qa, qb, qbb, qc, qd, qe, qf, qg, Option.bind_some, reduceIte, or_false, false_or, or_self, or_true, true_or, and_true, true_and, and_false, false_and, not_true_eq_false, not_false_eq_true, h16, kb, hb]
    | succ t ih =>
      intro i k hi
      have E := ih (i + 1) k (by omega)
      have Z := zr t (i + 1) k (by omega)
      have h1 := hK i (by omega)
      have h2 := pc_le (kn i)
      have h3 := hr i (by omega)
      have hb := pu_bits (n := n) (by omega) (a := kn i) (by omega)
      have e : k + (t + 1) + 1 = (k + t + 1) + 1 := by omega
      rw [e]
      unfold fX8_knownByLine_93 fX8_knownByLine_131 fX8_knownByLine_132
      by_cases c : pc (kn i) ≤ lim
      · rw [alB_1 (decide_eq_true c)]
        simp (disch := omega) only [Nat.zero_add, qa, qb, qbb, qc, qd, qe, qf, qg, Option.bind_some, reduceIte, or_false, false_or, or_self, or_true, true_or, and_true, true_and, and_false, false_and, not_true_eq_false, not_false_eq_true, h16, h3, hb]
        exact E
      · rw [alB_0 (by simp; omega), if_neg (show ¬ (false = true) by decide)]
        simp (disch := omega) only [Nat.zero_add, qa, qb, qbb, qc, qd, qe, qf, qg, Option.bind_some, reduceIte, or_false, false_or, or_self, or_true, true_or, and_true, true_and, and_false, false_and, not_true_eq_false, not_false_eq_true, h16, h3, hb]
        exact Z
  have h := key nm 0 (n - nm - 1) (by omega)
  have en : n - nm - 1 + nm + 1 = n := by omega
  rw [en] at h
  exact h
/-- the reference: what a line is worth -/
theorem pu_kbl {n : Nat} (hn : 400 ≤ n) {nf nm nl ba mi T lim : Nat} {le al kd D : Nat → Nat} {s : rmS} {row line : Nat → Int32} (o : okF nf le al) (hnm : nm ≤ 4) (hnl : nl ≤ 5) (hs : okS nf nm nl s) (hY : relY0 nf nm nl le al kd row ba mi s) (hT : T ≤ 10) (hlim : lim ≤ 12) (hD : ∀ l, l < nl → line l = nI (D l) ∧ D l ≤ nm) (x1 x2 x3 : Int32) :
    ∃ row' y1 y2 y3, (∀ j, j < 576 → row' j = row j) ∧ fX8_knownByLine n line row x1 x2 x3 (nI lim) (nI T) = some (onI (vL lim (fun m => (stM al nf nl kd T (s.1, s.2.1, asg s.2.2 D)).2.1 m) nm), row', y1, y2, y3) := by
  have hnf := o.1
  have hF := fctM_of o hY
  have h17 := hY.2.1.2.1
  have h16 := hY.2.1.1
  have hO := hY.2.1.2.2.2.2.2
  rw [← relY0_eq] at hY
  obtain ⟨r1, E1, h1, h2⟩ := pu_copyClub (n := n) (a := 0) (b := 576) (by omega) (by omega) (by omega) (by omega) row
  have hY1 := relY_move (b' := 576) hnf hnm hnl h1 hY
  obtain ⟨r2, k1, k2, E2⟩ := pu_kl10 (n := n) (row0 := row) (line := line) (D := D) (O := s.2.2) hnf hnm hnl h17 hO hs.2.2 hD (nI lim) (nI T) x1 x2 x3 nl 0 (n - nl - 1) r1 (by omega) (fun j hj => h2 j (by omega)) (by
    obtain ⟨f, ⟨y3, y4, y5, y6, y7, y8⟩, y9⟩ := hY1
    refine ⟨f, ⟨y3, y4, y5, y6, y7, fun l hl => ?_⟩, y9⟩
    show _ = onI (if l < 0 then asg s.2.2 D l else s.2.2 l)
    rw [if_neg (Nat.not_lt_zero l)]
    exact y8 l hl)
  have en : n - nl - 1 + nl + 1 = n := by omega
  rw [en] at E2
  have hs2 : okS nf nm nl (s.1, s.2.1, asg s.2.2 D) := ⟨hs.1, hs.2.1, fun l hl => by
    show asg s.2.2 D l ≤ nm
    unfold asg
    split
    · exact (hD l hl).2
    · exact hs.2.2 l hl⟩
  have hF2 : fctM r2 nf al := ⟨hnf, (k1 23 (by omega)).trans hF.2.1, fun g hg => ⟨(k1 (36 + g) (by omega)).trans (hF.2.2 g hg).1, (hF.2.2 g hg).2⟩⟩
  obtain ⟨r3, y1, y2, y3, d1, d2, d3, E3⟩ := pu_kl70 hn (T := T) (by omega) hnm hnl line (nI lim) T 0 (n - T - 1) mi r2 x1 x2 x3 _ (by omega) hF2 hs2 k2
  rw [show n - T - 1 + T + 1 = n by omega] at E3
  have E4 := pu_kl93 hn (line := line) (kn := fun m => (stM al nf nl kd T (s.1, s.2.1, asg s.2.2 D)).2.1 m) hnm hlim (fun m hm => lt4096 hnf (d2.2.1 m hm)) ((d3 16 (by omega)).trans ((k1 16 (by omega)).trans h16)) d1.2.1.1 (fun m hm => d1.2.1.2.2.2.2.1 m hm) y1 y2 y3
  refine ⟨r3, y1, y2, y3, fun j hj => (d3 j hj).trans (k1 j hj), ?_⟩
  unfold fX8_knownByLine
  simp (disch := omega) only [Nat.zero_add, qa, qb, qbb, qc, qd, qe, qf, qg, Option.bind_some, reduceIte, or_false, false_or, or_self, or_true, true_or, and_true, true_and, and_false, false_and, not_true_eq_false, not_false_eq_true, E1]
  exact E2.trans (E3.trans E4)
