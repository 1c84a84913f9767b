/-! MOST: what a member knows hangs on the leeches on him alone -/
def agM (m nl : Nat) (s s' : rmS) : Prop := s.2.1 m = s'.2.1 m ∧ ∀ l, l < nl → (s.2.2 l = m + 1 ↔ s'.2.2 l = m + 1) ∧ (s.2.2 l = m + 1 → s.1 l = s'.1 l)
theorem st1_off {al : Nat → Nat} {nf : Nat} {kd : Nat → Nat} {l m : Nat} {s : rmS} (h : s.2.2 l ≠ m + 1) : (st1 al nf kd l s).2.1 m = s.2.1 m ∧ ∀ j, ((st1 al nf kd l s).2.2 j = m + 1 ↔ s.2.2 j = m + 1) ∧ (s.2.2 j = m + 1 → (st1 al nf kd l s).1 j = s.1 j) := by
  unfold st1
  by_cases c : s.2.2 l = 0
  · rw [if_pos c]
    exact ⟨rfl, fun j => ⟨Iff.rfl, fun _ => rfl⟩⟩
  · rw [if_neg c]
    refine ⟨updN_ne _ _ (by omega), fun j => ⟨?_, fun hj => updN_ne _ _ (fun e => h (by rw [← e]; exact hj))⟩⟩
    show (if rmK (kd l) ≤ pc _ then updN s.2.2 l 0 else s.2.2) j = m + 1 ↔ _
    split
    · by_cases e : j = l
      · subst e
        rw [updN_at]
        constructor
        · intro q; omega
        · intro q; exact absurd q h
      · rw [updN_ne _ _ e]
    · exact Iff.rfl
theorem agM_st1 {al : Nat → Nat} {nf nl : Nat} {kd : Nat → Nat} {l m : Nat} (hl : l < nl) {s s' : rmS} (h : agM m nl s s') : agM m nl (st1 al nf kd l s) (st1 al nf kd l s') := by
  obtain ⟨h1, h2⟩ := h
  obtain ⟨k1, k2⟩ := h2 l hl
  by_cases c : s.2.2 l = m + 1
  · have c' := k1.mp c
    have hH := k2 c
    have e : st1 al nf kd l s = (updN s.1 l (sk al nf (kd l) (s.1 l) (s.2.1 m)).1, updN s.2.1 m (sk al nf (kd l) (s.1 l) (s.2.1 m)).2, if rmK (kd l) ≤ pc (sk al nf (kd l) (s.1 l) (s.2.1 m)).1 then updN s.2.2 l 0 else s.2.2) := by
      unfold st1
      rw [if_neg (by omega), c, Nat.add_sub_cancel]
    have e' : st1 al nf kd l s' = (updN s'.1 l (sk al nf (kd l) (s.1 l) (s.2.1 m)).1, updN s'.2.1 m (sk al nf (kd l) (s.1 l) (s.2.1 m)).2, if rmK (kd l) ≤ pc (sk al nf (kd l) (s.1 l) (s.2.1 m)).1 then updN s'.2.2 l 0 else s'.2.2) := by
      unfold st1
      rw [if_neg (by omega), c', Nat.add_sub_cancel, ← hH, ← h1]
    rw [e, e']
    generalize sk al nf (kd l) (s.1 l) (s.2.1 m) = g
    refine ⟨?_, fun j hj => ?_⟩
    · show updN s.2.1 m g.2 m = updN s'.2.1 m g.2 m
      rw [updN_at, updN_at]
    · obtain ⟨j1, j2⟩ := h2 j hj
      constructor
      · show (if rmK (kd l) ≤ pc g.1 then updN s.2.2 l 0 else s.2.2) j = m + 1 ↔ (if rmK (kd l) ≤ pc g.1 then updN s'.2.2 l 0 else s'.2.2) j = m + 1
        by_cases d : rmK (kd l) ≤ pc g.1
        · rw [if_pos d, if_pos d]
          by_cases w : j = l
          · rw [w, updN_at, updN_at]
          · rw [updN_ne _ _ w, updN_ne _ _ w]; exact j1
        · rw [if_neg d, if_neg d]; exact j1
      · intro q
        show updN s.1 l g.1 j = updN s'.1 l g.1 j
        by_cases w : j = l
        · rw [w, updN_at, updN_at]
        · rw [updN_ne _ _ w, updN_ne _ _ w]
          apply j2
          have q' : (if rmK (kd l) ≤ pc g.1 then updN s.2.2 l 0 else s.2.2) j = m + 1 := q
          by_cases d : rmK (kd l) ≤ pc g.1
          · rw [if_pos d, updN_ne _ _ w] at q'; exact q'
          · rw [if_neg d] at q'; exact q'
  · have c' : s'.2.2 l ≠ m + 1 := fun q => c (k1.mpr q)
    obtain ⟨a1, a2⟩ := st1_off (al := al) (nf := nf) (kd := kd) c
    obtain ⟨b1, b2⟩ := st1_off (al := al) (nf := nf) (kd := kd) c'
    refine ⟨by rw [a1, b1]; exact h1, fun j hj => ?_⟩
    obtain ⟨j1, j2⟩ := h2 j hj
    refine ⟨(a2 j).1.trans (j1.trans (b2 j).1.symm), fun q => ?_⟩
    have q1 := (a2 j).1.mp q
    rw [(a2 j).2 q1, (b2 j).2 (j1.mp q1)]
    exact j2 q1
theorem agM_stN {al : Nat → Nat} {nf nl : Nat} {kd : Nat → Nat} {m : Nat} : ∀ (t l : Nat) (s s' : rmS), l + t = nl → agM m nl s s' → agM m nl (stN al nf kd t l s) (stN al nf kd t l s') := by
  intro t
  induction t with
  | zero => intro l s s' _ h; exact h
  | succ t ih => intro l s s' hl h; exact ih (l + 1) _ _ (by omega) (agM_st1 (by omega) h)
theorem agM_stM {al : Nat → Nat} {nf nl : Nat} {kd : Nat → Nat} {m : Nat} : ∀ (t : Nat) (s s' : rmS), agM m nl s s' → agM m nl (stM al nf nl kd t s) (stM al nf nl kd t s') := by
  intro t
  induction t with
  | zero => intro s s' h; exact h
  | succ t ih => intro s s' h; exact ih _ _ (agM_stN nl 0 s s' (by omega) h)
/-- a line of choices: 0 nobody, m + 1 member m -/
def asg (O D : Nat → Nat) : Nat → Nat := fun l => if O l = 0 then D l else O l
def putO (O : Nat → Nat) (m P : Nat) : Nat → Nat := fun l => if P.testBit l = true then m + 1 else O l
/-- the leeches that a line puts on m, of the first k -/
def PS (D : Nat → Nat) (m k : Nat) : Nat := colB (fun j => decide (D j = m + 1)) k
theorem colB_bit (p : Nat → Bool) : ∀ (k i : Nat), (colB p k).testBit i = (decide (i < k) && p i) := by
  intro k
  induction k with
  | zero => intro i; show (0 : Nat).testBit i = _; rw [Nat.zero_testBit]; simp
  | succ k ih =>
    intro i
    by_cases c : p k = true
    · rw [colB_1 c, Nat.testBit_or, ih, Nat.testBit_two_pow]
      by_cases e : k = i
      · subst e; simp [c]
      · have e2 : (i < k + 1) ↔ (i < k) := by omega
        simp [e, e2]
    · rw [colB_0 c, ih]
      by_cases e : k = i
      · subst e; simp [c]
      · have e2 : (i < k + 1) ↔ (i < k) := by omega
        simp [e2]
/-- what m knows in the end, if the leeches of P are put on him -/
def vA (al : Nat → Nat) (nf nl : Nat) (kd : Nat → Nat) (n : Nat) (s : rmS) (m P : Nat) : Nat := (stM al nf nl kd n (s.1, s.2.1, putO s.2.2 m P)).2.1 m
theorem ind_m {al : Nat → Nat} {nf nl : Nat} {kd : Nat → Nat} (n : Nat) (s : rmS) {D : Nat → Nat} (hD : ∀ l, l < nl → s.2.2 l ≠ 0 → D l = 0) (m : Nat) : (stM al nf nl kd n (s.1, s.2.1, asg s.2.2 D)).2.1 m = vA al nf nl kd n s m (PS D m nl) := by
  refine (agM_stM n (s.1, s.2.1, asg s.2.2 D) (s.1, s.2.1, putO s.2.2 m (PS D m nl)) ⟨rfl, fun l hl => ⟨?_, fun _ => rfl⟩⟩).1
  show asg s.2.2 D l = m + 1 ↔ putO s.2.2 m (PS D m nl) l = m + 1
  have hb : (PS D m nl).testBit l = decide (D l = m + 1) := by
    unfold PS
    rw [colB_bit, decide_eq_true hl, Bool.true_and]
  unfold asg putO
  rw [hb]
  by_cases c : s.2.2 l = 0
  · rw [if_pos c, c]
    by_cases d : D l = m + 1
    · rw [d]; simp
    · simp [d]
  · rw [if_neg c, hD l hl c]
    simp
theorem pu_putAll {n : Nat} (hn : 400 ≤ n) {on : Nat → Int32} {O : Nat → Nat} {nl m P : Nat} (hnl : nl ≤ 5) (hP : P < 4096) (h : relO nl on O) : ∃ on', fX3_putAll n (nI nl) on (nI P) (nI m) = some on' ∧ relO nl on' (putO O m P) := by
  have key : ∀ (t i k : Nat) (on : Nat → Int32), i + t = nl → (∀ l, l < nl → on l = onI (if l < i then putO O m P l else O l)) → ∃ on', fX3_putAll_2 n (nI nl) (k + t + 1) on (nI P) (nI m) (nI i) = some on' ∧ relO nl on' (putO O m P) := by
    intro t
    induction t with
    | zero =>
      intro i k on hi ho
      refine ⟨on, ?_, fun l hl => ?_⟩
      · unfold fX3_putAll_2
        simp (disch := omega) only [Nat.zero_add, qa, qb, qbb, qc, qd, qe, qf, qg, Option.bind_some, reduceIte, or_false, false_or, or_self, or_true, true_or, and_true, true_and, and_false, false_and, not_true_eq_false, not_false_eq_true]
      · have := ho l hl
        rw [if_pos (by omega)] at this
        exact this
    | succ t ih =>
      intro i k on hi ho
      have e : k + (t + 1) + 1 = (k + t + 1) + 1 := by omega
      by_cases c : P.testBit i = true
      · obtain ⟨on', E, h2⟩ := ih (i + 1) k (upd on i (nI m)) (by omega) (fun l hl => by
          by_cases w : l = i
          · rw [w, upd_at, if_pos (by omega)]
            unfold putO
            rw [if_pos c, onI_s]
          · rw [upd_ne _ _ w, ho l hl]
            by_cases d : l < i
            · rw [if_pos d, if_pos (by omega)]
            · rw [if_neg d, if_neg (by omega)])
        refine ⟨on', ?_, h2⟩
        rw [e]
        unfold fX3_putAll_2 fX3_putAll_25
        simp (disch := omega) only [Nat.zero_add, qa, qb, qbb, qc, qd, qe, qf, qg, Option.bind_some, reduceIte, or_false, false_or, or_self, or_true, true_or, and_true, true_and, and_false, false_and, not_true_eq_false, not_false_eq_true, c]
        exact E
      · obtain ⟨on', E, h2⟩ := ih (i + 1) k on (by omega) (fun l hl => by
          rw [ho l hl]
          by_cases w : l = i
          · rw [w, if_neg (by omega), if_pos (by omega)]
            unfold putO
            rw [if_neg c]
          · by_cases d : l < i
            · rw [if_pos d, if_pos (by omega)]
            · rw [if_neg d, if_neg (by omega)])
        refine ⟨on', ?_, h2⟩
        rw [e]
        unfold fX3_putAll_2 fX3_putAll_25
        simp (disch := omega) only [Nat.zero_add, qa, qb, qbb, qc, qd, qe, qf, qg, Option.bind_some, reduceIte, or_false, false_or, or_self, or_true, true_or, and_true, true_and, and_false, false_and, not_true_eq_false, not_false_eq_true, c, Bool.false_eq_true]
        exact E
  obtain ⟨on', E, h2⟩ := key nl 0 (n - nl - 1) on (by omega) (fun l hl => by rw [if_neg (Nat.not_lt_zero l)]; exact h l hl)
  have en : n - nl - 1 + nl + 1 = n := by omega
  rw [en] at E
  exact ⟨on', E, h2⟩
theorem okS_put {nf nm nl m P : Nat} {s : rmS} (h : okS nf nm nl s) (hm : m < nm) : okS nf nm nl (s.1, s.2.1, putO s.2.2 m P) := by
  refine ⟨h.1, h.2.1, fun l hl => ?_⟩
  show putO s.2.2 m P l ≤ nm
  unfold putO
  split
  · omega
  · exact h.2.2 l hl
/-- the class foretells what m knows, for each row of puts -/
theorem pu_fp_loop {n : Nat} (hn : 400 ≤ n) {lw : Nat → Int32} {al kd : Nat → Nat} {nf nm nl ba mi T m off : Nat} {s : rmS} {N : rmT} (hnf : nf ≤ 12) (hnm : nm ≤ 4) (hnl : nl ≤ 5) (hC : fctC lw nf al) (hs : okS nf nm nl s) (hX : relX nm nl kd N ba mi s) (hT : T ≤ 10) (hmi : mi ≤ 999) (hm : m < nm) (ho : off < 32) : ∀ (t P q : Nat) (R : rmT) (af : Nat → Nat → Int32), P + t = 32 →
    ∃ (R' : rmT) (af' : Nat → Nat → Int32), fX7_foretellPuts_12 n N.2.1 N.2.2.2.2.2.2.1 N.1 N.2.2.1 N.2.2.2.1 N.2.2.2.2.1 N.2.2.2.2.2.1 N.2.2.2.2.2.2.2 lw (q + t + 1) R.1 R.2.1 R.2.2.1 R.2.2.2.1 R.2.2.2.2.1 R.2.2.2.2.2.1 R.2.2.2.2.2.2.1 R.2.2.2.2.2.2.2 af (nI m) (nI T) (nI off) (nI P) = some (R'.1, R'.2.1, R'.2.2.1, R'.2.2.2.1, R'.2.2.2.2.1, R'.2.2.2.2.2.1, R'.2.2.2.2.2.2.1, R'.2.2.2.2.2.2.2, af') ∧
      (∀ P', P ≤ P' → P' < 32 → difB P' off = 0 → af' m P' = nI (vA al nf nl kd T s m P')) ∧ (∀ P', P' < P → af' m P' = af m P') ∧ ∀ m', m' ≠ m → af' m' = af m' := by
  intro t
  induction t with
  | zero =>
    intro P q R af hP
    refine ⟨R, af, ?_, fun P' h1 h2 => absurd h2 (by omega), fun _ _ => rfl, fun _ _ => rfl⟩
    unfold fX7_foretellPuts_12
    simp (disch := omega) only [Nat.zero_add, qa, qb, qbb, qc, qd, qe, qf, qg, Option.bind_some, reduceIte, or_false, false_or, or_self, or_true, true_or, and_true, true_and, and_false, false_and, not_true_eq_false, not_false_eq_true]
  | succ t ih =>
    intro P q R af hP
    have e : q + (t + 1) + 1 = (q + t + 1) + 1 := by omega
    have hd := difB_le P off
    rw [e]
    by_cases c : difB P off = 0
    · obtain ⟨z1, z2, z3, z4, y1, y2, y3, y4⟩ := relX_cpT R hnm hnl hX
      obtain ⟨on', E1, o1⟩ := pu_putAll hn (m := m) (P := P) hnl (by omega) y4
      obtain ⟨ha', kn', on2, Q, S, E2⟩ := pu_pass (n := n) (mi := mi) (T := T) (by omega) (by omega) (by omega) hnf hnm hnl hC (okS_put (P := P) hs hm) (⟨y1, y2, y3, o1⟩ : relC nm nl kd (cpT N R).2.2.2.2.2.1 (cpT N R).2.2.2.2.2.2.2 (cpT N R).2.2.2.2.1 on' (s.1, s.2.1, putO s.2.2 m P))
      have q1 := Q.2.2.1 m hm
      obtain ⟨R', af', E3, k1, k2, k3⟩ := ih (P + 1) q (nI nm, nI nl, nI ba, nI (mi + T), kn', (cpT N R).2.2.2.2.2.1, on2, ha') (va_up af m (upd (af m) P (nI (vA al nf nl kd T s m P)))) (by omega)
      obtain ⟨x1, x2, x3, x4, x5⟩ := hX
      refine ⟨R', af', ?_, fun P' h1 h2 h3 => ?_, fun P' h1 => ?_, fun m' h1 => ?_⟩
      · have q2 : kn' m = nI (vA al nf nl kd T s m P) := q1
        unfold cpT at E1 E2 E3
        dsimp only at E1 E2 E3
        unfold fX7_foretellPuts_12 fX3_setAs fX7_foretellPuts_82
        simp (disch := omega) only [Nat.zero_add, qa, qb, qbb, qc, qd, qe, qf, qg, Option.bind_some, reduceIte, or_false, false_or, or_self, or_true, true_or, and_true, true_and, and_false, false_and, not_true_eq_false, not_false_eq_true, x1, x2, x3, x4, c, E1, E2, q2] at E3 ⊢
        exact E3
      · by_cases w : P' = P
        · rw [w, k2 P (by omega), up_at, upd_at]
        · exact k1 P' (by omega) h2 h3
      · rw [k2 P' (by omega), up_at, upd_ne _ _ (by omega)]
      · rw [k3 m' h1, up_ne _ _ h1]
    · obtain ⟨R', af', E3, k1, k2, k3⟩ := ih (P + 1) q R af (by omega)
      refine ⟨R', af', ?_, fun P' h1 h2 h3 => ?_, fun P' h1 => k2 P' (by omega), k3⟩
      · unfold fX7_foretellPuts_12 fX7_foretellPuts_82
        simp (disch := omega) only [Nat.zero_add, qa, qb, qbb, qc, qd, qe, qf, qg, Option.bind_some, reduceIte, or_false, false_or, or_self, or_true, true_or, and_true, true_and, and_false, false_and, not_true_eq_false, not_false_eq_true, c]
        exact E3
      · by_cases w : P' = P
        · rw [w] at h3; exact absurd h3 c
        · exact k1 P' (by omega) h2 h3
