/-- the first of t from i that p holds of, one more; 0 if none -/
def mfN (p : Nat → Bool) : Nat → Nat → Nat
  | 0, _ => 0
  | t + 1, i => if p i = true then i + 1 else mfN p t (i + 1)
theorem mfN_s (p : Nat → Bool) (t i : Nat) : mfN p (t + 1) i = if p i = true then i + 1 else mfN p t (i + 1) := rfl
theorem mfN_add (p : Nat → Bool) (t : Nat) : ∀ (s i : Nat), mfN p (s + t) i = if mfN p s i = 0 then mfN p t (i + s) else mfN p s i := by
  intro s
  induction s with
  | zero => intro i; rw [Nat.zero_add, Nat.add_zero]; exact (if_pos rfl).symm
  | succ s ih =>
    intro i
    rw [show s + 1 + t = (s + t) + 1 by omega, mfN_s, mfN_s]
    by_cases c : p i = true
    · rw [if_pos c, if_pos c, if_neg (by omega)]
    · rw [if_neg c, if_neg c, ih (i + 1), show i + 1 + s = i + (s + 1) by omega]
theorem mfN_le (p : Nat → Bool) : ∀ (t i : Nat), mfN p t i ≤ i + t := by
  intro t
  induction t with
  | zero => intro i; exact Nat.zero_le _
  | succ t ih =>
    intro i
    rw [mfN_s]
    split
    · omega
    · have := ih (i + 1); omega
theorem mfN_shift {p p' : Nat → Bool} {c P : Nat} (h : ∀ r, r < P → p (c + r) = p' r) : ∀ (t i : Nat), i + t = P → mfN p t (c + i) = if mfN p' t i = 0 then 0 else c + mfN p' t i := by
  intro t
  induction t with
  | zero => intro i _; exact (if_pos rfl).symm
  | succ t ih =>
    intro i hi
    rw [mfN_s, mfN_s, h i (by omega)]
    by_cases d : p' i = true
    · rw [if_pos d, if_pos d, if_neg (by omega)]; omega
    · rw [if_neg d, if_neg d, show c + i + 1 = c + (i + 1) by omega, ih (i + 1) (by omega)]
theorem ch_congr (al : Nat → Nat) (nf : Nat) {m m' : Nat} : ∀ (e k : Nat), (∀ j, j < e → m / 5 ^ j % 5 = m' / 5 ^ j % 5) → ch al nf e m k = ch al nf e m' k := by
  intro e
  induction e with
  | zero => intro k _; rfl
  | succ e ih =>
    intro k h
    show ch al nf e m (KA al nf (m / 5 ^ e % 5) 1 k) = ch al nf e m' (KA al nf (m' / 5 ^ e % 5) 1 k)
    rw [h e (by omega)]
    exact ih _ (fun j hj => h j (by omega))
theorem tdN_congr {m m' : Nat} : ∀ (e : Nat), (∀ j, j < e → m / 5 ^ j % 5 = m' / 5 ^ j % 5) → tdN e m = tdN e m' := by
  intro e
  induction e with
  | zero => intro _; rfl
  | succ e ih =>
    intro h
    show (m / 5 ^ e % 5 + 1) * fig (e + 1) + tdN e m = (m' / 5 ^ e % 5 + 1) * fig (e + 1) + tdN e m'
    rw [h e (by omega), ih (fun j hj => h j (by omega))]
theorem digs {e a r : Nat} (he : e < 3) (ha : a < 5) (hr : r < 5 ^ e) : (a * 5 ^ e + r) / 5 ^ e % 5 = a ∧ ∀ j, j < e → (a * 5 ^ e + r) / 5 ^ j % 5 = r / 5 ^ j % 5 := by
  rcases (show e = 0 ∨ e = 1 ∨ e = 2 by omega) with rfl | rfl | rfl
  · simp only [Nat.reducePow] at hr ⊢
    exact ⟨by omega, fun j hj => absurd hj (Nat.not_lt_zero j)⟩
  · simp only [Nat.reducePow] at hr ⊢
    refine ⟨by omega, fun j hj => ?_⟩
    have : j = 0 := by omega
    subst this
    simp only [Nat.reducePow]
    omega
  · simp only [Nat.reducePow] at hr ⊢
    refine ⟨by omega, fun j hj => ?_⟩
    rcases (show j = 0 ∨ j = 1 by omega) with rfl | rfl
    · simp only [Nat.reducePow]
      omega
    · simp only [Nat.reducePow]
      omega
/-- what the reference finds -/
def rfS (al : Nat → Nat) (nf lo ke e k : Nat) : Nat := mfN (fun m => isO lo ke (ch al nf e m k)) (5 ^ e) 0
theorem rk_blk {al : Nat → Nat} {nf lo ke e : Nat} (he : e < 3) (ih : ∀ k, rkS al nf lo ke e k = if rfS al nf lo ke e k = 0 then 0 else tdN e (rfS al nf lo ke e k - 1) + 1) (k : Nat) : ∀ (t a : Nat), a + t = 5 →
    scS (fun a => rkS al nf lo ke e (KA al nf a 1 k)) (fig (e + 1)) t a = if mfN (fun m => isO lo ke (ch al nf (e + 1) m k)) (t * 5 ^ e) (a * 5 ^ e) = 0 then 0 else tdN (e + 1) (mfN (fun m => isO lo ke (ch al nf (e + 1) m k)) (t * 5 ^ e) (a * 5 ^ e) - 1) + 1 := by
  intro t
  induction t with
  | zero => intro a _; rw [Nat.zero_mul]; exact (if_pos rfl).symm
  | succ t iht =>
    intro a ha
    have ha5 : a < 5 := by omega
    have hp : ∀ r, r < 5 ^ e → (fun m => isO lo ke (ch al nf (e + 1) m k)) (a * 5 ^ e + r) = (fun m => isO lo ke (ch al nf e m (KA al nf a 1 k))) r := by
      intro r hr
      obtain ⟨d1, d2⟩ := digs he ha5 hr
      show isO lo ke (ch al nf e (a * 5 ^ e + r) (KA al nf ((a * 5 ^ e + r) / 5 ^ e % 5) 1 k)) = _
      rw [d1, ch_congr al nf e _ d2]
    have hsh := mfN_shift (p := fun m => isO lo ke (ch al nf (e + 1) m k)) (p' := fun m => isO lo ke (ch al nf e m (KA al nf a 1 k))) (c := a * 5 ^ e) (P := 5 ^ e) hp (5 ^ e) 0 (by omega)
    rw [show a * 5 ^ e + 0 = a * 5 ^ e from rfl] at hsh
    have hle := mfN_le (fun m => isO lo ke (ch al nf e m (KA al nf a 1 k))) (5 ^ e) 0
    have ihk := ih (KA al nf a 1 k)
    have ihn := iht (a + 1) (by omega)
    have e1 : (t + 1) * 5 ^ e = 5 ^ e + t * 5 ^ e := by rw [Nat.add_mul, Nat.one_mul, Nat.add_comm]
    have e2 : a * 5 ^ e + 5 ^ e = (a + 1) * 5 ^ e := by rw [Nat.add_mul, Nat.one_mul]
    rw [scS_s, e1, mfN_add, e2, hsh]
    unfold rfS at ihk
    generalize mfN (fun m => isO lo ke (ch al nf e m (KA al nf a 1 k))) (5 ^ e) 0 = y at hle ihk
    rw [ihk]
    by_cases c : y = 0
    · rw [if_pos c, if_pos c, if_pos rfl, if_pos rfl]
      exact ihn
    · have hy : y - 1 < 5 ^ e := by omega
      obtain ⟨d1, d2⟩ := digs he ha5 hy
      have e3 : a * 5 ^ e + y - 1 = a * 5 ^ e + (y - 1) := by omega
      have e4 : tdN (e + 1) (a * 5 ^ e + (y - 1)) = (a + 1) * fig (e + 1) + tdN e (y - 1) := by
        show ((a * 5 ^ e + (y - 1)) / 5 ^ e % 5 + 1) * fig (e + 1) + tdN e (a * 5 ^ e + (y - 1)) = _
        rw [d1, tdN_congr e d2]
      have n1 : ¬ tdN e (y - 1) + 1 = 0 := by omega
      have n2 : ¬ a * 5 ^ e + y = 0 := by omega
      rw [if_neg c, if_neg c, if_neg n1, if_neg n2, if_neg n2, e3, e4, Nat.add_assoc]
theorem rk_eq (al : Nat → Nat) (nf lo ke : Nat) : ∀ (e k : Nat), e ≤ 3 → rkS al nf lo ke e k = if rfS al nf lo ke e k = 0 then 0 else tdN e (rfS al nf lo ke e k - 1) + 1 := by
  intro e
  induction e with
  | zero =>
    intro k _
    have h1 : rkS al nf lo ke 0 k = if isO lo ke k = true then 1 else 0 := rfl
    have h2 : rfS al nf lo ke 0 k = if isO lo ke k = true then 1 else 0 := rfl
    by_cases c : isO lo ke k = true
    · rw [if_pos c] at h1 h2
      rw [h1, h2]
      rfl
    · rw [if_neg c] at h1 h2
      rw [h1, h2]
      rfl
  | succ e ih =>
    intro k he
    have h := rk_blk (al := al) (nf := nf) (lo := lo) (ke := ke) (e := e) (by omega) (fun k => ih k (by omega)) k 5 0 rfl
    rw [Nat.zero_mul, show 5 * 5 ^ e = 5 ^ (e + 1) by rw [Nat.pow_succ, Nat.mul_comm]] at h
    exact h
theorem pu_o42 {n : Nat} (hn : 400 ≤ n) {row : Nat → Int32} {nf : Nat} {al : Nat → Nat} (hF : fctM row nf al) {lo ke e mm k : Nat} (hl : lo < 4096) (hke : ke < 4096) (he : e ≤ 3) (hmm : mm < 4) (hr : row mm = nI k) (hk : k < 4096) (r33 : Int32 → Int32 → Int32 → Int32 → Int32 → Int32 → Int32 → Int32 → Option (Int32 × Int32 × Int32 × Int32)) : ∀ (t i q : Nat) (x1 x2 x3 : Int32), i + t = 5 ^ e →
    ∃ y1 y2 y3, fX8_order_42 n r33 row (q + t + 1) x1 x2 x3 (nI mm) (nI lo) (nI ke) (nI (5 ^ e)) (nI e) (nI i) =
      if mfN (fun m => isO lo ke (ch al nf e m k)) t i = 0 then r33 y1 y2 y3 (nI mm) (nI lo) (nI ke) (nI (5 ^ (e + 1))) (nI (e + 1)) else some (nI (tdN e (mfN (fun m => isO lo ke (ch al nf e m k)) t i - 1)), y1, y2, y3) := by
  have hp2 : 5 ^ e ≤ 5 ^ 3 := Nat.pow_le_pow_right (by decide) (by omega)
  have hp3 : 5 ^ e * 5 = 5 ^ (e + 1) := by rw [Nat.pow_succ]
  intro t
  induction t with
  | zero =>
    intro i q x1 x2 x3 hi
    refine ⟨x1, x2, x3, ?_⟩
    have e0 : mfN (fun m => isO lo ke (ch al nf e m k)) 0 i = 0 := rfl
    rw [if_pos e0]
    unfold fX8_order_42
    simp (disch := omega) only [Nat.zero_add, qa, qb, qbb, qc, qd, qe, qf, qg, Option.bind_some, reduceIte, or_false, false_or, or_self, or_true, true_or, and_true, true_and, and_false, false_and, not_true_eq_false, not_false_eq_true, hp3]
  | succ t ih =>
    intro i q x1 x2 x3 hi
    obtain ⟨z1, z2, z3, E1⟩ := pu_sb hn hF hl hke (m := i) (by omega) he hmm hr hk x1 x2 x3
    have e' : q + (t + 1) + 1 = (q + t + 1) + 1 := by omega
    rw [e', mfN_s]
    by_cases c : isO lo ke (ch al nf e i k) = true
    · have E3 := pu_o75 n (row := row) (m := i) (by omega) he e 0 (n - e - 1) z1 z2 z3 (by omega)
      have en : n - e - 1 + e + 1 = n := by omega
      rw [en] at E3
      refine ⟨z1, z2, z3, ?_⟩
      rw [if_pos c] at E1
      rw [if_pos c, if_neg (Nat.succ_ne_zero i), Nat.add_sub_cancel]
      unfold fX8_order_42
      simp (disch := omega) only [Nat.zero_add, qa, qb, qbb, qc, qd, qe, qf, qg, Option.bind_some, reduceIte, or_false, false_or, or_self, or_true, true_or, and_true, true_and, and_false, false_and, not_true_eq_false, not_false_eq_true, E1]
      exact E3
    · obtain ⟨y1, y2, y3, E2⟩ := ih (i + 1) q z1 z2 z3 (by omega)
      refine ⟨y1, y2, y3, ?_⟩
      rw [if_neg c] at E1
      rw [if_neg c]
      unfold fX8_order_42
      simp (disch := omega) only [Nat.zero_add, qa, qb, qbb, qc, qd, qe, qf, qg, Option.bind_some, reduceIte, or_false, false_or, or_self, or_true, true_or, and_true, true_and, and_false, false_and, not_true_eq_false, not_false_eq_true, E1]
      exact E2
theorem pu_o33 {n : Nat} (hn : 400 ≤ n) {row : Nat → Int32} {nf : Nat} {al : Nat → Nat} (hF : fctM row nf al) {lo ke mm k : Nat} (hl : lo < 4096) (hke : ke < 4096) (hmm : mm < 4) (hr : row mm = nI k) (hk : k < 4096) : ∀ (t e q : Nat) (x1 x2 x3 : Int32), e + t = 4 →
    ∃ y1 y2 y3, fX8_order_33 n row (q + t + 1) x1 x2 x3 (nI mm) (nI lo) (nI ke) (nI (5 ^ e)) (nI e) = some (onI (orS al nf lo ke k t e), y1, y2, y3) := by
  intro t
  induction t with
  | zero =>
    intro e q x1 x2 x3 hi
    refine ⟨x1, x2, x3, ?_⟩
    unfold fX8_order_33
    simp (disch := omega) only [Nat.zero_add, qa, qb, qbb, qc, qd, qe, qf, qg, Option.bind_some, reduceIte, or_false, false_or, or_self, or_true, true_or, and_true, true_and, and_false, false_and, not_true_eq_false, not_false_eq_true]
    rfl
  | succ t ih =>
    intro e q x1 x2 x3 hi
    have hp2 : 5 ^ e ≤ 5 ^ 3 := Nat.pow_le_pow_right (by decide) (by omega)
    obtain ⟨z1, z2, z3, E1⟩ := pu_o42 hn hF hl hke (e := e) (by omega) hmm hr hk (fX8_order_33 n row (q + t + 1)) (5 ^ e) 0 (n - 5 ^ e - 1) x1 x2 x3 (by omega)
    have en : n - 5 ^ e - 1 + 5 ^ e + 1 = n := by omega
    rw [en] at E1
    have hrk := rk_eq al nf lo ke e k (by omega)
    have e' : q + (t + 1) + 1 = (q + t + 1) + 1 := by omega
    rw [e', orS_s]
    unfold rfS at hrk
    generalize mfN (fun m => isO lo ke (ch al nf e m k)) (5 ^ e) 0 = y at E1 hrk
    by_cases c : y = 0
    · rw [if_pos c] at E1 hrk
      obtain ⟨y1, y2, y3, E2⟩ := ih (e + 1) q z1 z2 z3 (by omega)
      refine ⟨y1, y2, y3, ?_⟩
      rw [if_pos hrk]
      unfold fX8_order_33
      simp (disch := omega) only [Nat.zero_add, qa, qb, qbb, qc, qd, qe, qf, qg, Option.bind_some, reduceIte, or_false, false_or, or_self, or_true, true_or, and_true, true_and, and_false, false_and, not_true_eq_false, not_false_eq_true]
      exact E1.trans E2
    · rw [if_neg c] at E1 hrk
      refine ⟨z1, z2, z3, ?_⟩
      rw [if_neg (by omega), hrk, onI_s]
      unfold fX8_order_33
      simp (disch := omega) only [Nat.zero_add, qa, qb, qbb, qc, qd, qe, qf, qg, Option.bind_some, reduceIte, or_false, false_or, or_self, or_true, true_or, and_true, true_and, and_false, false_and, not_true_eq_false, not_false_eq_true]
      exact E1
/-- the call order -/
theorem pu_order {n nf nm nl u c : Nat} {le al kd : Nat → Nat} {N T : rmT} {A K : paT} {row lw : Nat → Int32} (hn : 400 ≤ n) (hC : fctC lw nf al) (h : relW nf nm nl le al kd N T u A c K row) (R : rmT) (w1 w2 w3 v1 v2 v3 : Int32) :
    ∃ (r : Int32) (R' : rmT) (w1' w2' w3' : Int32),
      fX7_order n N.1 (nI nf) N.2.2.2.2.1 lw R.1 R.2.1 R.2.2.1 R.2.2.2.1 R.2.2.2.2.1 R.2.2.2.2.2.1 R.2.2.2.2.2.2.1 R.2.2.2.2.2.2.2 v1 v2 v3 = some (r, R'.1, R'.2.1, R'.2.2.1, R'.2.2.2.1, R'.2.2.2.2.1, R'.2.2.2.2.2.1, R'.2.2.2.2.2.2.1, R'.2.2.2.2.2.2.2) ∧ fX8_order n row w1 w2 w3 v1 v2 v3 = some (r, w1', w2', w3') := by
  have hF := fctM_W h
  obtain ⟨o, hnm, hnl, ⟨zb, zm, s, ⟨hb, hm, s1, s2, s3⟩, ⟨x1, x2, x3, x4, x5, x6, x7, x8⟩, hy⟩, hrest⟩ := id h
  rw [relY0_eq] at hy
  obtain ⟨⟨y1, y2⟩, ⟨y3, y4, y5, y6, y7, y8⟩, y9, y10⟩ := id hy
  have hnf := o.1
  have hp : 2 ^ nf ≤ 2 ^ 12 := Nat.pow_le_pow_right (by decide) hnf
  have i16 := fun v => pu_isMember n (row := row) (N := nm) (by omega) y3 v
  have i23 := fun v => pu_areFacts n (row := row) (N := nf) hnf y1 v
  have j23 := fun v => pu_hasBitsG n hnf v
  rcases inG_cas v1 (N := nm) (by omega) with g | ⟨m, hmm, rfl, g⟩
  · refine ⟨-nI 2, R, w1, w2, w3, ?_, ?_⟩
    · unfold fX7_order fX7_order_33
      simp (disch := omega) only [Nat.zero_add, qa, qb, qbb, qc, qd, qe, qf, qg, Option.bind_some, reduceIte, or_false, false_or, or_self, or_true, true_or, and_true, true_and, and_false, false_and, not_true_eq_false, not_false_eq_true, g, x1]
    · unfold fX8_order fX8_order_24
      simp (disch := omega) only [Nat.zero_add, qa, qb, qbb, qc, qd, qe, qf, qg, Option.bind_some, reduceIte, or_false, false_or, or_self, or_true, true_or, and_true, true_and, and_false, false_and, not_true_eq_false, not_false_eq_true, g, i16]
  · rcases inG_cas v2 (N := 2 ^ nf) (by omega) with g2 | ⟨lo, hlo, rfl, g2⟩
    · refine ⟨-nI 2, R, w1, w2, w3, ?_, ?_⟩
      · unfold fX7_order fX7_order_33
        simp (disch := omega) only [Nat.zero_add, qa, qb, qbb, qc, qd, qe, qf, qg, Option.bind_some, reduceIte, or_false, false_or, or_self, or_true, true_or, and_true, true_and, and_false, false_and, not_true_eq_false, not_false_eq_true, g, g2, j23, x1]
      · unfold fX8_order fX8_order_24
        simp (disch := omega) only [Nat.zero_add, qa, qb, qbb, qc, qd, qe, qf, qg, Option.bind_some, reduceIte, or_false, false_or, or_self, or_true, true_or, and_true, true_and, and_false, false_and, not_true_eq_false, not_false_eq_true, g, g2, i16, i23]
    · rcases inG_cas v3 (N := 2 ^ nf) (by omega) with g3 | ⟨ke, hke, rfl, g3⟩
      · refine ⟨-nI 2, R, w1, w2, w3, ?_, ?_⟩
        · unfold fX7_order fX7_order_33
          simp (disch := omega) only [Nat.zero_add, qa, qb, qbb, qc, qd, qe, qf, qg, Option.bind_some, reduceIte, or_false, false_or, or_self, or_true, true_or, and_true, true_and, and_false, false_and, not_true_eq_false, not_false_eq_true, g, g2, g3, j23, x1]
        · unfold fX8_order fX8_order_24
          simp (disch := omega) only [Nat.zero_add, qa, qb, qbb, qc, qd, qe, qf, qg, Option.bind_some, reduceIte, or_false, false_or, or_self, or_true, true_or, and_true, true_and, and_false, false_and, not_true_eq_false, not_false_eq_true, g, g2, g3, i16, i23]
      · have l1 := lt4096 hnf hlo
        have l2 := lt4096 hnf hke
        have l3 := lt4096 hnf (s2 m hmm)
        obtain ⟨R', E1⟩ := pu_or7 hn (kn := N.2.2.2.2.1) hnf hC l1 l2 (m := m) (by omega) (x7 m hmm) (s2 m hmm) (nI nm) (nI nf) 4 0 (n - 5) R (by omega)
        obtain ⟨y1', y2', y3', E2⟩ := pu_o33 hn hF l1 l2 (mm := m) (by omega) (y7 m hmm) l3 4 0 (n - 5) w1 w2 w3 (by omega)
        have e : n - 5 + 4 + 1 = n := by omega
        rw [e] at E1 E2
        refine ⟨onI (orS al nf lo ke (s.2.1 m) 4 0), R', y1', y2', y3', ?_, ?_⟩
        · unfold fX7_order
          simp (disch := omega) only [Nat.zero_add, qa, qb, qbb, qc, qd, qe, qf, qg, Option.bind_some, reduceIte, or_false, false_or, or_self, or_true, true_or, and_true, true_and, and_false, false_and, not_true_eq_false, not_false_eq_true, g, g2, g3, j23, x1]
          exact E1
        · unfold fX8_order
          simp (disch := omega) only [Nat.zero_add, qa, qb, qbb, qc, qd, qe, qf, qg, Option.bind_some, reduceIte, or_false, false_or, or_self, or_true, true_or, and_true, true_and, and_false, false_and, not_true_eq_false, not_false_eq_true, g, g2, g3, i16, i23]
          exact E2
