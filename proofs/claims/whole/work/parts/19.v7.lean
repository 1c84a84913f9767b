/-! a leech alone with a member -/
def skI (al : Nat → Nat) (nf kd : Nat) : Nat → Nat × Nat → Nat × Nat
  | 0, p => p
  | t + 1, p => skI al nf kd t (sk al nf kd p.1 p.2)
/-- what he knows after t minutes of a leech of a kind, who knew k -/
def KA (al : Nat → Nat) (nf kd t k : Nat) : Nat := (skI al nf kd t (0, k)).2
theorem sk_le (al : Nat → Nat) (nf kd : Nat) {h k : Nat} (hh : h < 4096) (hk : k < 4096) : (sk al nf kd h k).1 < 4096 ∧ (sk al nf kd h k).2 ≤ k := skS_lt al nf kd (tkK kd) h k hh hk
theorem skI_le (al : Nat → Nat) (nf kd : Nat) : ∀ (t h k : Nat), h < 4096 → k < 4096 → (skI al nf kd t (h, k)).1 < 4096 ∧ (skI al nf kd t (h, k)).2 ≤ k := by
  intro t
  induction t with
  | zero => intro h k hh hk; exact ⟨hh, Nat.le_refl _⟩
  | succ t ih =>
    intro h k hh hk
    obtain ⟨a, b⟩ := sk_le al nf kd hh hk
    obtain ⟨c, d⟩ := ih (sk al nf kd h k).1 (sk al nf kd h k).2 a (by omega)
    exact ⟨c, Nat.le_trans d b⟩
theorem KA_le (al : Nat → Nat) (nf kd t : Nat) {k : Nat} (hk : k < 4096) : KA al nf kd t k ≤ k := (skI_le al nf kd t 0 k (by omega) hk).2
theorem sk_full {al : Nat → Nat} {nf kd h k : Nat} (c : rmK kd ≤ pc h) : sk al nf kd h k = (h, k) := by
  unfold sk
  cases tkK kd with
  | zero => rfl
  | succ t => rw [skS_s, if_pos (Or.inr c)]
/-- the reference -/
theorem pu_kb_loop {n : Nat} (hn : 400 ≤ n) {row : Nat → Int32} {nf : Nat} {al : Nat → Nat} (hF : fctM row nf al) {kd T : Nat} (hkd : kd < 5) (hT : T < 2147483648) : ∀ (t i q h k : Nat) (x3 : Int32), i + t = T → h < 4096 → k < 4096 →
    ∃ y1 y2 y3, fX8_knowsBehind_20 n row (q + t + 1) (nI h) (nI k) x3 (nI kd) (nI T) (nI i) = some (nI (skI al nf kd t (h, k)).2, y1, y2, y3) := by
  intro t
  induction t with
  | zero =>
    intro i q h k x3 hi hh hk
    refine ⟨nI h, nI k, x3, ?_⟩
    unfold fX8_knowsBehind_20
    simp (disch := omega) only [Nat.zero_add, qa, qb, qbb, qc, qd, qe, qf, qg, Option.bind_some, reduceIte, or_false, false_or, or_self, or_true, true_or, and_true, true_and, and_false, false_and, not_true_eq_false, not_false_eq_true]
    rfl
  | succ t ih =>
    intro i q h k x3 hi hh hk
    have hs := pu_sucks (n := n) (by omega) row al hF hkd x3 hh hk
    obtain ⟨a, b⟩ := sk_le al nf kd hh hk
    obtain ⟨y1, y2, y3, E⟩ := ih (i + 1) q (sk al nf kd h k).1 (sk al nf kd h k).2 (offI kd (sk al nf kd h k).1) (by omega) a (by omega)
    refine ⟨y1, y2, y3, ?_⟩
    have e : q + (t + 1) + 1 = (q + t + 1) + 1 := by omega
    rw [e]
    unfold fX8_knowsBehind_20
    simp (disch := omega) only [Nat.zero_add, qa, qb, qbb, qc, qd, qe, qf, qg, Option.bind_some, reduceIte, or_false, false_or, or_self, or_true, true_or, and_true, true_and, and_false, false_and, not_true_eq_false, not_false_eq_true, hs]
    exact E
theorem pu_kb {n : Nat} (hn : 400 ≤ n) {row : Nat → Int32} {nf : Nat} {al : Nat → Nat} (hF : fctM row nf al) {kd T m k : Nat} (hkd : kd < 5) (hT : T < n) (hT2 : T < 2147483648) (hm : m < 4) (hr : row m = nI k) (hk : k < 4096) (x1 x2 x3 : Int32) :
    ∃ y1 y2 y3, fX8_knowsBehind n row x1 x2 x3 (nI m) (nI kd) (nI T) = some (nI (KA al nf kd T k), y1, y2, y3) := by
  obtain ⟨y1, y2, y3, E⟩ := pu_kb_loop hn hF (kd := kd) (T := T) hkd hT2 T 0 (n - T - 1) 0 k x3 (by omega) (by omega) hk
  have e : n - T - 1 + T + 1 = n := by omega
  rw [e] at E
  refine ⟨y1, y2, y3, ?_⟩
  unfold fX8_knowsBehind
  simp (disch := omega) only [Nat.zero_add, qa, qb, qbb, qc, qd, qe, qf, qg, Option.bind_some, reduceIte, or_false, false_or, or_self, or_true, true_or, and_true, true_and, and_false, false_and, not_true_eq_false, not_false_eq_true, hr]
  exact E
/-- the class -/
def isA (kd h k : Nat) (s : rmS) : Prop := s.1 0 = h ∧ s.2.1 0 = k ∧ (s.2.2 0 = 1 ∨ (s.2.2 0 = 0 ∧ rmK kd ≤ pc h))
theorem isA_st {al : Nat → Nat} {nf kd h k : Nat} {s : rmS} (hA : isA kd h k s) : isA kd (sk al nf kd h k).1 (sk al nf kd h k).2 (stN al nf (fun _ => kd) 1 0 s) := by
  obtain ⟨h1, h2, h3⟩ := hA
  show isA kd (sk al nf kd h k).1 (sk al nf kd h k).2 (st1 al nf (fun _ => kd) 0 s)
  unfold st1
  rcases h3 with h3 | ⟨h3, h4⟩
  · have c : ¬ s.2.2 0 = 0 := by omega
    rw [if_neg c, h3, h1, show 1 - 1 = 0 from rfl, h2]
    refine ⟨(show updN s.1 0 (sk al nf kd h k).1 0 = (sk al nf kd h k).1 from updN_at _ _ _), (show updN s.2.1 0 (sk al nf kd h k).2 0 = (sk al nf kd h k).2 from updN_at _ _ _), ?_⟩
    by_cases d : rmK kd ≤ pc (sk al nf kd h k).1
    · right
      refine ⟨?_, d⟩
      show (if rmK kd ≤ pc (sk al nf kd h k).1 then updN s.2.2 0 0 else s.2.2) 0 = 0
      rw [if_pos d, updN_at]
    · left
      show (if rmK kd ≤ pc (sk al nf kd h k).1 then updN s.2.2 0 0 else s.2.2) 0 = 1
      rw [if_neg d, h3]
  · rw [if_pos h3, sk_full h4]
    exact ⟨h1, h2, Or.inr ⟨h3, h4⟩⟩
theorem isA_stM {al : Nat → Nat} {nf kd : Nat} : ∀ (t h k : Nat) (s : rmS), isA kd h k s → isA kd (skI al nf kd t (h, k)).1 (skI al nf kd t (h, k)).2 (stM al nf 1 (fun _ => kd) t s) := by
  intro t
  induction t with
  | zero => intro h k s hA; exact hA
  | succ t ih => intro h k s hA; exact ih _ _ _ (isA_st hA)
theorem pu_setAlone (n : Nat) (R : rmT) (x y : Int32) : fX3_setAlone n R.1 R.2.1 R.2.2.1 R.2.2.2.1 R.2.2.2.2.1 R.2.2.2.2.2.1 R.2.2.2.2.2.2.1 R.2.2.2.2.2.2.2 x y = some (nI 1, nI 1, nI 0, nI 0, upd R.2.2.2.2.1 0 x, upd R.2.2.2.2.2.1 0 y, upd (upd R.2.2.2.2.2.2.1 0 (onI 0)) 0 (nI 0), upd R.2.2.2.2.2.2.2 0 (nI 0)) := by
  unfold fX3_setAlone fX3_setEmpty fX3_addMember fX3_addMember_28 fX3_addLeech fX3_addLeech_48
  simp (disch := omega) only [Nat.zero_add, qa, qb, qbb, qc, qd, qe, qf, qg, Option.bind_some, reduceIte, or_false, false_or, or_self, or_true, true_or, and_true, true_and, and_false, false_and, not_true_eq_false, not_false_eq_true]
theorem relC_alone {kd k : Nat} (hkd : kd < 5) (R : rmT) : relC 1 1 (fun _ => kd) (upd R.2.2.2.2.2.1 0 (nI kd)) (upd R.2.2.2.2.2.2.2 0 (nI 0)) (upd R.2.2.2.2.1 0 (nI k)) (upd (upd R.2.2.2.2.2.2.1 0 (onI 0)) 0 (nI 0)) (fun _ => 0, fun _ => k, fun _ => 1) := by
  refine ⟨fun l hl => ⟨hkd, ?_⟩, fun l hl => ?_, fun l hl => ?_, fun l hl => ?_⟩
  · have : l = 0 := by omega
    rw [this, upd_at]
  · have : l = 0 := by omega
    rw [this, upd_at]
  · have : l = 0 := by omega
    rw [this, upd_at]
  · have : l = 0 := by omega
    rw [this, upd_at]
    rfl
theorem okS_alone {nf k : Nat} (hk : k < 2 ^ nf) : okS nf 1 1 (fun _ => 0, fun _ => k, fun _ => 1) := ⟨fun _ _ => (by decide : 0 < 4096), fun _ _ => hk, fun _ _ => Nat.le_refl _⟩
theorem pu_kaa {n : Nat} (hn : 400 ≤ n) {lw : Nat → Int32} {al : Nat → Nat} {nf : Nat} (hnf : nf ≤ 12) (hC : fctC lw nf al) {kd k t : Nat} (hkd : kd < 5) (hk : k < 2 ^ nf) (ht : t < 400) (R : rmT) :
    ∃ R' : rmT, fX7_knownAfterAlone n lw R.1 R.2.1 R.2.2.1 R.2.2.2.1 R.2.2.2.2.1 R.2.2.2.2.2.1 R.2.2.2.2.2.2.1 R.2.2.2.2.2.2.2 (nI k) (nI kd) (nI t) = some (nI (KA al nf kd t k), R'.1, R'.2.1, R'.2.2.1, R'.2.2.2.1, R'.2.2.2.2.1, R'.2.2.2.2.2.1, R'.2.2.2.2.2.2.1, R'.2.2.2.2.2.2.2) := by
  obtain ⟨ha', kn', on', Q, _, E⟩ := pu_pass (n := n) (mi := 0) (T := t) (nm := 1) (nl := 1) (by omega) (by omega) (by omega) hnf (by omega) (by omega) hC (okS_alone hk) (relC_alone (k := k) hkd R)
  have q1 := Q.2.2.1 0 (by omega)
  have q2 := (isA_stM (al := al) (nf := nf) (kd := kd) t 0 k (fun _ => 0, fun _ => k, fun _ => 1) ⟨rfl, rfl, Or.inl rfl⟩).2.1
  have q3 : kn' 0 = nI (KA al nf kd t k) := q1.trans (congrArg nI q2)
  refine ⟨(nI 1, nI 1, nI 0, nI (0 + t), kn', upd R.2.2.2.2.2.1 0 (nI kd), on', ha'), ?_⟩
  unfold fX7_knownAfterAlone
  rw [pu_setAlone, Option.bind_some]
  dsimp only
  rw [E, Option.bind_some]
  dsimp only
  rw [q3]
theorem pu_and (x y : Nat) : nI x &&& nI y = nI (x &&& y) := by
  unfold nI
  apply Int32.toBitVec_inj.mp
  rw [Int32.toBitVec_and, Int32.toBitVec_ofNat', Int32.toBitVec_ofNat', Int32.toBitVec_ofNat']
  apply BitVec.eq_of_getLsbD_eq
  intro i hi
  simp [BitVec.getLsbD_ofNat, hi]
/-- the first of t from i that p holds of -/
def mfB (p : Nat → Bool) : Nat → Nat → Option Nat
  | 0, _ => none
  | t + 1, i => if p i then some i else mfB p t (i + 1)
def isO (lo ke k : Nat) : Bool := decide (k &&& lo = 0) && decide (difB ke k = 0)
theorem pu_isO8 (n : Nat) {k lo ke : Nat} (hk : k < 4096) (hl : lo < 4096) (hke : ke < 4096) : fX8_isSo n (nI k) (nI lo) (nI ke) = some (if isO lo ke k = true then nI 1 else nI 0) := by
  have h1 : nI k &&& nI lo = nI (k &&& lo) := pu_and k lo
  have h2 : k &&& lo ≤ k := Nat.and_le_left
  have h3 := difB_le ke k
  unfold fX8_isSo fX8_isSo_18 fX8_isSo_19 isO
  by_cases c : k &&& lo = 0
  · by_cases d : difB ke k = 0
    · simp (disch := omega) only [Nat.zero_add, qa, qb, qbb, qc, qd, qe, qf, qg, Option.bind_some, reduceIte, or_false, false_or, or_self, or_true, true_or, and_true, true_and, and_false, false_and, not_true_eq_false, not_false_eq_true, h1, c, d, decide_true, Bool.and_self]
    · simp (disch := omega) only [Nat.zero_add, qa, qb, qbb, qc, qd, qe, qf, qg, Option.bind_some, reduceIte, or_false, false_or, or_self, or_true, true_or, and_true, true_and, and_false, false_and, not_true_eq_false, not_false_eq_true, h1, c, d, decide_true, decide_false, Bool.and_false, Bool.false_eq_true]
  · simp (disch := omega) only [Nat.zero_add, qa, qb, qbb, qc, qd, qe, qf, qg, Option.bind_some, reduceIte, or_false, false_or, or_self, or_true, true_or, and_true, true_and, and_false, false_and, not_true_eq_false, not_false_eq_true, h1, c, decide_false, Bool.false_and, Bool.false_eq_true]
theorem pu_isO7 (n : Nat) {k lo ke : Nat} (hk : k < 4096) (hl : lo < 4096) (hke : ke < 4096) : fX7_isWanted n (nI k) (nI lo) (nI ke) = some (if isO lo ke k = true then nI 1 else nI 0) := by
  have h1 : nI k &&& nI lo = nI (k &&& lo) := pu_and k lo
  have h2 : k &&& lo ≤ k := Nat.and_le_left
  have h3 := difB_le ke k
  unfold fX7_isWanted fX7_isWanted_18 fX7_isWanted_19 isO
  by_cases c : k &&& lo = 0
  · by_cases d : difB ke k = 0
    · simp (disch := omega) only [Nat.zero_add, qa, qb, qbb, qc, qd, qe, qf, qg, Option.bind_some, reduceIte, or_false, false_or, or_self, or_true, true_or, and_true, true_and, and_false, false_and, not_true_eq_false, not_false_eq_true, h1, c, d, decide_true, Bool.and_self]
    · simp (disch := omega) only [Nat.zero_add, qa, qb, qbb, qc, qd, qe, qf, qg, Option.bind_some, reduceIte, or_false, false_or, or_self, or_true, true_or, and_true, true_and, and_false, false_and, not_true_eq_false, not_false_eq_true, h1, c, d, decide_true, decide_false, Bool.and_false, Bool.false_eq_true]
  · simp (disch := omega) only [Nat.zero_add, qa, qb, qbb, qc, qd, qe, qf, qg, Option.bind_some, reduceIte, or_false, false_or, or_self, or_true, true_or, and_true, true_and, and_false, false_and, not_true_eq_false, not_false_eq_true, h1, c, decide_false, Bool.false_and, Bool.false_eq_true]
