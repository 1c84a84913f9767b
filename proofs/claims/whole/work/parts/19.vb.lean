/-! orders of leeches, one behind another -/
def fig (e : Nat) : Nat := ([0, 1, 10, 100] : List Nat).getD e 0
/-- the first kind of t from a whose g is not 0 -/
def scS (g : Nat → Nat) (fg : Nat) : Nat → Nat → Nat
  | 0, _ => 0
  | t + 1, a => if g a = 0 then scS g fg t (a + 1) else (a + 1) * fg + g a
theorem scS_s (g : Nat → Nat) (fg t a : Nat) : scS g fg (t + 1) a = if g a = 0 then scS g fg t (a + 1) else (a + 1) * fg + g a := rfl
theorem scS_le {g : Nat → Nat} {B : Nat} (hg : ∀ a, g a ≤ B) (fg : Nat) : ∀ (t a : Nat), scS g fg t a ≤ (a + t) * fg + B := by
  intro t
  induction t with
  | zero => intro a; exact Nat.zero_le _
  | succ t ih =>
    intro a
    rw [scS_s]
    have h1 : (a + 1) * fg ≤ (a + (t + 1)) * fg := Nat.mul_le_mul_right fg (by omega)
    have h2 := hg a
    split
    · have := ih (a + 1)
      have e : a + 1 + t = a + (t + 1) := by omega
      rw [e] at this
      exact this
    · omega
/-- the order that is told (one more), or 0 -/
def rkS (al : Nat → Nat) (nf lo ke : Nat) : Nat → Nat → Nat
  | 0, k => if isO lo ke k = true then 1 else 0
  | e + 1, k => scS (fun a => rkS al nf lo ke e (KA al nf a 1 k)) (fig (e + 1)) 5 0
theorem rkS_le (al : Nat → Nat) (nf lo ke : Nat) : (∀ k, rkS al nf lo ke 0 k ≤ 1) ∧ (∀ k, rkS al nf lo ke 1 k ≤ 6) ∧ (∀ k, rkS al nf lo ke 2 k ≤ 56) ∧ ∀ k, rkS al nf lo ke 3 k ≤ 556 := by
  have h0 : ∀ k, rkS al nf lo ke 0 k ≤ 1 := by
    intro k
    show (if isO lo ke k = true then 1 else 0) ≤ 1
    split <;> omega
  have h1 : ∀ k, rkS al nf lo ke 1 k ≤ 6 := fun k => scS_le (fun a => h0 _) (fig 1) 5 0
  have h2 : ∀ k, rkS al nf lo ke 2 k ≤ 56 := fun k => scS_le (fun a => h1 _) (fig 2) 5 0
  exact ⟨h0, h1, h2, fun k => scS_le (fun a => h2 _) (fig 3) 5 0⟩
theorem rkS_le' (al : Nat → Nat) (nf lo ke : Nat) {e : Nat} (he : e ≤ 3) (k : Nat) : rkS al nf lo ke e k ≤ 556 := by
  obtain ⟨h0, h1, h2, h3⟩ := rkS_le al nf lo ke
  rcases (show e = 0 ∨ e = 1 ∨ e = 2 ∨ e = 3 by omega) with rfl | rfl | rfl | rfl
  · exact Nat.le_trans (h0 k) (by omega)
  · exact Nat.le_trans (h1 k) (by omega)
  · exact Nat.le_trans (h2 k) (by omega)
  · exact h3 k
theorem pu_rok_loop {n : Nat} (hn : 400 ≤ n) {lw : Nat → Int32} {al : Nat → Nat} {nf lo ke k fg fl : Nat} (hnf : nf ≤ 12) (hC : fctC lw nf al) (hk : k < 2 ^ nf) (hfg : fg ≤ 100) (hfl : nI fg / nI 10 = nI fl)
    (slf : Int32 → Int32 → Int32 → Int32 → (Nat → Int32) → (Nat → Int32) → (Nat → Int32) → (Nat → Int32) → Int32 → Int32 → Int32 → Int32 → Option (Int32 × Int32 × Int32 × Int32 × Int32 × (Nat → Int32) × (Nat → Int32) × (Nat → Int32) × (Nat → Int32)))
    (g : Nat → Nat) (hg : ∀ x, g x ≤ 556) (hs : ∀ (x : Nat) (R : rmT), x < 2 ^ nf → ∃ R' : rmT, slf R.1 R.2.1 R.2.2.1 R.2.2.2.1 R.2.2.2.2.1 R.2.2.2.2.2.1 R.2.2.2.2.2.2.1 R.2.2.2.2.2.2.2 (nI x) (nI lo) (nI ke) (nI fl) = some (onI (g x), R'.1, R'.2.1, R'.2.2.1, R'.2.2.2.1, R'.2.2.2.2.1, R'.2.2.2.2.2.1, R'.2.2.2.2.2.2.1, R'.2.2.2.2.2.2.2)) : ∀ (t i q : Nat) (R : rmT), i + t = 5 →
    ∃ R' : rmT, fX7_rowOfKinds_23 n slf lw (q + t + 1) R.1 R.2.1 R.2.2.1 R.2.2.2.1 R.2.2.2.2.1 R.2.2.2.2.2.1 R.2.2.2.2.2.2.1 R.2.2.2.2.2.2.2 (nI k) (nI lo) (nI ke) (nI fg) (nI i) = some (onI (scS (fun a => g (KA al nf a 1 k)) fg t i), R'.1, R'.2.1, R'.2.2.1, R'.2.2.2.1, R'.2.2.2.2.1, R'.2.2.2.2.2.1, R'.2.2.2.2.2.2.1, R'.2.2.2.2.2.2.2) := by
  intro t
  induction t with
  | zero =>
    intro i q R hi
    refine ⟨R, ?_⟩
    unfold fX7_rowOfKinds_23
    simp (disch := omega) only [Nat.zero_add, qa, qb, qbb, qc, qd, qe, qf, qg, Option.bind_some, reduceIte, or_false, false_or, or_self, or_true, true_or, and_true, true_and, and_false, false_and, not_true_eq_false, not_false_eq_true]
    rfl
  | succ t ih =>
    intro i q R hi
    have k4 := lt4096 hnf hk
    have k5 := KA_le al nf i 1 k4
    obtain ⟨R1, E1⟩ := pu_kaa hn hnf hC (kd := i) (by omega) hk (t := 1) (by omega) R
    obtain ⟨R2, E2⟩ := hs (KA al nf i 1 k) R1 (by omega)
    have e : q + (t + 1) + 1 = (q + t + 1) + 1 := by omega
    have hgx := hg (KA al nf i 1 k)
    rw [e, scS_s]
    generalize g (KA al nf i 1 k) = x at E2 hgx
    by_cases d : x = 0
    · subst d
      obtain ⟨R', E3⟩ := ih (i + 1) q R2 (by omega)
      refine ⟨R', ?_⟩
      unfold fX7_rowOfKinds_23
      simp (disch := omega) only [Nat.zero_add, qa, qb, qbb, qc, qd, qe, qf, qg, Option.bind_some, reduceIte, or_false, false_or, or_self, or_true, true_or, and_true, true_and, and_false, false_and, not_true_eq_false, not_false_eq_true, E1, hfl, E2]
      exact E3
    · rw [if_neg d]
      refine ⟨R2, ?_⟩
      have d2 : (i + 1) * fg + x ≠ 0 := by omega
      have d3 : (i + 1) * fg + x - 1 = (i + 1) * fg + (x - 1) := by omega
      rw [onI_ne0 d] at E2
      rw [onI_ne0 d2, d3]
      unfold fX7_rowOfKinds_23
      simp (disch := omega) only [Nat.zero_add, qa, qb, qbb, qc, qd, qe, qf, qg, Option.bind_some, reduceIte, or_false, false_or, or_self, or_true, true_or, and_true, true_and, and_false, false_and, not_true_eq_false, not_false_eq_true, E1, hfl, E2]
theorem fig_div {e : Nat} (he : e < 3) : nI (fig (e + 1)) / nI 10 = nI (fig e) := by
  rcases (show e = 0 ∨ e = 1 ∨ e = 2 by omega) with rfl | rfl | rfl
  · exact pk_div (by decide) (by decide) (by decide)
  · exact pk_div (by decide) (by decide) (by decide)
  · exact pk_div (by decide) (by decide) (by decide)
theorem fig_le {e : Nat} (he : e ≤ 3) : fig e ≤ 100 ∧ (e ≠ 0 → 1 ≤ fig e) := by
  rcases (show e = 0 ∨ e = 1 ∨ e = 2 ∨ e = 3 by omega) with rfl | rfl | rfl | rfl <;> decide
theorem pu_rok {n : Nat} (hn : 400 ≤ n) {lw : Nat → Int32} {al : Nat → Nat} {nf lo ke : Nat} (hnf : nf ≤ 12) (hC : fctC lw nf al) (hl : lo < 4096) (hke : ke < 4096) : ∀ (e d k : Nat) (R : rmT), e ≤ 3 → k < 2 ^ nf →
    ∃ R' : rmT, fdX7_rowOfKinds n lw (d + e + 1) R.1 R.2.1 R.2.2.1 R.2.2.2.1 R.2.2.2.2.1 R.2.2.2.2.2.1 R.2.2.2.2.2.2.1 R.2.2.2.2.2.2.2 (nI k) (nI lo) (nI ke) (nI (fig e)) = some (onI (rkS al nf lo ke e k), R'.1, R'.2.1, R'.2.2.1, R'.2.2.2.1, R'.2.2.2.2.1, R'.2.2.2.2.2.1, R'.2.2.2.2.2.2.1, R'.2.2.2.2.2.2.2) := by
  intro e
  induction e with
  | zero =>
    intro d k R he hk
    have k4 := lt4096 hnf hk
    have q4 := pu_isO7 n (lo := lo) (ke := ke) k4 hl hke
    refine ⟨R, ?_⟩
    show fX7_rowOfKinds_0 n (fdX7_rowOfKinds n lw d) lw R.1 R.2.1 R.2.2.1 R.2.2.2.1 R.2.2.2.2.1 R.2.2.2.2.2.1 R.2.2.2.2.2.2.1 R.2.2.2.2.2.2.2 (nI k) (nI lo) (nI ke) (nI 0) = some (onI (if isO lo ke k = true then 1 else 0), R.1, R.2.1, R.2.2.1, R.2.2.2.1, R.2.2.2.2.1, R.2.2.2.2.2.1, R.2.2.2.2.2.2.1, R.2.2.2.2.2.2.2)
    unfold fX7_rowOfKinds_0 fX7_rowOfKinds_19
    by_cases c : isO lo ke k = true
    · simp (disch := omega) only [Nat.zero_add, qa, qb, qbb, qc, qd, qe, qf, qg, Option.bind_some, reduceIte, or_false, false_or, or_self, or_true, true_or, and_true, true_and, and_false, false_and, not_true_eq_false, not_false_eq_true, q4, c]
    · simp (disch := omega) only [Nat.zero_add, qa, qb, qbb, qc, qd, qe, qf, qg, Option.bind_some, reduceIte, or_false, false_or, or_self, or_true, true_or, and_true, true_and, and_false, false_and, not_true_eq_false, not_false_eq_true, q4, c, Bool.false_eq_true]
  | succ e ih =>
    intro d k R he hk
    obtain ⟨R', E⟩ := pu_rok_loop hn (k := k) (fg := fig (e + 1)) (fl := fig e) hnf hC hk (fig_le he).1 (fig_div (by omega)) (fdX7_rowOfKinds n lw (d + e + 1)) (rkS al nf lo ke e) (rkS_le' al nf lo ke (by omega)) (fun x R hx => ih d x R (by omega) hx) 5 0 (n - 6) R (by omega)
    have en : n - 6 + 5 + 1 = n := by omega
    rw [en] at E
    have hf := fig_le he
    have hf2 := hf.2 (by omega)
    refine ⟨R', ?_⟩
    have ed : d + (e + 1) + 1 = (d + e + 1) + 1 := by omega
    rw [ed]
    show fX7_rowOfKinds_0 n (fdX7_rowOfKinds n lw (d + e + 1)) lw R.1 R.2.1 R.2.2.1 R.2.2.2.1 R.2.2.2.2.1 R.2.2.2.2.2.1 R.2.2.2.2.2.2.1 R.2.2.2.2.2.2.2 (nI k) (nI lo) (nI ke) (nI (fig (e + 1))) = _
    unfold fX7_rowOfKinds_0
    have hf1 := hf.1
    simp (disch := omega) only [Nat.zero_add, qa, qb, qbb, qc, qd, qe, qf, qg, Option.bind_some, reduceIte, or_false, false_or, or_self, or_true, true_or, and_true, true_and, and_false, false_and, not_true_eq_false, not_false_eq_true]
    exact E
/-- the first length of t from e with an order -/
def orS (al : Nat → Nat) (nf lo ke k : Nat) : Nat → Nat → Nat
  | 0, _ => 0
  | t + 1, e => if rkS al nf lo ke e k = 0 then orS al nf lo ke k t (e + 1) else rkS al nf lo ke e k
theorem orS_s (al : Nat → Nat) (nf lo ke k t e : Nat) : orS al nf lo ke k (t + 1) e = if rkS al nf lo ke e k = 0 then orS al nf lo ke k t (e + 1) else rkS al nf lo ke e k := rfl
theorem tb_FIG {e : Nat} (h : e < 4) : xt_FIRST_FIGURE e = nI (fig e) := by
  rcases (show e = 0 ∨ e = 1 ∨ e = 2 ∨ e = 3 by omega) with rfl | rfl | rfl | rfl <;> rfl
theorem pu_or7 {n : Nat} (hn : 400 ≤ n) {lw kn : Nat → Int32} {al : Nat → Nat} {nf lo ke m k : Nat} (hnf : nf ≤ 12) (hC : fctC lw nf al) (hl : lo < 4096) (hke : ke < 4096) (hm : m < 4) (hkn : kn m = nI k) (hk : k < 2 ^ nf) (p1 p2 : Int32) : ∀ (t i q : Nat) (R : rmT), i + t = 4 →
    ∃ R' : rmT, fX7_order_39 n p1 p2 kn lw (q + t + 1) R.1 R.2.1 R.2.2.1 R.2.2.2.1 R.2.2.2.2.1 R.2.2.2.2.2.1 R.2.2.2.2.2.2.1 R.2.2.2.2.2.2.2 (nI m) (nI lo) (nI ke) (nI i) = some (onI (orS al nf lo ke k t i), R'.1, R'.2.1, R'.2.2.1, R'.2.2.2.1, R'.2.2.2.2.1, R'.2.2.2.2.2.1, R'.2.2.2.2.2.2.1, R'.2.2.2.2.2.2.2) := by
  intro t
  induction t with
  | zero =>
    intro i q R hi
    refine ⟨R, ?_⟩
    unfold fX7_order_39
    simp (disch := omega) only [Nat.zero_add, qa, qb, qbb, qc, qd, qe, qf, qg, Option.bind_some, reduceIte, or_false, false_or, or_self, or_true, true_or, and_true, true_and, and_false, false_and, not_true_eq_false, not_false_eq_true]
    rfl
  | succ t ih =>
    intro i q R hi
    obtain ⟨R1, E1⟩ := pu_rok hn hnf hC hl hke i (7 - i) k R (by omega) hk
    have e8 : 7 - i + i + 1 = 8 := by omega
    rw [e8] at E1
    have E1' : fX7_rowOfKinds n lw R.1 R.2.1 R.2.2.1 R.2.2.2.1 R.2.2.2.2.1 R.2.2.2.2.2.1 R.2.2.2.2.2.2.1 R.2.2.2.2.2.2.2 (nI k) (nI lo) (nI ke) (nI (fig i)) = some (onI (rkS al nf lo ke i k), R1.1, R1.2.1, R1.2.2.1, R1.2.2.2.1, R1.2.2.2.2.1, R1.2.2.2.2.2.1, R1.2.2.2.2.2.2.1, R1.2.2.2.2.2.2.2) := E1
    have hx := rkS_le' al nf lo ke (show i ≤ 3 by omega) k
    have tb := tb_FIG (show i < 4 by omega)
    have e : q + (t + 1) + 1 = (q + t + 1) + 1 := by omega
    rw [e, orS_s]
    generalize rkS al nf lo ke i k = x at E1' hx
    by_cases d : x = 0
    · subst d
      obtain ⟨R', E3⟩ := ih (i + 1) q R1 (by omega)
      refine ⟨R', ?_⟩
      unfold fX7_order_39
      simp (disch := omega) only [Nat.zero_add, qa, qb, qbb, qc, qd, qe, qf, qg, Option.bind_some, reduceIte, or_false, false_or, or_self, or_true, true_or, and_true, true_and, and_false, false_and, not_true_eq_false, not_false_eq_true, hkn, tb, E1']
      exact E3
    · rw [if_neg d]
      refine ⟨R1, ?_⟩
      rw [onI_ne0 d] at E1' ⊢
      unfold fX7_order_39
      simp (disch := omega) only [Nat.zero_add, qa, qb, qbb, qc, qd, qe, qf, qg, Option.bind_some, reduceIte, or_false, false_or, or_self, or_true, true_or, and_true, true_and, and_false, false_and, not_true_eq_false, not_false_eq_true, hkn, tb, E1']
/-- the reference: what he knows in the end -/
def ch (al : Nat → Nat) (nf : Nat) : Nat → Nat → Nat → Nat
  | 0, _, k => k
  | r + 1, m, k => ch al nf r m (KA al nf (m / 5 ^ r % 5) 1 k)
theorem ch_le (al : Nat → Nat) (nf : Nat) : ∀ (r m k : Nat), k < 4096 → ch al nf r m k ≤ k := by
  intro r
  induction r with
  | zero => intro m k hk; exact Nat.le_refl _
  | succ r ih =>
    intro m k hk
    have h1 := KA_le al nf (m / 5 ^ r % 5) 1 hk
    exact Nat.le_trans (ih m _ (by omega)) h1
theorem sub5 (D : Nat) : D - D / 5 * 5 = D % 5 := by omega
theorem le5 (D : Nat) : D / 5 * 5 ≤ D := by omega
theorem pu_sb_loop {n : Nat} (hn : 400 ≤ n) {row : Nat → Int32} {nf : Nat} {al : Nat → Nat} (hF : fctM row nf al) {lo ke m e : Nat} (hl : lo < 4096) (hke : ke < 4096) (hm : m < 125) (he : e ≤ 3) : ∀ (r i q k : Nat) (x2 x3 v6 : Int32), i + r = e → k < 4096 → (r ≠ 0 → v6 = nI (5 ^ (r - 1))) →
    ∃ y1 y2 y3, fX8_isSoBy_37 n row (q + r + 1) (nI k) x2 x3 (nI m) (nI e) (nI lo) (nI ke) v6 (nI i) = some (if isO lo ke (ch al nf r m k) = true then nI 1 else nI 0, y1, y2, y3) := by
  intro r
  induction r with
  | zero =>
    intro i q k x2 x3 v6 hi hk hv
    have q4 := pu_isO8 n (lo := lo) (ke := ke) hk hl hke
    refine ⟨nI k, x2, x3, ?_⟩
    show _ = some (if isO lo ke k = true then nI 1 else nI 0, nI k, x2, x3)
    unfold fX8_isSoBy_37
    by_cases c : isO lo ke k = true
    · simp (disch := omega) only [Nat.zero_add, qa, qb, qbb, qc, qd, qe, qf, qg, Option.bind_some, reduceIte, or_false, false_or, or_self, or_true, true_or, and_true, true_and, and_false, false_and, not_true_eq_false, not_false_eq_true, q4, c]
    · simp (disch := omega) only [Nat.zero_add, qa, qb, qbb, qc, qd, qe, qf, qg, Option.bind_some, reduceIte, or_false, false_or, or_self, or_true, true_or, and_true, true_and, and_false, false_and, not_true_eq_false, not_false_eq_true, q4, c, Bool.false_eq_true]
  | succ r ih =>
    intro i q k x2 x3 v6 hi hk hv
    have hv := hv (Nat.succ_ne_zero r)
    rw [Nat.add_sub_cancel] at hv
    subst hv
    have hp : 1 ≤ 5 ^ r := Nat.pow_pos (by decide)
    have hp2 : 5 ^ r ≤ 5 ^ 3 := Nat.pow_le_pow_right (by decide) (by omega)
    have hD : nI m / nI (5 ^ r) = nI (m / 5 ^ r) := pk_div (by omega) (by omega) (by omega)
    have hD2 : m / 5 ^ r ≤ m := Nat.div_le_self _ _
    have hD3 : nI (m / 5 ^ r) / nI 5 = nI (m / 5 ^ r / 5) := pk_div (by omega) (by omega) (by omega)
    have hlt : m / 5 ^ r % 5 < 5 := Nat.mod_lt _ (by decide)
    have hs := pu_sucks (n := n) (by omega) row al hF hlt x3 (h := 0) (by omega) hk
    obtain ⟨a, b⟩ := sk_le al nf (m / 5 ^ r % 5) (h := 0) (by omega) hk
    have e5 : r ≠ 0 → nI (5 ^ r) / nI 5 = nI (5 ^ (r - 1)) := by
      intro hr
      rw [pk_div (by omega) (by omega) (by omega)]
      congr 1
      obtain ⟨r', rfl⟩ : ∃ r', r = r' + 1 := ⟨r - 1, by omega⟩
      rw [Nat.add_sub_cancel, Nat.pow_succ, Nat.mul_div_cancel _ (by decide)]
    obtain ⟨y1, y2, y3, E⟩ := ih (i + 1) q (KA al nf (m / 5 ^ r % 5) 1 k) (nI (sk al nf (m / 5 ^ r % 5) 0 k).1) (offI (m / 5 ^ r % 5) (sk al nf (m / 5 ^ r % 5) 0 k).1) (nI (5 ^ r) / nI 5) (by omega) (Nat.lt_of_le_of_lt b hk) e5
    refine ⟨y1, y2, y3, ?_⟩
    have e : q + (r + 1) + 1 = (q + r + 1) + 1 := by omega
    rw [e]
    have l5 := le5 (m / 5 ^ r)
    have s5 := sub5 (m / 5 ^ r)
    have sub : nI (m / 5 ^ r) - nI (m / 5 ^ r / 5 * 5) = nI (m / 5 ^ r % 5) := by rw [q_sub l5, s5]
    unfold fX8_isSoBy_37
    simp (disch := omega) only [Nat.zero_add, qa, qb, qbb, qc, qd, qe, qf, qg, Option.bind_some, reduceIte, or_false, false_or, or_self, or_true, true_or, and_true, true_and, and_false, false_and, not_true_eq_false, not_false_eq_true, hD, hD3, sub, hs]
    exact E
theorem pu_sb {n : Nat} (hn : 400 ≤ n) {row : Nat → Int32} {nf : Nat} {al : Nat → Nat} (hF : fctM row nf al) {lo ke m e mm k : Nat} (hl : lo < 4096) (hke : ke < 4096) (hm : m < 125) (he : e ≤ 3) (hmm : mm < 4) (hr : row mm = nI k) (hk : k < 4096) (x1 x2 x3 : Int32) :
    ∃ y1 y2 y3, fX8_isSoBy n row x1 x2 x3 (nI mm) (nI m) (nI e) (nI lo) (nI ke) = some (if isO lo ke (ch al nf e m k) = true then nI 1 else nI 0, y1, y2, y3) := by
  have key : ∀ v6, (e ≠ 0 → v6 = nI (5 ^ (e - 1))) → ∃ y1 y2 y3, fX8_isSoBy_32 n row (nI k) x2 x3 (nI m) (nI e) (nI lo) (nI ke) v6 = some (if isO lo ke (ch al nf e m k) = true then nI 1 else nI 0, y1, y2, y3) := by
    intro v6 hv
    obtain ⟨y1, y2, y3, E⟩ := pu_sb_loop hn hF hl hke hm he e 0 (n - e - 1) k x2 x3 v6 (by omega) hk hv
    have en : n - e - 1 + e + 1 = n := by omega
    rw [en] at E
    refine ⟨y1, y2, y3, ?_⟩
    unfold fX8_isSoBy_32
    simp (disch := omega) only [Nat.zero_add, qa, qb, qbb, qc, qd, qe, qf, qg, Option.bind_some, reduceIte, or_false, false_or, or_self, or_true, true_or, and_true, true_and, and_false, false_and, not_true_eq_false, not_false_eq_true]
    exact E
  by_cases d3 : e = 3
  · subst d3
    obtain ⟨y1, y2, y3, E⟩ := key (nI 25) (fun _ => rfl)
    refine ⟨y1, y2, y3, ?_⟩
    unfold fX8_isSoBy
    simp (disch := omega) only [Nat.zero_add, qa, qb, qbb, qc, qd, qe, qf, qg, Option.bind_some, reduceIte, or_false, false_or, or_self, or_true, true_or, and_true, true_and, and_false, false_and, not_true_eq_false, not_false_eq_true, hr]
    exact E
  · by_cases d2 : e = 2
    · subst d2
      obtain ⟨y1, y2, y3, E⟩ := key (nI 5) (fun _ => rfl)
      refine ⟨y1, y2, y3, ?_⟩
      unfold fX8_isSoBy
      simp (disch := omega) only [Nat.zero_add, qa, qb, qbb, qc, qd, qe, qf, qg, Option.bind_some, reduceIte, or_false, false_or, or_self, or_true, true_or, and_true, true_and, and_false, false_and, not_true_eq_false, not_false_eq_true, hr]
      exact E
    · obtain ⟨y1, y2, y3, E⟩ := key (nI 1) (fun h => by
        have : e = 1 := by omega
        subst this
        rfl)
      refine ⟨y1, y2, y3, ?_⟩
      unfold fX8_isSoBy
      simp (disch := omega) only [Nat.zero_add, qa, qb, qbb, qc, qd, qe, qf, qg, Option.bind_some, reduceIte, or_false, false_or, or_self, or_true, true_or, and_true, true_and, and_false, false_and, not_true_eq_false, not_false_eq_true, hr]
      exact E
/-- what is told of a number -/
def tdN : Nat → Nat → Nat
  | 0, _ => 0
  | e + 1, m => (m / 5 ^ e % 5 + 1) * fig (e + 1) + tdN e m
theorem pu_o75 (n : Nat) {row : Nat → Int32} {m e : Nat} (hm : m < 125) (he : e ≤ 3) : ∀ (t i q : Nat) (x1 x2 x3 : Int32), i + t = e →
    fX8_order_75 n row (q + t + 1) x1 x2 x3 (nI e) (nI m) (nI (tdN i m)) (nI (5 ^ i)) (nI (10 ^ i)) (nI i) = some (nI (tdN e m), x1, x2, x3) := by
  intro t
  induction t with
  | zero =>
    intro i q x1 x2 x3 hi
    have : i = e := by omega
    subst this
    unfold fX8_order_75
    simp (disch := omega) only [Nat.zero_add, qa, qb, qbb, qc, qd, qe, qf, qg, Option.bind_some, reduceIte, or_false, false_or, or_self, or_true, true_or, and_true, true_and, and_false, false_and, not_true_eq_false, not_false_eq_true]
  | succ t ih =>
    intro i q x1 x2 x3 hi
    have E := ih (i + 1) q x1 x2 x3 (by omega)
    have hp : 1 ≤ 5 ^ i := Nat.pow_pos (by decide)
    have hp2 : 5 ^ i ≤ 5 ^ 3 := Nat.pow_le_pow_right (by decide) (by omega)
    have hD : nI m / nI (5 ^ i) = nI (m / 5 ^ i) := pk_div (by omega) (by omega) (by omega)
    have hD2 : m / 5 ^ i ≤ m := Nat.div_le_self _ _
    have hD3 : nI (m / 5 ^ i) / nI 5 = nI (m / 5 ^ i / 5) := pk_div (by omega) (by omega) (by omega)
    have l5 := le5 (m / 5 ^ i)
    have s5 := sub5 (m / 5 ^ i)
    have sub : nI (m / 5 ^ i) - nI (m / 5 ^ i / 5 * 5) = nI (m / 5 ^ i % 5) := by rw [q_sub l5, s5]
    have hfig : fig (i + 1) = 10 ^ i := by
      rcases (show i = 0 ∨ i = 1 ∨ i = 2 by omega) with rfl | rfl | rfl <;> rfl
    have e1 : tdN i m + 10 ^ i * (1 + m / 5 ^ i % 5) = tdN (i + 1) m := by
      show _ = (m / 5 ^ i % 5 + 1) * fig (i + 1) + tdN i m
      rw [hfig, Nat.mul_comm, Nat.add_comm 1, Nat.add_comm]
    have e2 : 5 ^ i * 5 = 5 ^ (i + 1) := by rw [Nat.pow_succ]
    have e3 : 10 ^ i * 10 = 10 ^ (i + 1) := by rw [Nat.pow_succ]
    have e : q + (t + 1) + 1 = (q + t + 1) + 1 := by omega
    rw [e]
    unfold fX8_order_75
    simp (disch := omega) only [Nat.zero_add, qa, qb, qbb, qc, qd, qe, qf, qg, Option.bind_some, reduceIte, or_false, false_or, or_self, or_true, true_or, and_true, true_and, and_false, false_and, not_true_eq_false, not_false_eq_true, hD, hD3, sub, e1, e2, e3]
    exact E
