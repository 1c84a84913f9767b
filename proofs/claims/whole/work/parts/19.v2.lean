/-! the whole of the club: now, told, the past, what is kept -/
abbrev paT := (Nat → Int32) × (Nat → Int32) × (Nat → Int32) × (Nat → Int32) × (Nat → Nat → Int32) × (Nat → Nat → Int32) × (Nat → Nat → Int32) × (Nat → Nat → Int32)
def atT (A : paT) (i : Nat) : rmT := (A.1 i, A.2.1 i, A.2.2.1 i, A.2.2.2.1 i, A.2.2.2.2.1 i, A.2.2.2.2.2.1 i, A.2.2.2.2.2.2.1 i, A.2.2.2.2.2.2.2 i)
def upT (A : paT) (u : Nat) (X : rmT) : paT := (va_up A.1 u X.1, va_up A.2.1 u X.2.1, va_up A.2.2.1 u X.2.2.1, va_up A.2.2.2.1 u X.2.2.2.1, va_up A.2.2.2.2.1 u X.2.2.2.2.1, va_up A.2.2.2.2.2.1 u X.2.2.2.2.2.1, va_up A.2.2.2.2.2.2.1 u X.2.2.2.2.2.2.1, va_up A.2.2.2.2.2.2.2 u X.2.2.2.2.2.2.2)
def roT (A : paT) : paT := (xr8 A.1, xr8 A.2.1, xr8 A.2.2.1, xr8 A.2.2.2.1, xr8 A.2.2.2.2.1, xr8 A.2.2.2.2.2.1, xr8 A.2.2.2.2.2.2.1, xr8 A.2.2.2.2.2.2.2)
theorem up_at {α : Type} (f : Nat → α) (i : Nat) (x : α) : va_up f i x i = x := if_pos rfl
theorem up_ne {α : Type} (f : Nat → α) {i j : Nat} (x : α) (h : j ≠ i) : va_up f i x j = f j := if_neg h
theorem atT_at (A : paT) (u : Nat) (X : rmT) : atT (upT A u X) u = X := by
  unfold atT upT
  simp only [up_at]
theorem atT_ne (A : paT) {u i : Nat} (X : rmT) (h : i ≠ u) : atT (upT A u X) i = atT A i := by
  unfold atT upT
  simp only [up_ne _ _ h]
theorem xr8_s {α : Type} (f : Nat → α) {i : Nat} (h : i < 7) : xr8 f i = f (i + 1) := by
  unfold xr8
  rw [if_pos (by omega), if_neg (by omega)]
theorem atT_ro (A : paT) {i : Nat} (h : i < 7) : atT (roT A) i = atT A (i + 1) := by
  unfold atT roT
  simp only [xr8_s _ h]
/-- the reference: the past -/
theorem pu_keepPast_53 {n u : Nat} (hn : 400 ≤ n) (hu : u < 8) (row : Nat → Int32) :
    ∃ row', fX8_keepPast_53 n (nI u) row = some (nI (u + 1), row') ∧ (∀ q, q < 48 → row' (96 + 48 * u + q) = row q) ∧ ∀ q, q < 96 + 48 * u ∨ 96 + 48 * u + 48 ≤ q → row' q = row q := by
  obtain ⟨row', E, h1, h2⟩ := pu_copyClub (n := n) (a := 0) (b := 96 + 48 * u) (by omega) (by omega) (by omega) (by omega) row
  refine ⟨row', ?_, fun q hq => ?_, h2⟩
  · unfold fX8_keepPast_53
    simp (disch := omega) only [Nat.zero_add, qa, qb, qbb, qc, qd, qe, qf, qg, Option.bind_some, reduceIte, or_false, false_or, or_self, or_true, true_or, and_true, true_and, and_false, false_and, not_true_eq_false, not_false_eq_true, E]
  · rw [h1 q hq, Nat.zero_add]
theorem pu_keepPast {n u : Nat} (hn : 400 ≤ n) (hu : u ≤ 8) (row : Nat → Int32) :
    ∃ row' u', u' < 8 ∧ (u' = if u = 8 then 7 else u) ∧ fX8_keepPast n (nI u) row = some (nI (u' + 1), row') ∧ (∀ q, q < 48 → row' (96 + 48 * u' + q) = row q) ∧ (∀ q, q < 96 ∨ 480 ≤ q → row' q = row q) ∧
      ∀ i q, i < u' → q < 48 → row' (96 + 48 * i + q) = if u = 8 then row (96 + 48 * (i + 1) + q) else row (96 + 48 * i + q) := by
  by_cases c : u = 8
  · subst c
    obtain ⟨r1, E1, h1, h2⟩ := pu_past_loop n (nI 8) 336 0 (n - 337) row rfl
    obtain ⟨r2, E2, h3, h4⟩ := pu_keepPast_53 (n := n) (u := 7) hn (by omega) r1
    refine ⟨r2, 7, by omega, rfl, ?_, fun q hq => ?_, fun q hq => ?_, fun i q hi hq => ?_⟩
    · have e : n - 337 + 336 + 1 = n := by omega
      rw [e] at E1
      unfold fX8_keepPast
      simp (disch := omega) only [Nat.zero_add, qa, qb, qbb, qc, qd, qe, qf, qg, Option.bind_some, reduceIte, or_false, false_or, or_self, or_true, true_or, and_true, true_and, and_false, false_and, not_true_eq_false, not_false_eq_true] at E1 ⊢
      rw [E1]
      exact E2
    · rw [h3 q hq, h2 q (by omega)]
    · rw [h4 q (by omega), h2 q (by omega)]
    · rw [if_pos rfl, h4 (96 + 48 * i + q) (by omega)]
      rw [show 96 + 48 * i + q = 96 + (48 * i + q) by omega, h1 (48 * i + q) (by omega) (by omega), show 144 + (48 * i + q) = 96 + 48 * (i + 1) + q by omega]
  · obtain ⟨r2, E2, h3, h4⟩ := pu_keepPast_53 (n := n) (u := u) hn (by omega) row
    refine ⟨r2, u, by omega, (if_neg c).symm, ?_, h3, fun q hq => h4 q (by omega), fun i q hi hq => ?_⟩
    · unfold fX8_keepPast
      simp (disch := omega) only [Nat.zero_add, qa, qb, qbb, qc, qd, qe, qf, qg, Option.bind_some, reduceIte, or_false, false_or, or_self, or_true, true_or, and_true, true_and, and_false, false_and, not_true_eq_false, not_false_eq_true]
      exact E2
    · rw [if_neg c, h4 _ (by omega)]
/-- the class remembers -/
theorem pu_rem_62 {n u : Nat} (hu : u < 8) (N : rmT) (A : paT) (e k1 k2 k3 k4 : Nat → Nat) (xp : Nat → Option Nat) :
    fX7_remember_62 n N.1 N.2.1 N.2.2.1 N.2.2.2.1 N.2.2.2.2.1 N.2.2.2.2.2.1 N.2.2.2.2.2.2.1 N.2.2.2.2.2.2.2 A.1 A.2.1 A.2.2.1 A.2.2.2.1 A.2.2.2.2.1 A.2.2.2.2.2.1 A.2.2.2.2.2.2.1 A.2.2.2.2.2.2.2 e k1 k2 k3 k4 xp (nI u) =
      some ((upT A u (cpT N (atT A u))).1, (upT A u (cpT N (atT A u))).2.1, (upT A u (cpT N (atT A u))).2.2.1, (upT A u (cpT N (atT A u))).2.2.2.1, (upT A u (cpT N (atT A u))).2.2.2.2.1, (upT A u (cpT N (atT A u))).2.2.2.2.2.1, (upT A u (cpT N (atT A u))).2.2.2.2.2.2.1, (upT A u (cpT N (atT A u))).2.2.2.2.2.2.2, e, k1, k2, k3, k4, xp, nI (u + 1)) := by
  unfold fX7_remember_62 fX3_setAs
  simp (disch := omega) only [Nat.zero_add, qa, qb, qbb, qc, qd, qe, qf, qg, Option.bind_some, reduceIte, or_false, false_or, or_self, or_true, true_or, and_true, true_and, and_false, false_and, not_true_eq_false, not_false_eq_true]
  rfl
theorem pu_remC {n u : Nat} (hu : u ≤ 8) (N : rmT) (A : paT) (e k1 k2 k3 k4 : Nat → Nat) (xp : Nat → Option Nat) :
    ∃ (A' : paT) (e' k1' k2' k3' k4' : Nat → Nat) (xp' : Nat → Option Nat), fX7_remember n N.1 N.2.1 N.2.2.1 N.2.2.2.1 N.2.2.2.2.1 N.2.2.2.2.2.1 N.2.2.2.2.2.2.1 N.2.2.2.2.2.2.2 A.1 A.2.1 A.2.2.1 A.2.2.2.1 A.2.2.2.2.1 A.2.2.2.2.2.1 A.2.2.2.2.2.2.1 A.2.2.2.2.2.2.2 e k1 k2 k3 k4 xp (nI u) =
      some (A'.1, A'.2.1, A'.2.2.1, A'.2.2.2.1, A'.2.2.2.2.1, A'.2.2.2.2.2.1, A'.2.2.2.2.2.2.1, A'.2.2.2.2.2.2.2, e', k1', k2', k3', k4', xp', nI ((if u = 8 then 7 else u) + 1)) ∧
      atT A' (if u = 8 then 7 else u) = cpT N (if u = 8 then atT (roT A) 7 else atT A u) ∧ ∀ i, i < (if u = 8 then 7 else u) → atT A' i = if u = 8 then atT A (i + 1) else atT A i := by
  by_cases c : u = 8
  · subst c
    have h := pu_rem_62 (n := n) (u := 7) (by omega) N (roT A) (xr8 e) (xr8 k1) (xr8 k2) (xr8 k3) (xr8 k4) (xr8 xp)
    refine ⟨upT (roT A) 7 (cpT N (atT (roT A) 7)), xr8 e, xr8 k1, xr8 k2, xr8 k3, xr8 k4, xr8 xp, ?_, ?_, ?_⟩
    rotate_left
    · rw [if_pos rfl, if_pos rfl]
      exact atT_at _ _ _
    · intro i hi
      rw [if_pos rfl] at hi ⊢
      rw [atT_ne _ _ (by omega), atT_ro _ hi]
    · unfold fX7_remember
      simp (disch := omega) only [Nat.zero_add, qa, qb, qbb, qc, qd, qe, qf, qg, Option.bind_some, reduceIte, or_false, false_or, or_self, or_true, true_or, and_true, true_and, and_false, false_and, not_true_eq_false, not_false_eq_true]
      exact h
  · have h := pu_rem_62 (n := n) (u := u) (by omega) N A e k1 k2 k3 k4 xp
    refine ⟨upT A u (cpT N (atT A u)), e, k1, k2, k3, k4, xp, ?_, ?_, ?_⟩
    rotate_left
    · rw [if_neg c, if_neg c]
      exact atT_at _ _ _
    · intro i hi
      rw [if_neg c] at hi ⊢
      rw [atT_ne _ _ (by omega)]
    · unfold fX7_remember
      simp (disch := omega) only [Nat.zero_add, qa, qb, qbb, qc, qd, qe, qf, qg, Option.bind_some, reduceIte, or_false, false_or, or_self, or_true, true_or, and_true, true_and, and_false, false_and, not_true_eq_false, not_false_eq_true, if_neg c]
      exact h
/-- the told room: no leech there has anything -/
def relRT (nf nm nl : Nat) (le al kd : Nat → Nat) (T : rmT) (row : Nat → Int32) : Prop := relR 48 nf nm nl le al kd T row ∧ ∀ l, l < 5 → row (57 + l) = nI 0
/-- the rooms, of class and reference -/
def relW (nf nm nl : Nat) (le al kd : Nat → Nat) (N T : rmT) (u : Nat) (A : paT) (c : Nat) (K : paT) (row : Nat → Int32) : Prop :=
  okF nf le al ∧ nm ≤ 4 ∧ nl ≤ 5 ∧ relR 0 nf nm nl le al kd N row ∧ relRT nf nm nl le al kd T row ∧ u ≤ 8 ∧ (∀ i, i < u → relR (96 + 48 * i) nf nm nl le al kd (atT A i) row) ∧ c < 4 ∧ ∀ k, k < 2 → c.testBit k = true → relR (480 + 48 * k) nf nm nl le al kd (atT K k) row
theorem relR_same {b nf nm nl : Nat} {le al kd : Nat → Nat} {X : rmT} {row row' : Nat → Int32} (hnf : nf ≤ 12) (hnm : nm ≤ 4) (hnl : nl ≤ 5) (h : ∀ q, b ≤ q → q < b + 48 → row' q = row q) (r : relR b nf nm nl le al kd X row) : relR b nf nm nl le al kd X row' :=
  relR_move hnf hnm hnl (fun j hj => h (b + j) (by omega) (by omega)) r
/-- class and reference remember -/
theorem pu_rem {n nf nm nl u c : Nat} {le al kd : Nat → Nat} {N T : rmT} {A K : paT} {row : Nat → Int32} (hn : 400 ≤ n) (h : relW nf nm nl le al kd N T u A c K row) (e k1 k2 k3 k4 : Nat → Nat) (xp : Nat → Option Nat) :
    ∃ (A' : paT) (e' k1' k2' k3' k4' : Nat → Nat) (xp' : Nat → Option Nat) (u' : Nat) (row' : Nat → Int32), fX7_remember n N.1 N.2.1 N.2.2.1 N.2.2.2.1 N.2.2.2.2.1 N.2.2.2.2.2.1 N.2.2.2.2.2.2.1 N.2.2.2.2.2.2.2 A.1 A.2.1 A.2.2.1 A.2.2.2.1 A.2.2.2.2.1 A.2.2.2.2.2.1 A.2.2.2.2.2.2.1 A.2.2.2.2.2.2.2 e k1 k2 k3 k4 xp (nI u) =
      some (A'.1, A'.2.1, A'.2.2.1, A'.2.2.2.1, A'.2.2.2.2.1, A'.2.2.2.2.2.1, A'.2.2.2.2.2.2.1, A'.2.2.2.2.2.2.2, e', k1', k2', k3', k4', xp', nI u') ∧
      fX8_keepPast n (nI u) row = some (nI u', row') ∧ (∀ q, q < 96 → row' q = row q) ∧ relW nf nm nl le al kd N T u' A' c K row' := by
  obtain ⟨o, h1, h2, r0, r1, hu, rp, hc, rk⟩ := h
  obtain ⟨A', e', k1', k2', k3', k4', xp', E, a1, a2⟩ := pu_remC (n := n) hu N A e k1 k2 k3 k4 xp
  obtain ⟨row', u', hu', eu, E2, b1, b2, b3⟩ := pu_keepPast hn hu row
  rw [← eu] at E a1 a2
  have hnf := o.1
  refine ⟨A', e', k1', k2', k3', k4', xp', u' + 1, row', E, E2, fun q hq => b2 q (Or.inl hq), o, h1, h2, ?_, ?_, by omega, fun i hi => ?_, hc, fun k hk hb => ?_⟩
  · exact relR_same hnf h1 h2 (fun q _ hq => b2 q (by omega)) r0
  · exact ⟨relR_same hnf h1 h2 (fun q _ hq => b2 q (by omega)) r1.1, fun l hl => (b2 (57 + l) (by omega)).trans (r1.2 l hl)⟩
  · by_cases d : i = u'
    · subst d
      rw [a1]
      exact relR_cpT _ h1 h2 (relR_move hnf h1 h2 (fun j hj => (b1 j hj).trans (by rw [Nat.zero_add])) r0)
    · rw [a2 i (by omega)]
      by_cases g : u = 8
      · rw [if_pos g] at eu ⊢
        exact relR_move hnf h1 h2 (fun j hj => (b3 i j (by omega) hj).trans (if_pos g)) (rp (i + 1) (by omega))
      · rw [if_neg g] at eu ⊢
        exact relR_move hnf h1 h2 (fun j hj => (b3 i j (by omega) hj).trans (if_neg g)) (rp i (by omega))
  · exact relR_same hnf h1 h2 (fun q _ hq => b2 q (by omega)) (rk k hk hb)
/-- now alone has changed -/
theorem relW_now {nf nm nl u c : Nat} {le al kd : Nat → Nat} {N N' T : rmT} {A K : paT} {row row' : Nat → Int32} (h : relW nf nm nl le al kd N T u A c K row) (h0 : relR 0 nf nm nl le al kd N' row') (hr : ∀ q, 48 ≤ q → q < 576 → row' q = row q) : relW nf nm nl le al kd N' T u A c K row' := by
  obtain ⟨o, h1, h2, r0, r1, hu, rp, hc, rk⟩ := h
  refine ⟨o, h1, h2, h0, ?_, hu, fun i hi => ?_, hc, fun k hk hb => ?_⟩
  · exact ⟨relR_same o.1 h1 h2 (fun q _ hq => hr q (by omega) (by omega)) r1.1, fun l hl => (hr (57 + l) (by omega) (by omega)).trans (r1.2 l hl)⟩
  · exact relR_same o.1 h1 h2 (fun q _ hq => hr q (by omega) (by omega)) (rp i hi)
  · exact relR_same o.1 h1 h2 (fun q _ hq => hr q (by omega) (by omega)) (rk k hk hb)
