theorem onI_le {a b : Nat} (ha : a < 2147483647) (hb : b < 2147483647) : onI a ≤ onI b ↔ a ≤ b := by
  have t : ∀ x : Nat, x < 2147483647 → (onI x).toInt = (x : Int) - 1 := by
    intro x hx
    by_cases c : x = 0
    · rw [c]; rfl
    · rw [onI_ne0 c, nI_toInt (by omega)]; omega
  rw [Int32.le_iff_toInt_le, t a ha, t b hb]
  omega
/-- the reference copies a line -/
theorem pu_m99 (n : Nat) (r72 : (Nat → Int32) → (Nat → Int32) → Int32 → Int32 → Int32 → (Nat → Int32) → Int32 → Int32 → Int32 → Int32 → Int32 → Option (Int32 × (Nat → Int32) × (Nat → Int32) × Int32 × Int32 × Int32 × (Nat → Int32))) (line row : Nat → Int32) (x1 x2 x3 v1 v2 v3 v4 : Int32) : ∀ (t i k : Nat) (be : Nat → Int32), i + t = 5 → (∀ j, j < i → be j = line j) →
    ∃ be', fX8_most_99 n r72 (k + t + 1) line row x1 x2 x3 be v1 v2 v3 v4 (nI i) = fX8_most_125 n r72 line row x1 x2 x3 be' v1 v2 v3 v4 ∧ ∀ j, j < 5 → be' j = line j := by
  intro t
  induction t with
  | zero =>
    intro i k be hi h
    refine ⟨be, ?_, fun j hj => h j (by omega)⟩
    unfold fX8_most_99
    simp (disch := omega) only [Nat.zero_add, qa, qb, qbb, qc, qd, qe, qf, qg, Option.bind_some, reduceIte, or_false, false_or, or_self, or_true, true_or, and_true, true_and, and_false, false_and, not_true_eq_false, not_false_eq_true]
  | succ t ih =>
    intro i k be hi h
    obtain ⟨be', E, h2⟩ := ih (i + 1) k (upd be i (line i)) (by omega) (fun j hj => by
      by_cases e : j = i
      · rw [e, upd_at]
      · rw [upd_ne _ _ e]; exact h j (by omega))
    refine ⟨be', ?_, h2⟩
    have e : k + (t + 1) + 1 = (k + t + 1) + 1 := by omega
    rw [e, ← E, fX8_most_99]
    simp (disch := omega) only [Nat.zero_add, qa, qb, qbb, qc, qd, qe, qf, qg, Option.bind_some, reduceIte, or_false, false_or, or_self, or_true, true_or, and_true, true_and, and_false, false_and, not_true_eq_false, not_false_eq_true]
def cN (O : Nat → Nat) (nm : Nat) : Nat → Nat → Nat
  | 0, _ => 1
  | r + 1, l => if O l = 0 then (nm + 1) * cN O nm r (l + 1) else cN O nm r (l + 1)
theorem cN_s (O : Nat → Nat) (nm r l : Nat) : cN O nm (r + 1) l = if O l = 0 then (nm + 1) * cN O nm r (l + 1) else cN O nm r (l + 1) := rfl
theorem cN_le (O : Nat → Nat) {nm : Nat} (h : nm ≤ 4) : ∀ (r l : Nat), cN O nm r l ≤ 5 ^ r := by
  intro r
  induction r with
  | zero => intro l; exact Nat.le_refl _
  | succ r ih =>
    intro l
    have h1 := ih (l + 1)
    rw [cN_s]
    split
    · rw [Nat.pow_succ, Nat.mul_comm (5 ^ r)]
      exact Nat.mul_le_mul (by omega) h1
    · exact Nat.le_trans h1 (Nat.pow_le_pow_right (by decide) (by omega))
/-- all that stays as it is while the lines go by -/
def lnE (n nf nm nl T lim : Nat) (le al kd : Nat → Nat) (s : rmS) (row : Nat → Int32) : Prop := 400 ≤ n ∧ okF nf le al ∧ nm ≤ 4 ∧ nl ≤ 5 ∧ okS nf nm nl s ∧ T ≤ 10 ∧ lim ≤ 12 ∧ ∃ ba mi, relY0 nf nm nl le al kd row ba mi s
theorem lnE_row {n nf nm nl T lim : Nat} {le al kd : Nat → Nat} {s : rmS} {row row' : Nat → Int32} (h : lnE n nf nm nl T lim le al kd s row) (hr : ∀ j, j < 576 → row' j = row j) : lnE n nf nm nl T lim le al kd s row' := by
  obtain ⟨h1, h2, h3, h4, h5, h6, h7, ba, mi, h8⟩ := h
  exact ⟨h1, h2, h3, h4, h5, h6, h7, ba, mi, relY0_row h2.1 h3 h4 (fun q hq => hr q (by omega)) h8⟩
/-- a line is tried -/
theorem pu_ev {n nf nm nl T lim : Nat} {le al kd D : Nat → Nat} {s : rmS} {row line be : Nat → Int32} (h : lnE n nf nm nl T lim le al kd s row) (hli : ∀ i, i < nl → line i = nI (D i)) (hD : ∀ i, i < nl → D i ≤ nm ∧ (s.2.2 i ≠ 0 → D i = 0)) {st : bSt} (hst : st.1 ≤ 13) (hbe : st.1 ≠ 0 → ∀ i, i < nl → be i = nI (st.2 i)) (x1 x2 x3 v3 : Int32) (k : Nat) :
    ∃ (row' be' : Nat → Int32) (y1 y2 y3 : Int32), (∀ j, j < 576 → row' j = row j) ∧ (evS (fun D => vL lim (fun m => vA al nf nl kd T s m (PS D m nl)) nm) D st).1 ≤ 13 ∧ ((evS (fun D => vL lim (fun m => vA al nf nl kd T s m (PS D m nl)) nm) D st).1 ≠ 0 → ∀ i, i < nl → be' i = nI ((evS (fun D => vL lim (fun m => vA al nf nl kd T s m (PS D m nl)) nm) D st).2 i)) ∧
      fX8_most_72 n (k + 1) line row x1 x2 x3 be (nI lim) (nI T) v3 (onI st.1) (nI 1) = fX8_most_125 n (fX8_most_72 n k) line row' y1 y2 y3 be' (nI lim) (nI T) v3 (onI (evS (fun D => vL lim (fun m => vA al nf nl kd T s m (PS D m nl)) nm) D st).1) := by
  obtain ⟨hn, o, hnm, hnl, hs, hT, hlim, ba, mi, hY⟩ := h
  obtain ⟨row', y1, y2, y3, h1, E⟩ := pu_kbl hn o hnm hnl hs hY hT hlim (fun l hl => ⟨hli l hl, (hD l hl).1⟩) x1 x2 x3
  have ev : vL lim (fun m => (stM al nf nl kd T (s.1, s.2.1, asg s.2.2 D)).2.1 m) nm = vL lim (fun m => vA al nf nl kd T s m (PS D m nl)) nm := by
    congr 1
    funext m
    exact ind_m T s (fun l hl h0 => (hD l hl).2 h0) m
  rw [ev] at E
  have hV := vL_le lim (fun m => vA al nf nl kd T s m (PS D m nl)) nm
  have ee : evS (fun D => vL lim (fun m => vA al nf nl kd T s m (PS D m nl)) nm) D st = if st.1 < vL lim (fun m => vA al nf nl kd T s m (PS D m nl)) nm then (vL lim (fun m => vA al nf nl kd T s m (PS D m nl)) nm, D) else st := rfl
  rw [ee]
  generalize vL lim (fun m => vA al nf nl kd T s m (PS D m nl)) nm = V at E hV ⊢
  by_cases c : st.1 < V
  · obtain ⟨be', E2, h2⟩ := pu_m99 n (fX8_most_72 n k) line row' y1 y2 y3 (nI lim) (nI T) v3 (onI V) 5 0 (n - 6) be (by omega) (fun j hj => absurd hj (Nat.not_lt_zero j))
    have en : n - 6 + 5 + 1 = n := by omega
    rw [en] at E2
    refine ⟨row', be', y1, y2, y3, h1, ?_, fun _ i hi => ?_, ?_⟩
    · rw [if_pos c]; exact hV
    · rw [if_pos c, h2 i (by omega)]
      exact hli i hi
    · have nle : ¬ onI V ≤ onI st.1 := fun q => by have := (onI_le (by omega) (by omega)).mp q; omega
      rw [if_pos c, fX8_most_72]
      dsimp only
      rw [if_neg (show ¬ nI 1 = (0 : Int32) by decide), E, Option.bind_some]
      dsimp only
      rw [if_neg nle]
      exact E2
  · refine ⟨row', be, y1, y2, y3, h1, ?_, ?_, ?_⟩
    · rw [if_neg c]; exact hst
    · rw [if_neg c]; exact hbe
    · have le' : onI V ≤ onI st.1 := (onI_le (by omega) (by omega)).mpr (by omega)
      rw [if_neg c, fX8_most_72]
      dsimp only
      rw [if_neg (show ¬ nI 1 = (0 : Int32) by decide), E, Option.bind_some]
      dsimp only
      rw [if_pos le']
/-- all lines from l on -/
theorem pu_ln {n nf nm nl T lim : Nat} {le al kd : Nat → Nat} {s : rmS} (v3 : Int32) : ∀ (r l : Nat) (D : Nat → Nat) (st : bSt) (row line be : Nat → Int32) (x1 x2 x3 : Int32) (k : Nat), l + r = nl → lnE n nf nm nl T lim le al kd s row → (∀ i, i < nl → line i = nI (D i)) → (∀ i, i < nl → D i ≤ nm ∧ (s.2.2 i ≠ 0 → D i = 0)) → (∀ i, l ≤ i → i < nl → D i = 0) → st.1 ≤ 13 → (st.1 ≠ 0 → ∀ i, i < nl → be i = nI (st.2 i)) →
    ∃ (D' : Nat → Nat) (row' line' be' : Nat → Int32) (y1 y2 y3 : Int32), (∀ j, j < 576 → row' j = row j) ∧ (∀ i, i < nl → line' i = nI (D' i)) ∧ (∀ i, i < l → D' i = D i) ∧ (∀ i, i < nl → D' i ≤ nm) ∧ atMax s.2.2 nm nl l D' ∧
      (cfS (fun D => vL lim (fun m => vA al nf nl kd T s m (PS D m nl)) nm) s.2.2 nm r l D st).1 ≤ 13 ∧ ((cfS (fun D => vL lim (fun m => vA al nf nl kd T s m (PS D m nl)) nm) s.2.2 nm r l D st).1 ≠ 0 → ∀ i, i < nl → be' i = nI ((cfS (fun D => vL lim (fun m => vA al nf nl kd T s m (PS D m nl)) nm) s.2.2 nm r l D st).2 i)) ∧
      fX8_most_72 n (k + cN s.2.2 nm r l) line row x1 x2 x3 be (nI lim) (nI T) v3 (onI st.1) (nI 1) = fX8_most_125 n (fX8_most_72 n k) line' row' y1 y2 y3 be' (nI lim) (nI T) v3 (onI (cfS (fun D => vL lim (fun m => vA al nf nl kd T s m (PS D m nl)) nm) s.2.2 nm r l D st).1) := by
  intro r
  induction r with
  | zero =>
    intro l D st row line be x1 x2 x3 k hl h hli hD h0 hst hbe
    obtain ⟨row', be', y1, y2, y3, k1, k2, k3, E⟩ := pu_ev h hli hD hst hbe x1 x2 x3 v3 k
    exact ⟨D, row', line, be', y1, y2, y3, k1, hli, fun _ _ => rfl, fun i hi => (hD i hi).1, fun j h1 h2 => absurd h2 (by omega), k2, k3, E⟩
  | succ r ih =>
    intro l D st row line be x1 x2 x3 k hl h hli hD h0 hst hbe
    have hDl : D l = 0 := h0 l (Nat.le_refl l) (by omega)
    rw [cN_s, cfS_s]
    by_cases c : s.2.2 l = 0
    · rw [if_pos c, if_pos c]
      have loop : ∀ (t x k : Nat) (st : bSt) (row line be : Nat → Int32) (x1 x2 x3 : Int32), x + t = nm → lnE n nf nm nl T lim le al kd s row → (∀ i, i < nl → line i = nI (updN D l x i)) → st.1 ≤ 13 → (st.1 ≠ 0 → ∀ i, i < nl → be i = nI (st.2 i)) →
          ∃ (D' : Nat → Nat) (row' line' be' : Nat → Int32) (y1 y2 y3 : Int32), (∀ j, j < 576 → row' j = row j) ∧ (∀ i, i < nl → line' i = nI (D' i)) ∧ (∀ i, i < l → D' i = D i) ∧ (∀ i, i < nl → D' i ≤ nm) ∧ atMax s.2.2 nm nl l D' ∧
            (itS (fun d st => cfS (fun D => vL lim (fun m => vA al nf nl kd T s m (PS D m nl)) nm) s.2.2 nm r (l + 1) (updN D l d) st) (t + 1) x st).1 ≤ 13 ∧ ((itS (fun d st => cfS (fun D => vL lim (fun m => vA al nf nl kd T s m (PS D m nl)) nm) s.2.2 nm r (l + 1) (updN D l d) st) (t + 1) x st).1 ≠ 0 → ∀ i, i < nl → be' i = nI ((itS (fun d st => cfS (fun D => vL lim (fun m => vA al nf nl kd T s m (PS D m nl)) nm) s.2.2 nm r (l + 1) (updN D l d) st) (t + 1) x st).2 i)) ∧
            fX8_most_72 n (k + (t + 1) * cN s.2.2 nm r (l + 1)) line row x1 x2 x3 be (nI lim) (nI T) v3 (onI st.1) (nI 1) = fX8_most_125 n (fX8_most_72 n k) line' row' y1 y2 y3 be' (nI lim) (nI T) v3 (onI (itS (fun d st => cfS (fun D => vL lim (fun m => vA al nf nl kd T s m (PS D m nl)) nm) s.2.2 nm r (l + 1) (updN D l d) st) (t + 1) x st).1) := by
        intro t
        induction t with
        | zero =>
          intro x k st row line be x1 x2 x3 hx h hli hst hbe
          have : x = nm := by omega
          subst this
          obtain ⟨D', row', line', be', y1, y2, y3, k1, k2, k3, k4, k5, k6, k7, E⟩ := ih (l + 1) (updN D l x) st row line be x1 x2 x3 k (by omega) h hli (fun i hi => by
            by_cases e : i = l
            · rw [e, updN_at]; exact ⟨Nat.le_refl _, fun q => absurd c q⟩
            · rw [updN_ne _ _ e]; exact hD i hi) (fun i h1 h2 => by rw [updN_ne _ _ (by omega)]; exact h0 i (by omega) h2) hst hbe
          refine ⟨D', row', line', be', y1, y2, y3, k1, k2, fun i hi => ?_, k4, fun j h1 h2 => ?_, k6, k7, ?_⟩
          · rw [k3 i (by omega), updN_ne _ _ (by omega)]
          · by_cases e : j = l
            · rw [e, if_pos c, k3 l (by omega), updN_at]
            · exact k5 j (by omega) h2
          · rw [Nat.zero_add, Nat.one_mul]
            exact E
        | succ t iht =>
          intro x k st row line be x1 x2 x3 hx h hli hst hbe
          obtain ⟨D', row', line', be', y1, y2, y3, k1, k2, k3, k4, k5, k6, k7, E⟩ := ih (l + 1) (updN D l x) st row line be x1 x2 x3 (k + (t + 1) * cN s.2.2 nm r (l + 1)) (by omega) h hli (fun i hi => by
            by_cases e : i = l
            · rw [e, updN_at]; exact ⟨by omega, fun q => absurd c q⟩
            · rw [updN_ne _ _ e]; exact hD i hi) (fun i h1 h2 => by rw [updN_ne _ _ (by omega)]; exact h0 i (by omega) h2) hst hbe
          have h' := lnE_row h k1
          obtain ⟨hn, o, hnm, hnl, hs, hT, hlim, ba, mi, hY⟩ := id h'
          have hY2 := hY.2.1
          have g1 : ∀ j, j < nl → s.2.2 j ≤ nm ∧ row' (4 + j) = onI (s.2.2 j) := fun j hj => ⟨hs.2.2 j hj, hY2.2.2.2.2.2 j hj⟩
          have g2 : ∀ i, l < i → i ≤ nl - 1 → if s.2.2 i = 0 then D' i = nm else D' i = 0 := fun i h1 h2 => k5 i (by omega) (by omega)
          have g3 : D' l = x := by rw [k3 l (by omega), updN_at]
          obtain ⟨line2, E2, h2⟩ := pu_nl_go (n := n) hnm hnl hY2.1 g1 (show l < nl by omega) c (show x < nm by omega) (nl - 1 - l) (nl - 1) (n - (nl - 1 - l) - 1) D' line' (by omega) (by omega) k2 g2 g3
          have en : n - (nl - 1 - l) - 1 + (nl - 1 - l) + 1 = n := by omega
          rw [en] at E2
          have NL : fX8_nextLine n row' line' = some (nI 1, line2) := by
            unfold fX8_nextLine
            rw [hY2.2.1, show nI nl - 1 = nI (nl - 1) from q_sub (b := 1) (by omega)]
            exact E2
          have h3 : ∀ i, i < nl → line2 i = nI (updN D l (x + 1) i) := by
            intro i hi
            rw [h2 i hi]
            by_cases e : i = l
            · rw [if_pos e, e, updN_at]
            · rw [if_neg e, updN_ne _ _ e]
              by_cases e2 : l < i ∧ i ≤ nl - 1
              · rw [if_pos e2, h0 i (by omega) hi]
              · rw [if_neg e2, k3 i (by omega), updN_ne _ _ e]
          obtain ⟨D2, row2, line3, be2, w1, w2, w3, j1, j2, j3, j4, j5, j6, j7, E3⟩ := iht (x + 1) k _ row' line2 be' y1 y2 y3 (by omega) h' h3 k6 k7
          refine ⟨D2, row2, line3, be2, w1, w2, w3, fun j hj => (j1 j hj).trans (k1 j hj), j2, j3, j4, j5, j6, j7, ?_⟩
          have ef : k + (t + 1 + 1) * cN s.2.2 nm r (l + 1) = k + (t + 1) * cN s.2.2 nm r (l + 1) + cN s.2.2 nm r (l + 1) := by
            rw [Nat.add_mul (t + 1) 1, Nat.one_mul, Nat.add_assoc]
          rw [ef, E]
          unfold fX8_most_125 at E3 ⊢
          rw [NL, Option.bind_some]
          exact E3
      exact loop nm 0 k st row line be x1 x2 x3 (by omega) h (fun i hi => by rw [updN_self hDl]; exact hli i hi) hst hbe
    · rw [if_neg c, if_neg c, updN_self hDl]
      obtain ⟨D', row', line', be', y1, y2, y3, k1, k2, k3, k4, k5, k6, k7, E⟩ := ih (l + 1) D st row line be x1 x2 x3 k (by omega) h hli hD (fun i h1 h2 => h0 i (by omega) h2) hst hbe
      refine ⟨D', row', line', be', y1, y2, y3, k1, k2, fun i hi => k3 i (by omega), k4, fun j h1 h2 => ?_, k6, k7, E⟩
      by_cases e : j = l
      · rw [e, if_neg c, k3 l (by omega)]
        exact hDl
      · exact k5 j (by omega) h2
