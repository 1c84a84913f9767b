def inv0 (st : bSt) : Prop := st.1 = 0 → ∀ j, st.2 j = 0
theorem inv0_it {f : Nat → bSt → bSt} (h : ∀ d st, inv0 st → inv0 (f d st)) : ∀ (t i : Nat) (st : bSt), inv0 st → inv0 (itS f t i st) := by
  intro t
  induction t with
  | zero => intro i st k; exact k
  | succ t ih => intro i st k; exact ih (i + 1) _ (h i st k)
theorem inv0_cf (V : (Nat → Nat) → Nat) (O : Nat → Nat) (nm : Nat) : ∀ (r l : Nat) (D : Nat → Nat) (st : bSt), inv0 st → inv0 (cfS V O nm r l D st) := by
  intro r
  induction r with
  | zero =>
    intro l D st k
    show inv0 (evS V D st)
    unfold evS
    by_cases c : st.1 < V D
    · rw [if_pos c]
      intro q
      have : V D = 0 := q
      omega
    · rw [if_neg c]; exact k
  | succ r ih =>
    intro l D st k
    rw [cfS_s]
    by_cases c : O l = 0
    · rw [if_pos c]
      exact inv0_it (fun d st k => ih (l + 1) _ st k) _ _ _ k
    · rw [if_neg c]
      exact ih (l + 1) _ st k
theorem invN_cf (V : (Nat → Nat) → Nat) (O : Nat → Nat) (nm : Nat) : ∀ (r l : Nat) (D : Nat → Nat) (st : bSt), (∀ j, D j ≤ nm) → (∀ j, st.2 j ≤ nm) → ∀ j, (cfS V O nm r l D st).2 j ≤ nm := by
  intro r
  induction r with
  | zero =>
    intro l D st hD k
    show ∀ j, (evS V D st).2 j ≤ nm
    unfold evS
    by_cases c : st.1 < V D
    · rw [if_pos c]; exact hD
    · rw [if_neg c]; exact k
  | succ r ih =>
    intro l D st hD k
    have up : ∀ d, d ≤ nm → ∀ j, updN D l d j ≤ nm := by
      intro d hd j
      by_cases e : j = l
      · rw [e, updN_at]; exact hd
      · rw [updN_ne _ _ e]; exact hD j
    rw [cfS_s]
    by_cases c : O l = 0
    · rw [if_pos c]
      have it : ∀ (t i : Nat) (st : bSt), i + t = nm + 1 → (∀ j, st.2 j ≤ nm) → ∀ j, (itS (fun d st => cfS V O nm r (l + 1) (updN D l d) st) t i st).2 j ≤ nm := by
        intro t
        induction t with
        | zero => intro i st _ k; exact k
        | succ t iht => intro i st hi k; exact iht (i + 1) _ (by omega) (ih (l + 1) _ st (up i (by omega)) k)
      exact it (nm + 1) 0 st (by omega) k
    · rw [if_neg c]
      exact ih (l + 1) _ st (up 0 (Nat.zero_le _)) k
/-- what is answered: the most, or a leech's place -/
def anS (st : bSt) (v : Nat) : Int32 := if v = 0 then onI st.1 else onI (st.2 (v - 1))
theorem pu_m46 (n : Nat) (row : Nat → Int32) (x1 x2 x3 : Int32) (be : Nat → Int32) (v1 v2 v3 : Int32) : ∀ (t i k : Nat) (line : Nat → Int32), i + t = 5 → (∀ j, j < i → line j = nI 0) →
    ∃ line', fX8_most_46 n (k + t + 1) line row x1 x2 x3 be v1 v2 v3 (nI i) = fX8_most_72 n n line' row x1 x2 x3 be v1 v2 v3 (onI 0) (nI 1) ∧ ∀ j, j < 5 → line' j = nI 0 := by
  intro t
  induction t with
  | zero =>
    intro i k line hi h
    refine ⟨line, ?_, fun j hj => h j (by omega)⟩
    unfold fX8_most_46
    simp (disch := omega) only [Nat.zero_add, qa, qb, qbb, qc, qd, qe, qf, qg, Option.bind_some, reduceIte, or_false, false_or, or_self, or_true, true_or, and_true, true_and, and_false, false_and, not_true_eq_false, not_false_eq_true]
  | succ t ih =>
    intro i k line hi h
    obtain ⟨line', E, h2⟩ := ih (i + 1) k (upd line i (nI 0)) (by omega) (fun j hj => by
      by_cases e : j = i
      · rw [e, upd_at]
      · rw [upd_ne _ _ e]; exact h j (by omega))
    refine ⟨line', ?_, h2⟩
    have e : k + (t + 1) + 1 = (k + t + 1) + 1 := by omega
    rw [e]
    rw [← E, fX8_most_46]
    simp (disch := omega) only [Nat.zero_add, qa, qb, qbb, qc, qd, qe, qf, qg, Option.bind_some, reduceIte, or_false, false_or, or_self, or_true, true_or, and_true, true_and, and_false, false_and, not_true_eq_false, not_false_eq_true]
/-- the reference -/
theorem pu_most8 {n nf nm nl T lim v : Nat} {le al kd : Nat → Nat} {s : rmS} {row : Nat → Int32} (hn : 4000 ≤ n) (h : lnE n nf nm nl T lim le al kd s row) (hv : v ≤ nl) (line be : Nat → Int32) (x1 x2 x3 : Int32) :
    ∃ (row' line' be' : Nat → Int32) (y1 y2 y3 : Int32), (∀ j, j < 576 → row' j = row j) ∧
      fX8_most_46 n n line row x1 x2 x3 be (nI lim) (nI T) (onI v) (nI 0) = some (anS (cfS (fun D => vL lim (fun m => vA al nf nl kd T s m (PS D m nl)) nm) s.2.2 nm nl 0 (fun _ => 0) (0, fun _ => 0)) v, line', row', y1, y2, y3, be') := by
  obtain ⟨hn4, o, hnm, hnl, hs, hT, hlim, ba, mi, hY⟩ := id h
  obtain ⟨line1, E1, h1⟩ := pu_m46 n row x1 x2 x3 be (nI lim) (nI T) (onI v) 5 0 (n - 6) line (by omega) (fun j hj => absurd hj (Nat.not_lt_zero j))
  rw [show n - 6 + 5 + 1 = n by omega] at E1
  have c1 := cN_le s.2.2 hnm nl 0
  have c2 : 5 ^ nl ≤ 5 ^ 5 := Nat.pow_le_pow_right (by decide) hnl
  have c3 : (5 : Nat) ^ 5 = 3125 := by decide
  obtain ⟨k, hk⟩ : ∃ k, n = k + 1 + cN s.2.2 nm nl 0 := ⟨n - 1 - cN s.2.2 nm nl 0, by omega⟩
  obtain ⟨D', row', line', be', y1, y2, y3, k1, k2, -, k4, k5, k6, k7, E2⟩ := pu_ln (onI v) nl 0 (fun _ => 0) (0, fun _ => 0) row line1 be x1 x2 x3 (k + 1) (by omega) h (fun i hi => h1 i (by omega)) (fun i hi => ⟨Nat.zero_le _, fun _ => rfl⟩) (fun i _ _ => rfl) (by show 0 ≤ 13; omega) (fun q => absurd rfl q)
  have iv := inv0_cf (fun D => vL lim (fun m => vA al nf nl kd T s m (PS D m nl)) nm) s.2.2 nm nl 0 (fun _ => 0) (0, fun _ => 0) (fun _ _ => rfl)
  have iw := invN_cf (fun D => vL lim (fun m => vA al nf nl kd T s m (PS D m nl)) nm) s.2.2 nm nl 0 (fun _ => 0) (0, fun _ => 0) (fun _ => Nat.zero_le _) (fun _ => Nat.zero_le _)
  generalize cfS (fun D => vL lim (fun m => vA al nf nl kd T s m (PS D m nl)) nm) s.2.2 nm nl 0 (fun _ => 0) (0, fun _ => 0) = st at k6 k7 E2 iv iw ⊢
  have hY' := relY0_row o.1 hnm hnl (fun q hq => k1 q (by omega)) hY
  obtain ⟨line2, E3⟩ := pu_nl_end (n := n) (nm := nm) (O := s.2.2) hnm hnl hY'.2.1.1 (fun j hj => ⟨hs.2.2 j hj, hY'.2.1.2.2.2.2.2 j hj⟩) nl (n - nl - 1) D' line' (Nat.le_refl _) k2 (fun i hi => k5 i (Nat.zero_le _) hi)
  rw [show n - nl - 1 + nl + 1 = n by omega] at E3
  have NL : fX8_nextLine n row' line' = some (nI 0, line2) := by
    unfold fX8_nextLine
    rw [hY'.2.1.2.1]
    exact E3
  refine ⟨row', line2, be', y1, y2, y3, k1, ?_⟩
  rw [E1]
  have E2' : fX8_most_72 n n line1 row x1 x2 x3 be (nI lim) (nI T) (onI v) (onI 0) (nI 1) = fX8_most_125 n (fX8_most_72 n (k + 1)) line' row' y1 y2 y3 be' (nI lim) (nI T) (onI v) (onI st.1) := by
    rw [← hk] at E2
    exact E2
  rw [E2']
  unfold fX8_most_125
  rw [NL, Option.bind_some]
  dsimp only
  unfold fX8_most_72 fX8_most_161 anS
  rw [if_pos nI_0]
  by_cases c : st.1 = 0
  · have c0 : ¬ (0 : Int32) ≤ onI st.1 := by rw [c]; decide
    rw [if_neg c0]
    by_cases d : v = 0
    · rw [if_pos d, c]
      rfl
    · rw [if_neg d, iv c]
      rfl
  · have c0 : (0 : Int32) ≤ onI st.1 := by rw [onI_ne0 c]; exact nI_le (a := 0) (Nat.zero_le _) (by omega)
    rw [if_pos c0]
    by_cases d : v = 0
    · rw [if_pos d, d, if_pos onI_0]
    · have hb := k7 c (v - 1) (by omega)
      have cl := nI_inL (c := v - 1) (N := 5) (by omega) (by decide)
      have kl : (nI (v - 1)).toNatClampNeg = v - 1 := nI_clamp (by omega)
      rw [if_neg d, onI_ne0 d, if_neg (onI_nn1 (by omega)), kl, if_neg cl, hb]
      have sl : st.2 (v - 1) < 2147483648 := by
        have := iw (v - 1)
        omega
      rw [show nI (st.2 (v - 1)) - 1 = onI (st.2 (v - 1)) from q_lin sl]
/-- the class: a plan is begun -/
theorem pu_b57 (n : Nat) (q1 q2 : Int32) (g : Nat → Int32) (p1 p2 p3 p4 p5 : Int32) (pu : Nat → Int32) : ∀ (t i k : Nat) (ch be : Nat → Int32), i + t = 5 → (∀ j, j < i → be j = onI 0) →
    ∃ ch' be', fX2_begin_57 n q1 q2 g (k + t + 1) p1 p2 p3 p4 p5 pu ch be (nI i) = some (p1, p2, p3, p4, p5, pu, ch', be') ∧ ∀ j, j < 5 → be' j = onI 0 := by
  intro t
  induction t with
  | zero =>
    intro i k ch be hi h
    refine ⟨ch, be, ?_, fun j hj => h j (by omega)⟩
    unfold fX2_begin_57
    simp (disch := omega) only [Nat.zero_add, qa, qb, qbb, qc, qd, qe, qf, qg, Option.bind_some, reduceIte, or_false, false_or, or_self, or_true, true_or, and_true, true_and, and_false, false_and, not_true_eq_false, not_false_eq_true]
  | succ t ih =>
    intro i k ch be hi h
    obtain ⟨ch', be', E, h2⟩ := ih (i + 1) k (upd ch i (onI 0)) (upd be i (onI 0)) (by omega) (fun j hj => by
      by_cases e : j = i
      · rw [e, upd_at]
      · rw [upd_ne _ _ e]; exact h j (by omega))
    refine ⟨ch', be', ?_, h2⟩
    have e : k + (t + 1) + 1 = (k + t + 1) + 1 := by omega
    rw [e, ← E, fX2_begin_57]
    simp (disch := omega) only [Nat.zero_add, qa, qb, qbb, qc, qd, qe, qf, qg, Option.bind_some, reduceIte, or_false, false_or, or_self, or_true, true_or, and_true, true_and, and_false, false_and, not_true_eq_false, not_false_eq_true]
theorem pu_b37 {n : Nat} (hn : 400 ≤ n) (q1 q2 : Int32) (g : Nat → Int32) (p1 p2 p3 p4 p5 : Int32) : ∀ (t i k : Nat) (pu ch be : Nat → Int32), i + t = 4 → (∀ j, j < i → pu j = nI 0) →
    ∃ pu' ch' be', fX2_begin_37 n q1 q2 g (k + t + 1) p1 p2 p3 p4 p5 pu ch be (nI i) = some (p1, p2, p3, p4, p5, pu', ch', be') ∧ (∀ j, j < 4 → pu' j = nI 0) ∧ ∀ j, j < 5 → be' j = onI 0 := by
  intro t
  induction t with
  | zero =>
    intro i k pu ch be hi h
    obtain ⟨ch', be', E, h2⟩ := pu_b57 n q1 q2 g p1 p2 p3 p4 p5 pu 5 0 (n - 6) ch be (by omega) (fun j hj => absurd hj (Nat.not_lt_zero j))
    rw [show n - 6 + 5 + 1 = n by omega] at E
    refine ⟨pu, ch', be', ?_, fun j hj => h j (by omega), h2⟩
    rw [← E, fX2_begin_37]
    simp (disch := omega) only [Nat.zero_add, qa, qb, qbb, qc, qd, qe, qf, qg, Option.bind_some, reduceIte, or_false, false_or, or_self, or_true, true_or, and_true, true_and, and_false, false_and, not_true_eq_false, not_false_eq_true]
  | succ t ih =>
    intro i k pu ch be hi h
    obtain ⟨pu', ch', be', E, h1, h2⟩ := ih (i + 1) k (upd pu i (nI 0)) ch be (by omega) (fun j hj => by
      by_cases e : j = i
      · rw [e, upd_at]
      · rw [upd_ne _ _ e]; exact h j (by omega))
    refine ⟨pu', ch', be', ?_, h1, h2⟩
    have e : k + (t + 1) + 1 = (k + t + 1) + 1 := by omega
    rw [e, ← E, fX2_begin_37]
    simp (disch := omega) only [Nat.zero_add, qa, qb, qbb, qc, qd, qe, qf, qg, Option.bind_some, reduceIte, or_false, false_or, or_self, or_true, true_or, and_true, true_and, and_false, false_and, not_true_eq_false, not_false_eq_true]
/-- the class: foretold, then chosen -/
theorem pu_m57 {n : Nat} (hn : 400 ≤ n) {lw : Nat → Int32} {al kd : Nat → Nat} {nf nm nl ba mi T lim off v : Nat} {s : rmS} {N : rmT} (hnf : nf ≤ 12) (hnm : nm ≤ 4) (hnl : nl ≤ 5) (hC : fctC lw nf al) (hs : okS nf nm nl s) (hX : relX nm nl kd N ba mi s) (hT : T ≤ 10) (hlim : lim ≤ 12) (hmi : mi ≤ 999) (hoff : off = colB (fun l => decide (s.2.2 l = 0)) nl) (hv : v ≤ nl) (pu ch be : Nat → Int32) (hpu : ∀ j, j < 4 → pu j = nI 0) (hbe : ∀ j, j < 5 → be j = onI 0) : ∀ (t i q : Nat) (R : rmT) (af : Nat → Nat → Int32), i + t = nm → (∀ m, m < i → ∀ P, P < 32 → difB P off = 0 → af m P = nI (vA al nf nl kd T s m P)) →
    ∃ (p5 : Int32) (pu' ch' be' : Nat → Int32) (R' : rmT) (af' : Nat → Nat → Int32), fX7_most_57 n N.2.1 N.1 N.2.2.2.2.2.2.1 N.2.2.1 N.2.2.2.1 N.2.2.2.2.1 N.2.2.2.2.2.1 N.2.2.2.2.2.2.2 lw (q + t + 1) (nI nm) (nI nl) (nI off) (nI lim) (onI 0) pu ch be R.1 R.2.1 R.2.2.1 R.2.2.2.1 R.2.2.2.2.1 R.2.2.2.2.2.1 R.2.2.2.2.2.2.1 R.2.2.2.2.2.2.2 af (nI T) (onI v) (nI i) =
      some (anS (cfS (fun D => vL lim (fun m => vA al nf nl kd T s m (PS D m nl)) nm) s.2.2 nm nl 0 (fun _ => 0) (0, fun _ => 0)) v, nI nm, nI nl, nI off, nI lim, p5, pu', ch', be', R'.1, R'.2.1, R'.2.2.1, R'.2.2.2.1, R'.2.2.2.2.1, R'.2.2.2.2.2.1, R'.2.2.2.2.2.2.1, R'.2.2.2.2.2.2.2, af') := by
  have ho : off < 32 := by rw [hoff]; exact Nat.lt_of_lt_of_le (colB_lt _ nl) (Nat.le_trans (Nat.pow_le_pow_right (by decide) hnl) (by decide))
  obtain ⟨x1, x2, x3, x4, x5, x6, x7, x8⟩ := id hX
  have L : fX3_leechesOn n (nI nl) N.2.2.2.2.2.2.1 (-1) = some (nI off) := by
    rw [hoff]
    exact pu_leechesOn (by omega) hnl (fun l hl => by rw [x8 l hl]; exact onI_eq_n (by have := hs.2.2 l hl; omega))
  intro t
  induction t with
  | zero =>
    intro i q R af hi haf
    have : i = nm := by omega
    subst this
    obtain ⟨ch', be', pu', mo', E, k1, k2, b1, b2, b3⟩ := pu_cf hn (O := s.2.2) (af := af) hnm hnl hlim rfl hoff haf (fun m P hm => by
      obtain ⟨ha2, kn2, on2, Q, S, -⟩ := pu_pass (n := n) (mi := mi) (T := T) (by omega) (by omega) (by omega) hnf hnm hnl hC (okS_put (P := P) hs hm) (⟨x5, x6, x7, (show relO nl (fun l => onI (putO s.2.2 m P l)) (putO s.2.2 m P) from fun l _ => rfl)⟩ : relC i nl kd N.2.2.2.2.2.1 N.2.2.2.2.2.2.2 N.2.2.2.2.1 (fun l => onI (putO s.2.2 m P l)) (s.1, s.2.1, putO s.2.2 m P))
      exact lt4096 hnf (S.2.1 m hm)) nl 0 (7 - nl) (fun _ => 0) (0, fun _ => 0) ch be pu (onI 0) (by omega) (fun j hj => absurd hj (Nat.not_lt_zero j)) (fun j hj => absurd hj (Nat.not_lt_zero j)) (fun m hm => hpu m (by omega)) ⟨by show 0 ≤ 13; omega, rfl, fun j hj => hbe j (by omega)⟩
    rw [show 7 - nl + nl + 1 = 8 by omega] at E
    have E' : fX2_choose n (nI nl) (nI off) (nI i) af (nI lim) ch (onI 0) be pu = some (ch', mo', be', pu') := by
      unfold fX2_choose fX2_chooseFrom
      rw [show fdX2_chooseFrom n (nI nl) (nI off) (nI i) af (nI lim) 8 ch (onI 0) be pu 0 = _ from E, Option.bind_some]
    generalize cfS (fun D => vL lim (fun m => vA al nf nl kd T s m (PS D m nl)) i) s.2.2 i nl 0 (fun _ => 0) (0, fun _ => 0) = st at b1 b2 b3 ⊢
    refine ⟨mo', pu', ch', be', R, af, ?_⟩
    unfold fX7_most_57 fX7_most_113 anS
    rw [x1, if_pos (nI_le (Nat.le_refl i) (by omega)), E', Option.bind_some]
    dsimp only
    by_cases d : v = 0
    · rw [if_pos d, d, if_pos onI_0, b2]
    · have cl := nI_inL (c := v - 1) (N := 5) (by omega) (by decide)
      have kl : (nI (v - 1)).toNatClampNeg = v - 1 := nI_clamp (by omega)
      rw [if_neg d, onI_ne0 d, if_neg (onI_nn1 (by omega)), kl, if_neg cl, b3 (v - 1) (by omega)]
  | succ t ih =>
    intro i q R af hi haf
    obtain ⟨R1, af1, E1, k1, k2, k3⟩ := pu_fp_loop hn (m := i) (off := off) hnf hnm hnl hC hs hX hT hmi (by omega) ho 32 0 (n - 33) R af (by omega)
    rw [show n - 33 + 32 + 1 = n by omega] at E1
    obtain ⟨p5, pu', ch', be', R', af', E2⟩ := ih (i + 1) q R1 af1 (by omega) (fun m hm P hP hd => by
      by_cases e : m = i
      · rw [e]; exact k1 P (Nat.zero_le _) hP hd
      · rw [k3 m e]; exact haf m (by omega) P hP hd)
    refine ⟨p5, pu', ch', be', R', af', ?_⟩
    have e : q + (t + 1) + 1 = (q + t + 1) + 1 := by omega
    rw [e]
    have F : fX7_foretellPuts n N.2.1 N.2.2.2.2.2.2.1 N.1 N.2.2.1 N.2.2.2.1 N.2.2.2.2.1 N.2.2.2.2.2.1 N.2.2.2.2.2.2.2 lw R.1 R.2.1 R.2.2.1 R.2.2.2.1 R.2.2.2.2.1 R.2.2.2.2.2.1 R.2.2.2.2.2.2.1 R.2.2.2.2.2.2.2 af (nI i) (nI T) = some (R1.1, R1.2.1, R1.2.2.1, R1.2.2.2.1, R1.2.2.2.2.1, R1.2.2.2.2.2.1, R1.2.2.2.2.2.2.1, R1.2.2.2.2.2.2.2, af1) := by
      unfold fX7_foretellPuts
      rw [x2, L, Option.bind_some, ← x2]
      exact E1
    rw [x1] at F E2
    unfold fX7_most_57
    rw [x1, if_neg (nI_ge (show i < nm by omega) (by omega)), F, Option.bind_some, nI_1]
    exact E2
/-- the call most -/
theorem pu_most {n nf nm nl u c : Nat} {le al kd : Nat → Nat} {N T : rmT} {A K : paT} {row lw : Nat → Int32} (hn : 4000 ≤ n) (hC : fctC lw nf al) (h : relW nf nm nl le al kd N T u A c K row) (p1 p2 p3 p4 p5 : Int32) (pu ch be : Nat → Int32) (R : rmT) (af : Nat → Nat → Int32) (line bl : Nat → Int32) (w1 w2 w3 v1 v2 v3 : Int32) :
    ∃ (r p1' p2' p3' p4' p5' : Int32) (pu' ch' be' : Nat → Int32) (R' : rmT) (af' : Nat → Nat → Int32) (line' row' bl' : Nat → Int32) (w1' w2' w3' : Int32),
      fX7_most n N.2.1 N.1 N.2.2.2.2.2.2.1 N.2.2.1 N.2.2.2.1 N.2.2.2.2.1 N.2.2.2.2.2.1 N.2.2.2.2.2.2.2 lw p1 p2 p3 p4 p5 pu ch be R.1 R.2.1 R.2.2.1 R.2.2.2.1 R.2.2.2.2.1 R.2.2.2.2.2.1 R.2.2.2.2.2.2.1 R.2.2.2.2.2.2.2 af v1 v2 v3 = some (r, p1', p2', p3', p4', p5', pu', ch', be', R'.1, R'.2.1, R'.2.2.1, R'.2.2.2.1, R'.2.2.2.2.1, R'.2.2.2.2.2.1, R'.2.2.2.2.2.2.1, R'.2.2.2.2.2.2.2, af') ∧
      fX8_most n line row w1 w2 w3 bl v1 v2 v3 = some (r, line', row', w1', w2', w3', bl') ∧ relW nf nm nl le al kd N T u A c K row' := by
  obtain ⟨o, hnm, hnl, ⟨zb, zm, s, ⟨hb, hm, hs⟩, hX, hy⟩, hrest⟩ := id h
  rw [relY0_eq] at hy
  obtain ⟨x1, x2, x3, x4, x5, x6, x7, x8⟩ := id hX
  have hnf := o.1
  have i17 := fun v => pu_isLeech n (row := row) (N := nl) (by omega) hy.2.1.2.1 v
  have L : fX3_leechesOn n (nI nl) N.2.2.2.2.2.2.1 (-1) = some (nI (colB (fun l => decide (s.2.2 l = 0)) nl)) := pu_leechesOn (by omega) hnl (fun l hl => by rw [x8 l hl]; exact onI_eq_n (by have := hs.2.2 l hl; omega))
  have key : ∀ v, v ≤ nl → v3 = onI v → ∃ (r p1' p2' p3' p4' p5' : Int32) (pu' ch' be' : Nat → Int32) (R' : rmT) (af' : Nat → Nat → Int32) (line' row' bl' : Nat → Int32) (w1' w2' w3' : Int32),
      fX7_most_19 n N.2.1 N.1 N.2.2.2.2.2.2.1 N.2.2.1 N.2.2.2.1 N.2.2.2.2.1 N.2.2.2.2.2.1 N.2.2.2.2.2.2.2 lw p1 p2 p3 p4 p5 pu ch be R.1 R.2.1 R.2.2.1 R.2.2.2.1 R.2.2.2.2.1 R.2.2.2.2.2.1 R.2.2.2.2.2.2.1 R.2.2.2.2.2.2.2 af v1 v2 v3 = some (r, p1', p2', p3', p4', p5', pu', ch', be', R'.1, R'.2.1, R'.2.2.1, R'.2.2.2.1, R'.2.2.2.2.1, R'.2.2.2.2.2.1, R'.2.2.2.2.2.2.1, R'.2.2.2.2.2.2.2, af') ∧
      fX8_most_16 n line row w1 w2 w3 bl v1 v2 v3 = some (r, line', row', w1', w2', w3', bl') ∧ relW nf nm nl le al kd N T u A c K row' := by
    intro v hv hv3
    subst hv3
    rcases q_cas v1 (a := 0) (N := 13) (by omega) (by omega) with ⟨lim, -, hlim, rfl⟩ | g1 | ⟨g1, -, -, g2, g3⟩
    · rcases q_cas v2 (a := 0) (N := 11) (by omega) (by omega) with ⟨t, -, ht, rfl⟩ | g1 | ⟨g1, -, -, g2, g3⟩
      · obtain ⟨pu1, ch1, be1, E1, e1, e2⟩ := pu_b37 (n := n) (by omega) (nI nm) (nI nl) N.2.2.2.2.2.2.1 (nI nm) (nI nl) (nI (colB (fun l => decide (s.2.2 l = 0)) nl)) (nI lim) (onI 0) 4 0 (n - 5) pu ch be (by omega) (fun j hj => absurd hj (Nat.not_lt_zero j))
        rw [show n - 5 + 4 + 1 = n by omega] at E1
        have B : fX2_begin n N.1 N.2.1 N.2.2.2.2.2.2.1 p1 p2 p3 p4 p5 pu ch be (nI lim) = some (nI nm, nI nl, nI (colB (fun l => decide (s.2.2 l = 0)) nl), nI lim, onI 0, pu1, ch1, be1) := by
          unfold fX2_begin
          rw [x2, L, Option.bind_some, x1]
          exact E1
        obtain ⟨q5, pu2, ch2, be2, R', af', E2⟩ := pu_m57 (n := n) (by omega) (lim := lim) hnf hnm hnl hC hs hX (show t ≤ 10 by omega) (by omega) hm rfl hv pu1 ch1 be1 e1 e2 nm 0 (n - nm - 1) R af (by omega) (fun m hm => absurd hm (Nat.not_lt_zero m))
        rw [show n - nm - 1 + nm + 1 = n by omega] at E2
        obtain ⟨row', line', bl', y1, y2, y3, k1, E3⟩ := pu_most8 (v := v) (T := t) (lim := lim) hn ⟨by omega, o, hnm, hnl, hs, by omega, by omega, zb, zm, hy⟩ hv line bl w1 w2 w3
        refine ⟨anS (cfS (fun D => vL lim (fun m => vA al nf nl kd t s m (PS D m nl)) nm) s.2.2 nm nl 0 (fun _ => 0) (0, fun _ => 0)) v, nI nm, nI nl, nI (colB (fun l => decide (s.2.2 l = 0)) nl), nI lim, q5, pu2, ch2, be2, R', af', line', row', bl', y1, y2, y3, ?_, ?_, relW_tr h k1⟩
        rotate_left
        · have a1 := q_in n (nI lim) (a := 0) (b := 12) (by decide) (by decide)
          rw [if_neg (fun k => k.elim (nI_pos (by omega)) (fun k2 => nI_nlt (a := 12) (b := lim) (by omega) (by omega) k2))] at a1
          have a2 := q_in n (nI t) (a := 0) (b := 10) (by decide) (by decide)
          rw [if_neg (fun k => k.elim (nI_pos (by omega)) (fun k2 => nI_nlt (a := 10) (b := t) (by omega) (by omega) k2))] at a2
          unfold fX8_most_16
          rw [show fX8_in n (nI lim).toInt64 0 12 = some (nI 1) from a1, Option.bind_some, if_neg (show ¬ nI 1 = (0 : Int32) by decide), show fX8_in n (nI t).toInt64 0 10 = some (nI 1) from a2, Option.bind_some, if_neg (show ¬ nI 1 = (0 : Int32) by decide)]
          exact E3
        · unfold fX7_most_19
          rw [if_neg (show ¬ nI lim < 0 from nI_pos (by omega)), if_neg (show ¬ (12 : Int32) < nI lim from nI_nlt (a := 12) (by omega) (by omega)), if_neg (show ¬ nI t < 0 from nI_pos (by omega)), if_pos (show nI t ≤ 10 from nI_le (b := 10) (by omega) (by decide)), B, Option.bind_some]
          exact E2
      · refine ⟨-nI 3, p1, p2, p3, p4, p5, pu, ch, be, R, af, line, row, bl, w1, w2, w3, ?_, ?_, h⟩
        · unfold fX7_most_19 fX7_most_39
          rw [if_neg (show ¬ nI lim < 0 from nI_pos (by omega)), if_neg (show ¬ (12 : Int32) < nI lim from nI_nlt (a := 12) (by omega) (by omega)), if_pos (show v2 < 0 from g1)]
          rfl
        · unfold fX8_most_16 fX8_most_40
          simp (disch := omega) only [Nat.zero_add, qa, qb, qbb, qc, qd, qe, qf, qg, Option.bind_some, reduceIte, or_false, false_or, or_self, or_true, true_or, and_true, true_and, and_false, false_and, not_true_eq_false, not_false_eq_true, g1]
      · refine ⟨-nI 3, p1, p2, p3, p4, p5, pu, ch, be, R, af, line, row, bl, w1, w2, w3, ?_, ?_, h⟩
        · unfold fX7_most_19 fX7_most_39
          rw [if_neg (show ¬ nI lim < 0 from nI_pos (by omega)), if_neg (show ¬ (12 : Int32) < nI lim from nI_nlt (a := 12) (by omega) (by omega)), if_neg (show ¬ v2 < 0 from g1), if_neg (show ¬ v2 ≤ 10 from g2)]
          rfl
        · unfold fX8_most_16 fX8_most_40
          simp (disch := omega) only [Nat.zero_add, qa, qb, qbb, qc, qd, qe, qf, qg, Option.bind_some, reduceIte, or_false, false_or, or_self, or_true, true_or, and_true, true_and, and_false, false_and, not_true_eq_false, not_false_eq_true, g1, g3]
    · refine ⟨-nI 3, p1, p2, p3, p4, p5, pu, ch, be, R, af, line, row, bl, w1, w2, w3, ?_, ?_, h⟩
      · unfold fX7_most_19 fX7_most_39
        rw [if_pos (show v1 < 0 from g1)]
        rfl
      · have a1 := q_in n v1 (a := 0) (b := 12) (by decide) (by decide)
        rw [if_pos (Or.inl g1)] at a1
        unfold fX8_most_16 fX8_most_40
        rw [show fX8_in n v1.toInt64 0 12 = some (nI 0) from a1, Option.bind_some, if_pos nI_0]
        rfl
    · refine ⟨-nI 3, p1, p2, p3, p4, p5, pu, ch, be, R, af, line, row, bl, w1, w2, w3, ?_, ?_, h⟩
      · unfold fX7_most_19 fX7_most_39
        rw [if_neg (show ¬ v1 < 0 from g1), if_pos (show 12 < v1 from g3)]
        rfl
      · have a1 := q_in n v1 (a := 0) (b := 12) (by decide) (by decide)
        rw [if_pos (Or.inr g3)] at a1
        unfold fX8_most_16 fX8_most_40
        rw [show fX8_in n v1.toInt64 0 12 = some (nI 0) from a1, Option.bind_some, if_pos nI_0]
        rfl
  by_cases d : v3 = onI 0
  · obtain ⟨r, p1', p2', p3', p4', p5', pu', ch', be', R', af', line', row', bl', w1', w2', w3', E1, E2, hW⟩ := key 0 (Nat.zero_le _) d
    refine ⟨r, p1', p2', p3', p4', p5', pu', ch', be', R', af', line', row', bl', w1', w2', w3', ?_, ?_, hW⟩
    · unfold fX7_most
      rw [if_pos (show v3 = -1 from d)]
      exact E1
    · unfold fX8_most
      rw [if_pos (show v3 = -1 from d)]
      exact E2
  · rcases inG_cas v3 (N := nl) (by omega) with g | ⟨l, hl, rfl, g⟩
    · refine ⟨-nI 2, p1, p2, p3, p4, p5, pu, ch, be, R, af, line, row, bl, w1, w2, w3, ?_, ?_, h⟩
      · unfold fX7_most
        rw [if_neg (show ¬ v3 = -1 from d), x2, pu_hasLeechG, Option.bind_some, if_pos (show inG v3 nl = 0 from g)]
        rfl
      · unfold fX8_most
        rw [if_neg (show ¬ v3 = -1 from d), i17, Option.bind_some, if_pos (show inG v3 nl = 0 from g)]
        rfl
    · obtain ⟨r, p1', p2', p3', p4', p5', pu', ch', be', R', af', line', row', bl', w1', w2', w3', E1, E2, hW⟩ := key (l + 1) (by omega) (onI_s l).symm
      refine ⟨r, p1', p2', p3', p4', p5', pu', ch', be', R', af', line', row', bl', w1', w2', w3', ?_, ?_, hW⟩
      · unfold fX7_most
        rw [if_neg (show ¬ nI l = -1 from d), x2, pu_hasLeechG, Option.bind_some, g, if_neg (show ¬ nI 1 = (0 : Int32) by decide), ← x2]
        exact E1
      · unfold fX8_most
        rw [if_neg (show ¬ nI l = -1 from d), i17, Option.bind_some, g, if_neg (show ¬ nI 1 = (0 : Int32) by decide)]
        exact E2
