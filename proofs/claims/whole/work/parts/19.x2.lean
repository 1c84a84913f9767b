/-! MOST: all lines, the first ones first -/
abbrev bSt := Nat × (Nat → Nat)
def evS (V : (Nat → Nat) → Nat) (D : Nat → Nat) (st : bSt) : bSt := if st.1 < V D then (V D, D) else st
def itS (f : Nat → bSt → bSt) : Nat → Nat → bSt → bSt
  | 0, _, st => st
  | t + 1, i, st => itS f t (i + 1) (f i st)
theorem itS_s (f : Nat → bSt → bSt) (t i : Nat) (st : bSt) : itS f (t + 1) i st = itS f t (i + 1) (f i st) := rfl
def cfS (V : (Nat → Nat) → Nat) (O : Nat → Nat) (nm : Nat) : Nat → Nat → (Nat → Nat) → bSt → bSt
  | 0, _, D, st => evS V D st
  | r + 1, l, D, st => if O l = 0 then itS (fun d st => cfS V O nm r (l + 1) (updN D l d) st) (nm + 1) 0 st else cfS V O nm r (l + 1) (updN D l 0) st
theorem cfS_s (V : (Nat → Nat) → Nat) (O : Nat → Nat) (nm r l : Nat) (D : Nat → Nat) (st : bSt) : cfS V O nm (r + 1) l D st = if O l = 0 then itS (fun d st => cfS V O nm r (l + 1) (updN D l d) st) (nm + 1) 0 st else cfS V O nm r (l + 1) (updN D l 0) st := rfl
theorem colB_congr {p q : Nat → Bool} : ∀ k, (∀ j, j < k → p j = q j) → colB p k = colB q k := by
  intro k
  induction k with
  | zero => intro _; rfl
  | succ k ih =>
    intro h
    show colB p k ||| (if p k = true then 2 ^ k else 0) = colB q k ||| (if q k = true then 2 ^ k else 0)
    rw [ih (fun j hj => h j (by omega)), h k (by omega)]
theorem PS_upd (D : Nat → Nat) (m l x : Nat) : PS (updN D l x) m (l + 1) = PS D m l ||| (if x = m + 1 then 2 ^ l else 0) := by
  have e : PS (updN D l x) m l = PS D m l := colB_congr l (fun j hj => by rw [updN_ne _ _ (by omega)])
  have e2 : PS (updN D l x) m (l + 1) = PS (updN D l x) m l ||| (if decide (updN D l x l = m + 1) = true then 2 ^ l else 0) := rfl
  rw [e2, e, updN_at]
  by_cases c : x = m + 1
  · rw [if_pos c, if_pos (decide_eq_true c)]
  · rw [if_neg c, if_neg (by simpa using c)]
theorem PS_lt (D : Nat → Nat) (m : Nat) {l : Nat} (h : l ≤ 5) : PS D m l < 32 := Nat.lt_of_lt_of_le (colB_lt _ l) (Nat.le_trans (Nat.pow_le_pow_right (by decide) h) (by decide))
theorem PS_undo (D : Nat → Nat) (m l : Nat) (hl : l < 5) : difB (PS D m l ||| 2 ^ l) (2 ^ l) = PS D m l := by
  have h1 := PS_lt D m (show l ≤ 5 by omega)
  have h2 : PS D m l ||| 2 ^ l < 32 := Nat.or_lt_two_pow (n := 5) h1 (Nat.pow_lt_pow_right (by decide) hl)
  have h3 := difB_le (PS D m l ||| 2 ^ l) (2 ^ l)
  apply set_ext (by omega) (by omega)
  intro i hi
  rw [difB_bit (by omega), Nat.testBit_or, Nat.testBit_two_pow]
  by_cases e : l = i
  · subst e
    have : (PS D m l).testBit l = false := by
      unfold PS
      rw [colB_bit]
      simp
    rw [this]
    simp
  · simp [e]
theorem PS_off {D O : Nat → Nat} {nl m : Nat} (hnl : nl ≤ 5) (h : ∀ j, j < nl → O j ≠ 0 → D j = 0) : difB (PS D m nl) (colB (fun l => decide (O l = 0)) nl) = 0 := by
  have h1 := PS_lt D m hnl
  have h3 := difB_le (PS D m nl) (colB (fun l => decide (O l = 0)) nl)
  apply set_ext (by omega) (by omega)
  intro i hi
  rw [difB_bit (by omega), Nat.zero_testBit]
  unfold PS
  rw [colB_bit, colB_bit]
  by_cases c : i < nl
  · by_cases d : D i = m + 1
    · have : O i = 0 := by
        by_cases q : O i = 0
        · exact q
        · have := h i c q; omega
      simp [this, c]
    · simp [d]
  · simp [c]
/-- the class's state: most, best -/
def relB (nl : Nat) (st : bSt) (mo : Int32) (be : Nat → Int32) : Prop := st.1 ≤ 13 ∧ mo = onI st.1 ∧ ∀ j, j < nl → be j = onI (st.2 j)
theorem pu_cf {n : Nat} (hn : 400 ≤ n) {al kd O : Nat → Nat} {nf nm nl lim T off : Nat} {s : rmS} {af : Nat → Nat → Int32} (hnm : nm ≤ 4) (hnl : nl ≤ 5) (hlim : lim ≤ 12) (hO : O = s.2.2) (hoff : off = colB (fun l => decide (O l = 0)) nl)
    (haf : ∀ m, m < nm → ∀ P, P < 32 → difB P off = 0 → af m P = nI (vA al nf nl kd T s m P)) (hv : ∀ m P, m < nm → vA al nf nl kd T s m P < 4096) : ∀ (r l d : Nat) (D : Nat → Nat) (st : bSt) (ch be pu : Nat → Int32) (mo : Int32), l + r = nl → (∀ j, j < l → ch j = onI (D j)) → (∀ j, j < l → O j ≠ 0 → D j = 0) → (∀ m, m < nm → pu m = nI (PS D m l)) → relB nl st mo be →
    ∃ (ch' be' pu' : Nat → Int32) (mo' : Int32), fdX2_chooseFrom n (nI nl) (nI off) (nI nm) af (nI lim) (d + r + 1) ch mo be pu (nI l) = some (ch', mo', be', pu') ∧ (∀ j, j < l → ch' j = ch j) ∧ (∀ m, m < nm → pu' m = pu m) ∧ relB nl (cfS (fun D => vL lim (fun m => vA al nf nl kd T s m (PS D m nl)) nm) O nm r l D st) mo' be' := by
  intro r
  induction r with
  | zero =>
    intro l d D st ch be pu mo hl hch hD hpu hB
    have : l = nl := by omega
    subst this
    obtain ⟨b1, b2, b3⟩ := hB
    subst b2
    have J := pu_judge hn (ch := ch) (pu := pu) (be := be) (P := fun m => PS D m l) (kn := fun m => vA al nf l kd T s m (PS D m l)) (af := af) hnm hlim b1 (fun m hm => hv m _ hm) (fun m hm => ⟨hpu m hm, PS_lt D m hnl, haf m hm _ (PS_lt D m hnl) (by rw [hoff]; exact PS_off hnl hD)⟩)
    have hV := vL_le lim (fun m => vA al nf l kd T s m (PS D m l)) nm
    refine ⟨ch, if st.1 < vL lim (fun m => vA al nf l kd T s m (PS D m l)) nm then va_cpy ch be 0 0 5 else be, pu, onI (if st.1 < vL lim (fun m => vA al nf l kd T s m (PS D m l)) nm then vL lim (fun m => vA al nf l kd T s m (PS D m l)) nm else st.1), ?_, fun _ _ => rfl, fun _ _ => rfl, ?_⟩
    · show fX2_chooseFrom_0 n (fdX2_chooseFrom n (nI l) (nI off) (nI nm) af (nI lim) (d + 0)) (nI l) (nI off) (nI nm) af (nI lim) ch (onI st.1) be pu (nI l) = _
      unfold fX2_chooseFrom_0
      rw [if_neg (nI_nlt (Nat.le_refl l) (by omega)), J, Option.bind_some]
    · show relB l (evS _ D st) _ _
      unfold evS
      by_cases c : st.1 < vL lim (fun m => vA al nf l kd T s m (PS D m l)) nm
      · rw [if_pos c, if_pos c, if_pos c]
        refine ⟨hV, rfl, fun j hj => ?_⟩
        rw [cpy_in (by omega)]
        exact hch j hj
      · rw [if_neg c, if_neg c, if_neg c]
        exact ⟨b1, rfl, b3⟩
  | succ r ih =>
    intro l d D st ch be pu mo hl hch hD hpu hB
    have hl5 : l < 5 := by omega
    have cl := nI_inL (c := l) (N := 5) hl5 (by decide)
    have kl : (nI l).toNatClampNeg = l := nI_clamp (by omega)
    -- nobody
    obtain ⟨ch1, be1, pu1, mo1, E1, k1, k2, B1⟩ := ih (l + 1) d (updN D l 0) st (upd ch l (onI 0)) be pu mo (by omega) (fun j hj => by
      by_cases e : j = l
      · rw [e, upd_at, updN_at]
      · rw [upd_ne _ _ e, updN_ne _ _ e]; exact hch j (by omega)) (fun j hj h0 => by
      by_cases e : j = l
      · rw [e, updN_at]
      · rw [updN_ne _ _ e]; exact hD j (by omega) h0) (fun m hm => by rw [PS_upd, if_neg (by omega), Nat.or_zero]; exact hpu m hm) hB
    have hbit : fX7_hasBit n (nI off) (nI l) = some (if O l = 0 then nI 1 else nI 0) := by
      have ho : off < 32 := by rw [hoff]; exact Nat.lt_of_lt_of_le (colB_lt _ nl) (Nat.le_trans (Nat.pow_le_pow_right (by decide) hnl) (by decide))
      rw [q_hasBit n (by omega) (by omega), hoff, colB_bit, decide_eq_true (show l < nl by omega), Bool.true_and]
      by_cases c : O l = 0
      · rw [if_pos c, if_pos (decide_eq_true c)]
      · rw [if_neg c, if_neg (by simpa using c)]
    have open0 : fdX2_chooseFrom n (nI nl) (nI off) (nI nm) af (nI lim) (d + (r + 1) + 1) ch mo be pu (nI l) = if O l = 0 then fX2_chooseFrom_41 n (fdX2_chooseFrom n (nI nl) (nI off) (nI nm) af (nI lim) (d + r + 1)) (nI nl) (nI off) (nI nm) af (nI lim) n ch1 mo1 be1 pu1 (nI l) (nI 0) else some (ch1, mo1, be1, pu1) := by
      show fX2_chooseFrom_0 n (fdX2_chooseFrom n (nI nl) (nI off) (nI nm) af (nI lim) (d + r + 1)) (nI nl) (nI off) (nI nm) af (nI lim) ch mo be pu (nI l) = _
      unfold fX2_chooseFrom_0
      rw [if_pos (nI_lt (show l < nl by omega) (by omega)), kl, if_neg cl, nI_1, show fdX2_chooseFrom n (nI nl) (nI off) (nI nm) af (nI lim) (d + r + 1) (upd ch l (-1)) mo be pu (nI (l + 1)) = _ from E1, Option.bind_some, hbit, Option.bind_some]
      by_cases c : O l = 0
      · rw [if_pos c, if_pos c, if_neg (show ¬ nI 1 = (0 : Int32) by decide)]
        rfl
      · rw [if_neg c, if_neg c, if_pos nI_0]
    rw [open0, cfS_s]
    by_cases c : O l = 0
    · rw [if_pos c, if_pos c, itS_s]
      have loop : ∀ (t m k : Nat) (st : bSt) (ch1 be1 pu1 : Nat → Int32) (mo1 : Int32), m + t = nm → (∀ j, j < l → ch1 j = onI (D j)) → (∀ m, m < nm → pu1 m = nI (PS D m l)) → relB nl st mo1 be1 →
          ∃ (ch' be' pu' : Nat → Int32) (mo' : Int32), fX2_chooseFrom_41 n (fdX2_chooseFrom n (nI nl) (nI off) (nI nm) af (nI lim) (d + r + 1)) (nI nl) (nI off) (nI nm) af (nI lim) (k + t + 1) ch1 mo1 be1 pu1 (nI l) (nI m) = some (ch', mo', be', pu') ∧ (∀ j, j < l → ch' j = ch1 j) ∧ (∀ m, m < nm → pu' m = pu1 m) ∧
            relB nl (itS (fun dd st => cfS (fun D => vL lim (fun m => vA al nf nl kd T s m (PS D m nl)) nm) O nm r (l + 1) (updN D l dd) st) t (m + 1) st) mo' be' := by
        intro t
        induction t with
        | zero =>
          intro m k st ch1 be1 pu1 mo1 hm h1 h2 h3
          refine ⟨ch1, be1, pu1, mo1, ?_, fun _ _ => rfl, fun _ _ => rfl, h3⟩
          unfold fX2_chooseFrom_41
          simp (disch := omega) only [Nat.zero_add, qa, qb, qbb, qc, qd, qe, qf, qg, Option.bind_some, reduceIte, or_false, false_or, or_self, or_true, true_or, and_true, true_and, and_false, false_and, not_true_eq_false, not_false_eq_true]
        | succ t iht =>
          intro m k st ch1 be1 pu1 mo1 hm h1 h2 h3
          have hm1 : m < nm := by omega
          have p1 := h2 m hm1
          obtain ⟨ch2, be2, pu2, mo2, E2, j1, j2, B2⟩ := ih (l + 1) d (updN D l (m + 1)) st (upd ch1 l (nI m)) be1 (upd pu1 m (nI (PS D m l ||| 2 ^ l))) mo1 (by omega) (fun j hj => by
            by_cases e : j = l
            · rw [e, upd_at, updN_at, onI_s]
            · rw [upd_ne _ _ e, updN_ne _ _ e]; exact h1 j (by omega)) (fun j hj h0 => by
            by_cases e : j = l
            · rw [e] at h0; exact absurd c h0
            · rw [updN_ne _ _ e]; exact hD j (by omega) h0) (fun m' hm' => by
            rw [PS_upd]
            by_cases e : m' = m
            · rw [e, upd_at, if_pos rfl]
            · rw [upd_ne _ _ e, if_neg (by omega), Nat.or_zero]; exact h2 m' hm') h3
          have p2 : pu2 m = nI (PS D m l ||| 2 ^ l) := (j2 m hm1).trans (upd_at _ _ _)
          have pd := PS_undo D m l hl5
          obtain ⟨ch3, be3, pu3, mo3, E3, i1, i2, B3⟩ := iht (m + 1) k _ ch2 be2 (upd pu2 m (nI (PS D m l))) mo2 (by omega) (fun j hj => by rw [j1 j (by omega), upd_ne _ _ (by omega)]; exact h1 j hj) (fun m' hm' => by
            by_cases e : m' = m
            · rw [e, upd_at]
            · rw [upd_ne _ _ e, j2 m' hm', upd_ne _ _ e]; exact h2 m' hm') B2
          refine ⟨ch3, be3, pu3, mo3, ?_, fun j hj => by rw [i1 j hj, j1 j (by omega), upd_ne _ _ (by omega)], fun m' hm' => ?_, B3⟩
          · have e : k + (t + 1) + 1 = (k + t + 1) + 1 := by omega
            rw [e]
            unfold fX2_chooseFrom_41
            simp (disch := omega) only [Nat.zero_add, qa, qb, qbb, qc, qd, qe, qf, qg, Option.bind_some, reduceIte, or_false, false_or, or_self, or_true, true_or, and_true, true_and, and_false, false_and, not_true_eq_false, not_false_eq_true, p1, E2, p2, pd]
            exact E3
          · rw [i2 m' hm']
            by_cases e : m' = m
            · rw [e, upd_at, p1]
            · rw [upd_ne _ _ e, j2 m' hm', upd_ne _ _ e]
      obtain ⟨ch', be', pu', mo', E3, i1, i2, B3⟩ := loop nm 0 (n - nm - 1) _ ch1 be1 pu1 mo1 (by omega) (fun j hj => by rw [k1 j (by omega), upd_ne _ _ (by omega)]; exact hch j hj) (fun m hm => (k2 m hm).trans (hpu m hm)) B1
      have en : n - nm - 1 + nm + 1 = n := by omega
      rw [en] at E3
      exact ⟨ch', be', pu', mo', E3, fun j hj => by rw [i1 j hj, k1 j (by omega), upd_ne _ _ (by omega)], fun m hm => (i2 m hm).trans (k2 m hm), B3⟩
    · rw [if_neg c, if_neg c]
      exact ⟨ch1, be1, pu1, mo1, rfl, fun j hj => by rw [k1 j (by omega), upd_ne _ _ (by omega)], k2, B1⟩
