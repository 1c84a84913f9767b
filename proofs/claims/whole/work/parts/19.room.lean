/-- a room as numbers: what a leech has, what a member knows, whom a leech is on (0: nobody, m + 1: member m) -/
def updN (f : Nat → Nat) (i x : Nat) : Nat → Nat := fun j => if j = i then x else f j
theorem updN_at (f : Nat → Nat) (i x : Nat) : updN f i x i = x := if_pos rfl
theorem updN_ne (f : Nat → Nat) {i j : Nat} (x : Nat) (h : j ≠ i) : updN f i x j = f j := if_neg h
def onI (o : Nat) : Int32 := if o = 0 then -1 else nI (o - 1)
theorem onI_0 : onI 0 = -1 := rfl
theorem onI_s (m : Nat) : onI (m + 1) = nI m := by unfold onI; rw [if_neg (by omega)]; rfl
def relF (N : Nat) (f : Nat → Int32) (F : Nat → Nat) : Prop := ∀ i, i < N → f i = nI (F i)
def relO (N : Nat) (f : Nat → Int32) (F : Nat → Nat) : Prop := ∀ i, i < N → f i = onI (F i)
theorem relF_upd {N : Nat} {f : Nat → Int32} {F : Nat → Nat} (h : relF N f F) (i x : Nat) : relF N (upd f i (nI x)) (updN F i x) := by
  intro j hj
  by_cases e : j = i
  · subst e; rw [upd_at, updN_at]
  · rw [upd_ne f _ e, updN_ne F _ e]; exact h j hj
theorem relO_upd {N : Nat} {f : Nat → Int32} {F : Nat → Nat} (h : relO N f F) (i x : Nat) : relO N (upd f i (onI x)) (updN F i x) := by
  intro j hj
  by_cases e : j = i
  · subst e; rw [upd_at, updN_at]
  · rw [upd_ne f _ e, updN_ne F _ e]; exact h j hj
/-- has, knows, on -/
abbrev rmS := (Nat → Nat) × (Nat → Nat) × (Nat → Nat)
/-- one leech's minute -/
def st1 (al : Nat → Nat) (nf : Nat) (kd : Nat → Nat) (l : Nat) (s : rmS) : rmS :=
  if s.2.2 l = 0 then s else
    ⟨updN s.1 l (sk al nf (kd l) (s.1 l) (s.2.1 (s.2.2 l - 1))).1, updN s.2.1 (s.2.2 l - 1) (sk al nf (kd l) (s.1 l) (s.2.1 (s.2.2 l - 1))).2,
     if rmK (kd l) ≤ pc (sk al nf (kd l) (s.1 l) (s.2.1 (s.2.2 l - 1))).1 then updN s.2.2 l 0 else s.2.2⟩
def stN (al : Nat → Nat) (nf : Nat) (kd : Nat → Nat) : Nat → Nat → rmS → rmS
  | 0, _, s => s
  | t + 1, l, s => stN al nf kd t (l + 1) (st1 al nf kd l s)
def stM (al : Nat → Nat) (nf nl : Nat) (kd : Nat → Nat) : Nat → rmS → rmS
  | 0, s => s
  | t + 1, s => stM al nf nl kd t (stN al nf kd nl 0 s)
def okS (nf nm nl : Nat) (s : rmS) : Prop := (∀ l, l < nl → s.1 l < 4096) ∧ (∀ m, m < nm → s.2.1 m < 2 ^ nf) ∧ ∀ l, l < nl → s.2.2 l ≤ nm
theorem okS_st1 {al : Nat → Nat} {nf nm nl : Nat} {kd : Nat → Nat} (hnf : nf ≤ 12) {l : Nat} (hl : l < nl) {s : rmS} (h : okS nf nm nl s) : okS nf nm nl (st1 al nf kd l s) := by
  obtain ⟨h1, h2, h3⟩ := h
  unfold st1
  by_cases c : s.2.2 l = 0
  · rw [if_pos c]; exact ⟨h1, h2, h3⟩
  · rw [if_neg c]
    have hm : s.2.2 l - 1 < nm := by have := h3 l hl; omega
    have hk := h2 _ hm
    obtain ⟨p, q⟩ := skS_lt al nf (kd l) (tkK (kd l)) (s.1 l) (s.2.1 (s.2.2 l - 1)) (h1 l hl) (lt4096 hnf hk)
    refine ⟨fun j hj => ?_, fun j hj => ?_, fun j hj => ?_⟩
    · show updN s.1 l _ j < 4096
      by_cases e : j = l
      · subst e; rw [updN_at]; exact p
      · rw [updN_ne _ _ e]; exact h1 j hj
    · show updN s.2.1 (s.2.2 l - 1) _ j < 2 ^ nf
      by_cases e : j = s.2.2 l - 1
      · rw [e, updN_at]; exact Nat.lt_of_le_of_lt q hk
      · rw [updN_ne _ _ e]; exact h2 j hj
    · show (if rmK (kd l) ≤ pc _ then updN s.2.2 l 0 else s.2.2) j ≤ nm
      split
      · by_cases e : j = l
        · subst e; rw [updN_at]; exact Nat.zero_le _
        · rw [updN_ne _ _ e]; exact h3 j hj
      · exact h3 j hj
/-- the class's room holds s -/
def relC (nm nl : Nat) (kd : Nat → Nat) (kind has knows on : Nat → Int32) (s : rmS) : Prop :=
  (∀ l, l < nl → kd l < 5 ∧ kind l = nI (kd l)) ∧ relF nl has s.1 ∧ relF nm knows s.2.1 ∧ relO nl on s.2.2
theorem pu_hasMember (n : Nat) {nm m : Nat} (hnm : nm ≤ 4) (hm : m < nm) : fX3_hasMember n (nI nm) (nI m) = some 1 := by
  unfold fX3_hasMember fX3_hasMember_17
  rw [if_neg (nI_pos (by omega)), if_neg (nI_ge hm (by omega)), if_pos (Or.inr rfl)]
theorem pu_hasMember_n (n : Nat) (nm : Int32) : fX3_hasMember n nm (-1) = some 0 := by
  unfold fX3_hasMember fX3_hasMember_16 fX3_hasMember_17
  rw [if_pos (by decide), if_pos (Or.inl rfl)]
/-- the class: one minute's leeches -/
theorem pu_pass_l {n : Nat} (hn : 13 ≤ n) {kind lw : Nat → Int32} {al kd : Nat → Nat} {nf nm nl : Nat} (hnf : nf ≤ 12) (hnm : nm ≤ 4) (hnl : nl ≤ 5) (hC : fctC lw nf al)
    (r2 : Int32 → (Nat → Int32) → (Nat → Int32) → (Nat → Int32) → Int32 → Int32 → Option (Int32 × (Nat → Int32) × (Nat → Int32) × (Nat → Int32))) (mi v2 v3 : Int32) : ∀ (t l q : Nat) (has knows on : Nat → Int32) (s : rmS), l + t = nl → okS nf nm nl s → relC nm nl kd kind has knows on s →
    ∃ has' knows' on', relC nm nl kd kind has' knows' on' (stN al nf kd t l s) ∧ okS nf nm nl (stN al nf kd t l s) ∧
      fX3_pass_10 n r2 (nI nl) (nI nm) kind lw (q + t + 1) mi has knows on v2 v3 (nI l) = r2 (mi + 1) has' knows' on' v2 (v3 + 1) := by
  intro t
  induction t with
  | zero =>
    intro l q has knows on s hl hs hr
    have : l = nl := by omega
    subst this
    refine ⟨has, knows, on, hr, hs, ?_⟩
    unfold fX3_pass_10
    rw [if_pos (nI_le (Nat.le_refl _) (by omega))]
  | succ t ih =>
    intro l q has knows on s hl hs hr
    have hl1 : l < nl := by omega
    have hl5 : l < 5 := by omega
    have hs1 : okS nf nm nl (st1 al nf kd l s) := okS_st1 hnf hl1 hs
    obtain ⟨r1, r2', r3, r4⟩ := hr
    obtain ⟨hkd, hk⟩ := r1 l hl1
    obtain ⟨s1, s2, s3⟩ := hs
    have c1 := nI_inL (N := 5) hl5 (by decide)
    have e1 : (nI l).toNatClampNeg = l := nI_clamp (by omega)
    have e : q + (t + 1) + 1 = (q + t + 1) + 1 := by omega
    by_cases c : s.2.2 l = 0
    · have es : st1 al nf kd l s = s := if_pos c
      have eo : on l = -1 := by rw [r4 l hl1, c]; rfl
      obtain ⟨h', k', o', R, K, E⟩ := ih (l + 1) q has knows on s (by omega) ⟨s1, s2, s3⟩ ⟨r1, r2', r3, r4⟩
      refine ⟨h', k', o', ?_, ?_, ?_⟩
      · unfold stN; rw [es]; exact R
      · unfold stN; rw [es]; exact K
      · rw [e]
        unfold fX3_pass_10
        rw [if_neg (nI_ge hl1 (by omega)), e1, if_neg c1, eo, pu_hasMember_n, Option.bind_some, if_pos rfl]
        unfold fX3_pass_47
        rw [nI_1]
        exact E
    · obtain ⟨m, hm⟩ : ∃ m, s.2.2 l = m + 1 := ⟨s.2.2 l - 1, by omega⟩
      have hmn : m < nm := by have := s3 l hl1; omega
      have eo : on l = nI m := by rw [r4 l hl1, hm, onI_s]
      have hf := pu_feed hn (on := on) hnf hC hl5 (by omega : m < 4) hkd hk (s1 l hl1) (s2 m hmn) (r2' l hl1) (r3 m hmn)
      have es : st1 al nf kd l s = ⟨updN s.1 l (sk al nf (kd l) (s.1 l) (s.2.1 m)).1, updN s.2.1 m (sk al nf (kd l) (s.1 l) (s.2.1 m)).2, if rmK (kd l) ≤ pc (sk al nf (kd l) (s.1 l) (s.2.1 m)).1 then updN s.2.2 l 0 else s.2.2⟩ := by
        unfold st1
        rw [if_neg c, hm, Nat.add_sub_cancel]
      have hR : relC nm nl kd kind (upd has l (nI (sk al nf (kd l) (s.1 l) (s.2.1 m)).1)) (upd knows m (nI (sk al nf (kd l) (s.1 l) (s.2.1 m)).2)) (offA on l (kd l) (sk al nf (kd l) (s.1 l) (s.2.1 m)).1) (st1 al nf kd l s) := by
        rw [es]
        refine ⟨r1, relF_upd r2' _ _, relF_upd r3 _ _, ?_⟩
        show relO nl _ (if rmK (kd l) ≤ pc (sk al nf (kd l) (s.1 l) (s.2.1 m)).1 then updN s.2.2 l 0 else s.2.2)
        unfold offA
        by_cases o : rmK (kd l) ≤ pc (sk al nf (kd l) (s.1 l) (s.2.1 m)).1
        · rw [if_pos o, if_pos o]; exact relO_upd r4 l 0
        · rw [if_neg o, if_neg o]; exact r4
      obtain ⟨h', k', o', R, K, E⟩ := ih (l + 1) q _ _ _ _ (by omega) hs1 hR
      refine ⟨h', k', o', R, K, ?_⟩
      rw [e]
      unfold fX3_pass_10
      rw [if_neg (nI_ge hl1 (by omega)), e1, if_neg c1, eo, pu_hasMember n hnm hmn, Option.bind_some, if_neg (by decide), if_neg c1, hf, Option.bind_some]
      unfold fX3_pass_47
      rw [nI_1]
      exact E
/-- the class: minutes -/
theorem pu_pass_m {n : Nat} (hn : 13 ≤ n) {kind lw : Nat → Int32} {al kd : Nat → Nat} {nf nm nl : Nat} (hnf : nf ≤ 12) (hnm : nm ≤ 4) (hnl : nl ≤ 5) (hC : fctC lw nf al) {T : Nat} (hT : T < 2 ^ 31) : ∀ (t i q mi : Nat) (has knows on : Nat → Int32) (s : rmS), i + t = T → okS nf nm nl s → relC nm nl kd kind has knows on s →
    ∃ has' knows' on', relC nm nl kd kind has' knows' on' (stM al nf nl kd t s) ∧ okS nf nm nl (stM al nf nl kd t s) ∧
      fX3_pass_2 n (nI nl) (nI nm) kind lw (q + t + 1) (nI mi) has knows on (nI T) (nI i) = some (nI (mi + t), has', knows', on') := by
  intro t
  induction t with
  | zero =>
    intro i q mi has knows on s hi hs hr
    have : i = T := by omega
    subst this
    refine ⟨has, knows, on, hr, hs, ?_⟩
    unfold fX3_pass_2
    rw [if_pos (nI_le (Nat.le_refl _) hT)]
    rfl
  | succ t ih =>
    intro i q mi has knows on s hi hs hr
    have e : q + (t + 1) + 1 = (q + t + 1) + 1 := by omega
    obtain ⟨h1, k1, o1, R1, K1, E1⟩ := pu_pass_l hn hnf hnm hnl hC (fX3_pass_2 n (nI nl) (nI nm) kind lw (q + t + 1)) (nI mi) (nI T) (nI i) nl 0 (n - nl - 1) has knows on s (by omega) hs hr
    obtain ⟨h2, k2, o2, R2, K2, E2⟩ := ih (i + 1) q (mi + 1) h1 k1 o1 _ (by omega) K1 R1
    refine ⟨h2, k2, o2, R2, K2, ?_⟩
    rw [e]
    unfold fX3_pass_2
    rw [if_neg (nI_ge (by omega) hT)]
    have en : n - nl - 1 + nl + 1 = n := by omega
    rw [en, nI_1, nI_1] at E1
    have ea : mi + (t + 1) = mi + 1 + t := by omega
    rw [ea]
    exact E1.trans E2
theorem pu_pass {n : Nat} {kind lw has knows on : Nat → Int32} {al kd : Nat → Nat} {nf nm nl mi T : Nat} (hn : 13 ≤ n) (hT : T < n) (hT' : T < 2 ^ 31) (hnf : nf ≤ 12) (hnm : nm ≤ 4) (hnl : nl ≤ 5) (hC : fctC lw nf al) {s : rmS} (hs : okS nf nm nl s) (hr : relC nm nl kd kind has knows on s) :
    ∃ has' knows' on', relC nm nl kd kind has' knows' on' (stM al nf nl kd T s) ∧ okS nf nm nl (stM al nf nl kd T s) ∧
      fX3_pass n (nI nl) (nI nm) kind lw (nI mi) has knows on (nI T) = some (nI (mi + T), has', knows', on') := by
  obtain ⟨h, k, o, R, K, E⟩ := pu_pass_m hn hnf hnm hnl hC hT' T 0 (n - T - 1) mi has knows on s (by omega) hs hr
  refine ⟨h, k, o, R, K, ?_⟩
  have e : n - T - 1 + T + 1 = n := by omega
  rw [e] at E
  exact E
