theorem pu_hasFactG (n : Nat) (N : Nat) (v : Int32) : fX0_hasFact n (nI N) v = some (inG v N) := by
  unfold fX0_hasFact fX0_hasFact_16 fX0_hasFact_17 inG
  by_cases c : v < 0
  · rw [if_pos c, if_pos (Or.inl c), if_pos (Or.inl rfl)]
  · rw [if_neg c]
    by_cases d : nI N ≤ v
    · rw [if_pos d, if_pos (Or.inr d), if_pos (Or.inl rfl)]
    · rw [if_neg d, if_pos (Or.inr rfl), if_neg (show ¬ (v < 0 ∨ nI N ≤ v) from fun q => q.elim c d)]
theorem pu_fact67_loop (n : Nat) {row : Nat → Int32} {F : Nat → Nat} {a i : Nat} (ha : a ≤ 4) (hi : i < 32) (hr : row 16 = nI a) (hf : ∀ j, j < a → row (0 + j) = nI (F j) ∧ F j < 4096) : ∀ (t j q : Nat), j + t = a →
    fX8_fact_67 n row (q + t + 1) (nI i) (nI (colB (fun j => (F j).testBit i) j)) (nI j) = some (nI (colB (fun j => (F j).testBit i) a)) := by
  intro t
  induction t with
  | zero =>
    intro j q h
    have : j = a := by omega
    subst this
    unfold fX8_fact_67
    rw [hr, if_pos (nI_le (Nat.le_refl _) (by omega))]
  | succ t ih =>
    intro j q h
    have e : q + (t + 1) + 1 = (q + t + 1) + 1 := by omega
    have e0 : (0 : Int32) + nI j = nI (0 + j) := nI_add 0 j
    have c1 := nI_inL (c := 0 + j) (N := 624) (by omega) (by decide)
    have e1 : (nI (0 + j)).toNatClampNeg = 0 + j := nI_clamp (by omega)
    have ih := ih (j + 1) q (by omega)
    obtain ⟨hf1, hf2⟩ := hf j (by omega)
    rw [e]
    unfold fX8_fact_67
    rw [hr, if_neg (nI_ge (by omega) (by omega)), e0, e1, if_neg c1, hf1, pu_has n (by omega) hi, Option.bind_some]
    unfold fX8_fact_104
    by_cases c : (F j).testBit i = true
    · rw [colB_1 (p := fun j => (F j).testBit i) c] at ih
      rw [if_pos c, if_neg (by decide), pu_1shl (by omega), pu_or, nI_1]
      exact ih
    · rw [colB_0 (p := fun j => (F j).testBit i) c] at ih
      rw [if_neg c, if_pos rfl, nI_1, Int32.or_zero]
      exact ih
theorem pu_fact117_loop (n : Nat) {row : Nat → Int32} {F : Nat → Nat} {a i : Nat} (ha : a ≤ 5) (hi : i < 32) (hr : row 17 = nI a) (hf : ∀ j, j < a → row (9 + j) = nI (F j) ∧ F j < 4096) : ∀ (t j q : Nat), j + t = a →
    fX8_fact_117 n row (q + t + 1) (nI i) (nI (colB (fun j => (F j).testBit i) j)) (nI j) = some (nI (colB (fun j => (F j).testBit i) a)) := by
  intro t
  induction t with
  | zero =>
    intro j q h
    have : j = a := by omega
    subst this
    unfold fX8_fact_117
    rw [hr, if_pos (nI_le (Nat.le_refl _) (by omega))]
  | succ t ih =>
    intro j q h
    have e : q + (t + 1) + 1 = (q + t + 1) + 1 := by omega
    have e0 : (9 : Int32) + nI j = nI (9 + j) := nI_add 9 j
    have c1 := nI_inL (c := 9 + j) (N := 624) (by omega) (by decide)
    have e1 : (nI (9 + j)).toNatClampNeg = 9 + j := nI_clamp (by omega)
    have ih := ih (j + 1) q (by omega)
    obtain ⟨hf1, hf2⟩ := hf j (by omega)
    rw [e]
    unfold fX8_fact_117
    rw [hr, if_neg (nI_ge (by omega) (by omega)), e0, e1, if_neg c1, hf1, pu_has n (by omega) hi, Option.bind_some]
    unfold fX8_fact_155
    by_cases c : (F j).testBit i = true
    · rw [colB_1 (p := fun j => (F j).testBit i) c] at ih
      rw [if_pos c, if_neg (by decide), pu_1shl (by omega), pu_or, nI_1]
      exact ih
    · rw [colB_0 (p := fun j => (F j).testBit i) c] at ih
      rw [if_neg c, if_pos rfl, nI_1, Int32.or_zero]
      exact ih
/-- the call fact: both sides answer alike -/
theorem pu_fact {n : Nat} (hn : 13 ≤ n) {row leans all knows has : Nat → Int32} {nf nm nl : Nat} {ln al K H : Nat → Nat} (hnf : nf ≤ 12) (hnm : nm ≤ 4) (hnl : nl ≤ 5)
    (h23 : row 23 = nI nf) (h16 : row 16 = nI nm) (h17 : row 17 = nI nl)
    (hln : ∀ g, g < nf → leans g = nI (ln g) ∧ row (24 + g) = nI (ln g)) (hal : ∀ g, g < nf → all g = nI (al g) ∧ row (36 + g) = nI (al g))
    (hK : ∀ j, j < nm → K j < 4096 ∧ knows j = nI (K j) ∧ row (0 + j) = nI (K j)) (hH : ∀ j, j < nl → H j < 4096 ∧ has j = nI (H j) ∧ row (9 + j) = nI (H j)) (v w : Int32) :
    ∃ r, fX7_fact n (nI nf) leans all (nI nm) knows (nI nl) has v w = some r ∧ fX8_fact n row v w = some r := by
  unfold fX7_fact fX8_fact
  rw [pu_hasFactG, pu_isFact n (by omega) h23, Option.bind_some, Option.bind_some]
  by_cases g : v < 0 ∨ nI nf ≤ v
  · have e : inG v nf = 0 := if_pos g
    rw [e, if_pos rfl, if_pos rfl]
    exact ⟨_, rfl, rfl⟩
  · obtain ⟨f, hf, rfl⟩ := inG_get (by omega) g
    have e : inG (nI f) nf = 1 := if_neg g
    have c12 := nI_inL (c := f) (N := 12) (by omega) (by decide)
    have k12 : (nI f).toNatClampNeg = f := nI_clamp (by omega)
    have e24 : (24 : Int32) + nI f = nI (24 + f) := nI_add 24 f
    have c24 := nI_inL (c := 24 + f) (N := 624) (by omega) (by decide)
    have k24 : (nI (24 + f)).toNatClampNeg = 24 + f := nI_clamp (by omega)
    have e36 : (36 : Int32) + nI f = nI (36 + f) := nI_add 36 f
    have c36 := nI_inL (c := 36 + f) (N := 624) (by omega) (by decide)
    have k36 : (nI (36 + f)).toNatClampNeg = 36 + f := nI_clamp (by omega)
    have n10 : ¬ (1 : Int32) = 0 := by decide
    rw [e, if_neg n10, if_neg n10, k12, if_neg c12, e24, k24, if_neg c24, e36, k36, if_neg c36, (hln f hf).1, (hln f hf).2, (hal f hf).1, (hal f hf).2]
    have b1 := pu_bitsWith (n := n) (f := knows) (F := K) (N := 4) (a := nm) (i := f) (by decide) (by omega) hnm (by omega) (fun j hj => ⟨(hK j hj).2.1, (hK j hj).1⟩)
    have b2 := pu_bitsWith (n := n) (f := has) (F := H) (N := 5) (a := nl) (i := f) (by decide) (by omega) hnl (by omega) (fun j hj => ⟨(hH j hj).2.1, (hH j hj).1⟩)
    have d1 := pu_fact67_loop n (F := K) (i := f) hnm (by omega) h16 (fun j hj => ⟨(hK j hj).2.2, (hK j hj).1⟩) nm 0 (n - nm - 1) (by omega)
    have d2 := pu_fact117_loop n (F := H) (i := f) hnl (by omega) h17 (fun j hj => ⟨(hH j hj).2.2, (hH j hj).1⟩) nl 0 (n - nl - 1) (by omega)
    have en : n - nm - 1 + nm + 1 = n := by omega
    have el : n - nl - 1 + nl + 1 = n := by omega
    rw [en] at d1
    rw [el] at d2
    have d1' : fX8_fact_67 n row n (nI f) 0 0 = some (nI (colB (fun j => (K j).testBit f) nm)) := d1
    have d2' : fX8_fact_117 n row n (nI f) 0 0 = some (nI (colB (fun j => (H j).testBit f) nl)) := d2
    by_cases w0 : w = 0
    · rw [if_pos w0, if_pos w0]; exact ⟨_, rfl, rfl⟩
    rw [if_neg w0, if_neg w0]
    by_cases w1 : w = 1
    · rw [if_pos w1, if_pos w1, if_neg c12]; exact ⟨_, rfl, rfl⟩
    rw [if_neg w1, if_neg w1]
    by_cases w2 : w = 2
    · rw [if_pos w2, if_pos w2, b1, d1', Option.bind_some]; exact ⟨_, rfl, rfl⟩
    rw [if_neg w2, if_neg w2]
    by_cases w3 : w = 3
    · rw [if_pos w3, if_pos w3, b2, d2', Option.bind_some]; exact ⟨_, rfl, rfl⟩
    rw [if_neg w3, if_neg w3]
    exact ⟨_, rfl, rfl⟩
/-- the call leech -/
theorem pu_leech {n : Nat} {row kind on has : Nat → Int32} {nl : Nat} (hnl : nl ≤ 5) (h17 : row 17 = nI nl) (hA : ∀ l, l < nl → kind l = row (18 + l) ∧ on l = row (4 + l) ∧ has l = row (9 + l)) (v w : Int32) :
    ∃ r, fX7_leech n (nI nl) kind on has v w = some r ∧ fX8_leech n row v w = some r := by
  unfold fX7_leech fX8_leech fX8_leech_62
  rw [pu_hasLeechG, pu_isLeech n (by omega) h17, Option.bind_some, Option.bind_some]
  by_cases g : v < 0 ∨ nI nl ≤ v
  · have e : inG v nl = 0 := if_pos g
    rw [e, if_pos rfl, if_pos rfl]
    exact ⟨_, rfl, rfl⟩
  · obtain ⟨f, hf, rfl⟩ := inG_get (by omega) g
    have e : inG (nI f) nl = 1 := if_neg g
    have c12 := nI_inL (c := f) (N := 5) (by omega) (by decide)
    have k12 : (nI f).toNatClampNeg = f := nI_clamp (by omega)
    have e18 : (18 : Int32) + nI f = nI (18 + f) := nI_add 18 f
    have c18 := nI_inL (c := 18 + f) (N := 624) (by omega) (by decide)
    have k18 : (nI (18 + f)).toNatClampNeg = 18 + f := nI_clamp (by omega)
    have e4 : (4 : Int32) + nI f = nI (4 + f) := nI_add 4 f
    have c4 := nI_inL (c := 4 + f) (N := 624) (by omega) (by decide)
    have k4 : (nI (4 + f)).toNatClampNeg = 4 + f := nI_clamp (by omega)
    have e9 : (9 : Int32) + nI f = nI (9 + f) := nI_add 9 f
    have c9 := nI_inL (c := 9 + f) (N := 624) (by omega) (by decide)
    have k9 : (nI (9 + f)).toNatClampNeg = 9 + f := nI_clamp (by omega)
    have n10 : ¬ (1 : Int32) = 0 := by decide
    obtain ⟨a1, a2, a3⟩ := hA f hf
    rw [e, if_neg n10, if_neg n10, k12, if_neg c12, e18, k18, if_neg c18, e4, k4, if_neg c4, e9, k9, if_neg c9, a1, a2, a3]
    by_cases w0 : w = 0
    · rw [if_pos w0, if_pos w0]; exact ⟨_, rfl, rfl⟩
    rw [if_neg w0, if_neg w0]
    by_cases w1 : w = 1
    · rw [if_pos w1, if_pos w1, if_neg c12]; exact ⟨_, rfl, rfl⟩
    rw [if_neg w1, if_neg w1]
    by_cases w2 : w = 2
    · rw [if_pos w2, if_pos w2, if_neg c12]; exact ⟨_, rfl, rfl⟩
    rw [if_neg w2, if_neg w2]
    exact ⟨_, rfl, rfl⟩
