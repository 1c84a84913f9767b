/-! TEXT: words, sets, numbers -/
def wdL (w : Nat) : List Nat := ([[99, 108, 117, 98], [102, 97, 99, 116], [109, 101, 109, 98, 101, 114], [111, 110], [99, 111, 109, 109, 111, 110], [115, 116, 114, 105, 112, 101, 100], [103, 114, 101, 101, 100, 121], [98, 105, 115, 104, 111, 112], [109, 117, 102, 102]] : List (List Nat)).getD w []
def wdN (w : Nat) : Nat := (wdL w).length
def wdC (w i : Nat) : Nat := (wdL w).getD i 0
theorem wd_len : ∀ w, w < 9 → xs_len w = wdN w ∧ 1 ≤ wdN w ∧ wdN w ≤ 7 := by decide +kernel
theorem wd_ch : ∀ w, w < 9 → ∀ i, i < 7 → xs_ch w i = nI (wdC w i) ∧ wdC w i < 256 := by decide +kernel
theorem wd_one : ∀ w, w < 9 → ∀ w', w' < 9 → wdN w = wdN w' → wdC w 0 = wdC w' 0 → w = w' := by decide +kernel
def wdS (L : Nat → Nat) (w a : Nat) : Nat → Nat → Bool
  | 0, _ => true
  | t + 1, i => decide (L (a + i) = wdC w i) && wdS L w a t (i + 1)
theorem wdS_s (L : Nat → Nat) (w a t i : Nat) : wdS L w a (t + 1) i = (decide (L (a + i) = wdC w i) && wdS L w a t (i + 1)) := rfl
/-- the token a .. b is the word w -/
def wdB (L : Nat → Nat) (w a b : Nat) : Bool := decide (b - a = wdN w) && wdS L w a (wdN w) 0
theorem wdB_i {L : Nat → Nat} {w a b : Nat} (hw : w < 9) (h : wdB L w a b = true) : b - a = wdN w ∧ L a = wdC w 0 := by
  unfold wdB at h
  rw [Bool.and_eq_true] at h
  refine ⟨of_decide_eq_true h.1, ?_⟩
  obtain ⟨t, ht⟩ : ∃ t, wdN w = t + 1 := ⟨wdN w - 1, by have := (wd_len w hw).2.1; omega⟩
  have h2 := h.2
  rw [ht, wdS_s, Bool.and_eq_true] at h2
  exact of_decide_eq_true h2.1
theorem wdB_one {L : Nat → Nat} {w w' a b : Nat} (hw : w < 9) (hw' : w' < 9) (h : wdB L w a b = true) (h' : wdB L w' a b = true) : w = w' := by
  obtain ⟨a1, a2⟩ := wdB_i hw h
  obtain ⟨b1, b2⟩ := wdB_i hw' h'
  exact wd_one w hw w' hw' (a1.symm.trans b1) (a2.symm.trans b2)
theorem q_of (k : Nat) : Int32.ofNat k = nI k := rfl
theorem pu_wd7 (n : Nat) {z a b w : Nat} {L : Nat → Nat} {lt te : Nat → Int32} (h : relL z L lt te) (hb : b ≤ z) (hab : a + wdN w ≤ b) (hw : w < 9) (x : Int32) : ∀ (t i k : Nat), i + t = wdN w → fX6_isWord_20 n w x (nI a) lt (k + t + 1) (nI i) = some (if wdS L w a t i = true then nI 1 else nI 0) := by
  obtain ⟨hz, hl⟩ := h
  obtain ⟨n1, n2, n3⟩ := wd_len w hw
  intro t
  induction t with
  | zero =>
    intro i k hi
    have : wdS L w a 0 i = true := rfl
    unfold fX6_isWord_20
    simp (disch := omega) only [Nat.zero_add, qa, qb, qbb, qc, qd, qe, qf, qg, Option.bind_some, reduceIte, or_false, false_or, or_self, or_true, true_or, and_true, true_and, and_false, false_and, not_true_eq_false, not_false_eq_true, n1, q_of, this]
  | succ t ih =>
    intro i k hi
    have E := ih (i + 1) k (by omega)
    obtain ⟨l1, l2, -⟩ := hl (a + i) (by omega)
    obtain ⟨c1, c2⟩ := wd_ch w hw i (by omega)
    have e : k + (t + 1) + 1 = (k + t + 1) + 1 := by omega
    rw [e, wdS_s]
    unfold fX6_isWord_20
    by_cases c : L (a + i) = wdC w i
    · rw [decide_eq_true c, Bool.true_and]
      simp (disch := omega) only [Nat.zero_add, qa, qb, qbb, qc, qd, qe, qf, qg, Option.bind_some, reduceIte, or_false, false_or, or_self, or_true, true_or, and_true, true_and, and_false, false_and, not_true_eq_false, not_false_eq_true, n1, q_of, l2, c1]
      exact E
    · rw [decide_eq_false c, Bool.false_and]
      simp (disch := omega) only [Nat.zero_add, qa, qb, qbb, qc, qd, qe, qf, qg, Option.bind_some, reduceIte, or_false, false_or, or_self, or_true, true_or, and_true, true_and, and_false, false_and, not_true_eq_false, not_false_eq_true, n1, q_of, l2, c1, Bool.false_eq_true]
/-- the class: is the token this word -/
theorem pu_isWord7 {n : Nat} (hn : 400 ≤ n) {z a b w : Nat} {L : Nat → Nat} {lt te : Nat → Int32} (h : relL z L lt te) (hb : b ≤ z) (hab : a ≤ b) (hw : w < 9) : fX6_isWord n w (nI b) (nI a) lt = some (if wdB L w a b = true then nI 1 else nI 0) := by
  obtain ⟨n1, n2, n3⟩ := wd_len w hw
  have hz := h.1
  unfold fX6_isWord wdB
  by_cases c : b - a = wdN w
  · have E := pu_wd7 n h hb (show a + wdN w ≤ b by omega) hw (nI b) (wdN w) 0 (n - wdN w - 1) (by omega)
    have en : n - wdN w - 1 + wdN w + 1 = n := by omega
    rw [en] at E
    rw [decide_eq_true c, Bool.true_and]
    simp (disch := omega) only [Nat.zero_add, qa, qb, qbb, qc, qd, qe, qf, qg, Option.bind_some, reduceIte, or_false, false_or, or_self, or_true, true_or, and_true, true_and, and_false, false_and, not_true_eq_false, not_false_eq_true, n1, q_of, c]
    exact E
  · rw [decide_eq_false c, Bool.false_and]
    simp (disch := omega) only [Nat.zero_add, qa, qb, qbb, qc, qd, qe, qf, qg, Option.bind_some, reduceIte, or_false, false_or, or_self, or_true, true_or, and_true, true_and, and_false, false_and, not_true_eq_false, not_false_eq_true, n1, q_of, Bool.false_eq_true]
theorem pu_wd8 (n : Nat) {z a b w N : Nat} {L : Nat → Nat} {lt te p : Nat → Int32} (h : relL z L lt te) (hb : b ≤ z) (hab : a + wdN w ≤ b) (hw : w < 9) (hN : N = wdN w) (hp : ∀ i, i < N → p i = nI (wdC w i)) (x : Int32) : ∀ (t i k : Nat), i + t = wdN w → fX8_isWord_22 n N x (nI a) te p (k + t + 1) (nI 1) (nI i) = some (if wdS L w a t i = true then nI 1 else nI 0) := by
  obtain ⟨hz, hl⟩ := h
  obtain ⟨n1, n2, n3⟩ := wd_len w hw
  have zr : ∀ (k i : Nat), fX8_isWord_22 n N x (nI a) te p (k + 1) (nI 0) (nI i) = some (nI 0) := by
    intro k i
    unfold fX8_isWord_22 fX8_isWord_61
    by_cases c : Int32.ofNat N ≤ nI i
    · rw [if_pos c, if_pos (Or.inl nI_0)]
    · rw [if_neg c, if_pos nI_0, if_pos (Or.inl nI_0)]
  intro t
  induction t with
  | zero =>
    intro i k hi
    have : wdS L w a 0 i = true := rfl
    unfold fX8_isWord_22 fX8_isWord_61
    simp (disch := omega) only [Nat.zero_add, qa, qb, qbb, qc, qd, qe, qf, qg, Option.bind_some, reduceIte, or_false, false_or, or_self, or_true, true_or, and_true, true_and, and_false, false_and, not_true_eq_false, not_false_eq_true, q_of, this]
  | succ t ih =>
    intro i k hi
    have E := ih (i + 1) k (by omega)
    obtain ⟨l1, -, l2⟩ := hl (a + i) (by omega)
    obtain ⟨-, c2⟩ := wd_ch w hw i (by omega)
    have c1 := hp i (by omega)
    have e : k + (t + 1) + 1 = (k + t + 1) + 1 := by omega
    rw [e, wdS_s]
    unfold fX8_isWord_22 fX8_isWord_54
    by_cases c : L (a + i) = wdC w i
    · rw [decide_eq_true c, Bool.true_and]
      simp (disch := omega) only [Nat.zero_add, qa, qb, qbb, qc, qd, qe, qf, qg, Option.bind_some, reduceIte, or_false, false_or, or_self, or_true, true_or, and_true, true_and, and_false, false_and, not_true_eq_false, not_false_eq_true, q_of, l2, c1]
      exact E
    · rw [decide_eq_false c, Bool.false_and]
      have Z := zr (k + t) (i + 1)
      simp (disch := omega) only [Nat.zero_add, qa, qb, qbb, qc, qd, qe, qf, qg, Option.bind_some, reduceIte, or_false, false_or, or_self, or_true, true_or, and_true, true_and, and_false, false_and, not_true_eq_false, not_false_eq_true, q_of, l2, c1, Bool.false_eq_true]
      exact Z
/-- the reference: is the token this word -/
theorem pu_isWord8 {n : Nat} (hn : 400 ≤ n) {z a b w N : Nat} {L : Nat → Nat} {lt te p : Nat → Int32} (h : relL z L lt te) (hb : b ≤ z) (hab : a ≤ b) (hw : w < 9) (hN : N = wdN w) (hp : ∀ i, i < N → p i = nI (wdC w i)) : fX8_isWord n N (nI b) (nI a) te p = some (if wdB L w a b = true then nI 1 else nI 0) := by
  obtain ⟨n1, n2, n3⟩ := wd_len w hw
  have hz := h.1
  unfold fX8_isWord fX8_isWord_19 wdB
  by_cases c : b - a = wdN w
  · have E := pu_wd8 n h hb (show a + wdN w ≤ b by omega) hw hN hp (nI b) (wdN w) 0 (n - wdN w - 1) (by omega)
    have en : n - wdN w - 1 + wdN w + 1 = n := by omega
    rw [en] at E
    rw [decide_eq_true c, Bool.true_and]
    simp (disch := omega) only [Nat.zero_add, qa, qb, qbb, qc, qd, qe, qf, qg, Option.bind_some, reduceIte, or_false, false_or, or_self, or_true, true_or, and_true, true_and, and_false, false_and, not_true_eq_false, not_false_eq_true, q_of, c, hN]
    simp (disch := omega) only [Nat.zero_add, qa, qb, qbb, qc, qd, qe, qf, qg, Option.bind_some, reduceIte, or_false, false_or, or_self, or_true, true_or, and_true, true_and, and_false, false_and, not_true_eq_false, not_false_eq_true, hN] at E
    exact E
  · rw [decide_eq_false c, Bool.false_and]
    obtain ⟨m, hm⟩ : ∃ m, n = m + 1 := ⟨n - 1, by omega⟩
    have Z : ∀ y z', fX8_isWord_22 y N (nI b) (nI a) te p (z' + 1) (nI 0) (nI 0) = some (nI 0) := by
      intro y z'
      unfold fX8_isWord_22 fX8_isWord_61
      by_cases c : Int32.ofNat N ≤ nI 0
      · rw [if_pos c, if_pos (Or.inl nI_0)]
      · rw [if_neg c, if_pos nI_0, if_pos (Or.inl nI_0)]
    have Z1 := Z n m
    rw [← hm] at Z1
    simp (disch := omega) only [Nat.zero_add, qa, qb, qbb, qc, qd, qe, qf, qg, Option.bind_some, reduceIte, or_false, false_or, or_self, or_true, true_or, and_true, true_and, and_false, false_and, not_true_eq_false, not_false_eq_true, q_of, Bool.false_eq_true]
    exact Z1
/-- the kind that the token names, one more; 0 if none -/
def kdW (L : Nat → Nat) (a b : Nat) : Nat := if wdB L 4 a b = true then 1 else if wdB L 5 a b = true then 2 else if wdB L 6 a b = true then 3 else if wdB L 7 a b = true then 4 else if wdB L 8 a b = true then 5 else 0
theorem kdW_i (L : Nat → Nat) (a b : Nat) : kdW L a b ≤ 5 ∧ (kdW L a b ≠ 0 → wdB L 0 a b = false ∧ wdB L 1 a b = false ∧ wdB L 2 a b = false ∧ wdB L 3 a b = false) := by
  have key : ∀ w, 4 ≤ w → w < 9 → wdB L w a b = true → wdB L 0 a b = false ∧ wdB L 1 a b = false ∧ wdB L 2 a b = false ∧ wdB L 3 a b = false := by
    intro w h4 h9 h
    refine ⟨?_, ?_, ?_, ?_⟩ <;> apply Bool.eq_false_iff.mpr <;> intro q <;> have := wdB_one (by omega) h9 q h <;> omega
  unfold kdW
  by_cases c4 : wdB L 4 a b = true
  · rw [if_pos c4]; exact ⟨by omega, fun _ => key 4 (by omega) (by omega) c4⟩
  · rw [if_neg c4]
    by_cases c5 : wdB L 5 a b = true
    · rw [if_pos c5]; exact ⟨by omega, fun _ => key 5 (by omega) (by omega) c5⟩
    · rw [if_neg c5]
      by_cases c6 : wdB L 6 a b = true
      · rw [if_pos c6]; exact ⟨by omega, fun _ => key 6 (by omega) (by omega) c6⟩
      · rw [if_neg c6]
        by_cases c7 : wdB L 7 a b = true
        · rw [if_pos c7]; exact ⟨by omega, fun _ => key 7 (by omega) (by omega) c7⟩
        · rw [if_neg c7]
          by_cases c8 : wdB L 8 a b = true
          · rw [if_pos c8]; exact ⟨by omega, fun _ => key 8 (by omega) (by omega) c8⟩
          · rw [if_neg c8]; exact ⟨by omega, fun q => absurd rfl q⟩
theorem pu_kindOfWord {n : Nat} (hn : 400 ≤ n) {z a b : Nat} {L : Nat → Nat} {lt te : Nat → Int32} (h : relL z L lt te) (hb : b ≤ z) (hab : a ≤ b) : fX6_kindOfWord n (nI b) (nI a) lt = some (onI (kdW L a b)) := by
  have e := fun w hw => pu_isWord7 hn h hb hab (w := w) hw
  have e4 := e 4 (by omega)
  have e5 := e 5 (by omega)
  have e6 := e 6 (by omega)
  have e7 := e 7 (by omega)
  have e8 := e 8 (by omega)
  unfold fX6_kindOfWord fX6_kindOfWord_58 kdW
  rw [e4, e5, e6, e7, e8]
  by_cases c4 : wdB L 4 a b = true
  · rw [if_pos c4, if_pos c4]; rfl
  · rw [if_neg c4, if_neg c4]
    by_cases c5 : wdB L 5 a b = true
    · rw [if_pos c5, if_pos c5]; rfl
    · rw [if_neg c5, if_neg c5]
      by_cases c6 : wdB L 6 a b = true
      · rw [if_pos c6, if_pos c6]; rfl
      · rw [if_neg c6, if_neg c6]
        by_cases c7 : wdB L 7 a b = true
        · rw [if_pos c7, if_pos c7]; rfl
        · rw [if_neg c7, if_neg c7]
          by_cases c8 : wdB L 8 a b = true
          · rw [if_pos c8, if_pos c8]; rfl
          · rw [if_neg c8, if_neg c8]; rfl
/-- the reference's words -/
def relWd (w0 w1 w2 w3 w4 w5 w6 w7 w8 : Nat → Int32) : Prop := (∀ i, i < 4 → w0 i = nI (wdC 0 i)) ∧ (∀ i, i < 4 → w1 i = nI (wdC 1 i)) ∧ (∀ i, i < 6 → w2 i = nI (wdC 2 i)) ∧ (∀ i, i < 2 → w3 i = nI (wdC 3 i)) ∧ (∀ i, i < 6 → w4 i = nI (wdC 4 i)) ∧ (∀ i, i < 7 → w5 i = nI (wdC 5 i)) ∧ (∀ i, i < 6 → w6 i = nI (wdC 6 i)) ∧ (∀ i, i < 6 → w7 i = nI (wdC 7 i)) ∧ ∀ i, i < 4 → w8 i = nI (wdC 8 i)
theorem pu_kindHere {n : Nat} (hn : 400 ≤ n) {z a b : Nat} {L : Nat → Nat} {lt te w0 w1 w2 w3 w4 w5 w6 w7 w8 : Nat → Int32} (h : relL z L lt te) (hb : b ≤ z) (hab : a ≤ b) (hW : relWd w0 w1 w2 w3 w4 w5 w6 w7 w8) : fX8_kindHere n (nI b) (nI a) te w4 w5 w6 w7 w8 = some (onI (kdW L a b)) := by
  obtain ⟨-, -, -, -, h4, h5, h6, h7, h8⟩ := hW
  have e4 := pu_isWord8 hn h hb hab (w := 4) (N := 6) (by omega) rfl h4
  have e5 := pu_isWord8 hn h hb hab (w := 5) (N := 7) (by omega) rfl h5
  have e6 := pu_isWord8 hn h hb hab (w := 6) (N := 6) (by omega) rfl h6
  have e7 := pu_isWord8 hn h hb hab (w := 7) (N := 6) (by omega) rfl h7
  have e8 := pu_isWord8 hn h hb hab (w := 8) (N := 4) (by omega) rfl h8
  unfold fX8_kindHere fX8_kindHere_76 kdW
  rw [e4, e5, e6, e7, e8]
  by_cases c4 : wdB L 4 a b = true
  · rw [if_pos c4, if_pos c4]; rfl
  · rw [if_neg c4, if_neg c4]
    by_cases c5 : wdB L 5 a b = true
    · rw [if_pos c5, if_pos c5]; rfl
    · rw [if_neg c5, if_neg c5]
      by_cases c6 : wdB L 6 a b = true
      · rw [if_pos c6, if_pos c6]; rfl
      · rw [if_neg c6, if_neg c6]
        by_cases c7 : wdB L 7 a b = true
        · rw [if_pos c7, if_pos c7]; rfl
        · rw [if_neg c7, if_neg c7]
          by_cases c8 : wdB L 8 a b = true
          · rw [if_pos c8, if_pos c8]; rfl
          · rw [if_neg c8, if_neg c8]; rfl
