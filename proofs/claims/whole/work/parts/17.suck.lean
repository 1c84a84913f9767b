theorem pu_or (x y : Nat) : nI x ||| nI y = nI (x ||| y) := by
  unfold nI
  apply Int32.toBitVec_inj.mp
  rw [Int32.toBitVec_or, Int32.toBitVec_ofNat', Int32.toBitVec_ofNat', Int32.toBitVec_ofNat']
  apply BitVec.eq_of_getLsbD_eq
  intro i hi
  simp [BitVec.getLsbD_ofNat, hi]
theorem or_lt {x f : Nat} (hx : x < 4096) (hf : f < 12) : x ||| 2 ^ f < 4096 := by
  have h : 2 ^ f < 2 ^ 12 := Nat.pow_lt_pow_right (by decide) hf
  exact Nat.or_lt_two_pow (n := 12) hx h
theorem pu_room (n : Nat) {kd : Nat} (h : kd < 5) : fX8_room n (nI kd) = some (nI (rmK kd)) := by
  rcases (show kd = 0 ∨ kd = 1 ∨ kd = 2 ∨ kd = 3 ∨ kd = 4 by omega) with rfl | rfl | rfl | rfl | rfl <;> rfl
theorem pu_takes (n : Nat) {kd : Nat} (h : kd < 5) : fX8_takes n (nI kd) = some (nI (tkK kd)) := by
  rcases (show kd = 0 ∨ kd = 1 ∨ kd = 2 ∨ kd = 3 ∨ kd = 4 by omega) with rfl | rfl | rfl | rfl | rfl <;> rfl
theorem rmK_le (kd : Nat) : rmK kd ≤ 99 := by
  unfold rmK
  match kd with
  | 0 => decide
  | 1 => decide
  | 2 => decide
  | 3 => decide
  | 4 => decide
  | k + 5 => simp
theorem tkK_le (kd : Nat) : tkK kd ≤ 3 := by
  unfold tkK
  match kd with
  | 0 => decide
  | 1 => decide
  | 2 => decide
  | 3 => decide
  | 4 => decide
  | k + 5 => simp
/-- what a leech HAS and leaves, taking at most so many -/
def skS (al : Nat → Nat) (nf kd : Nat) : Nat → Nat → Nat → Nat × Nat
  | 0, h, k => (h, k)
  | t + 1, h, k => if k = 0 ∨ rmK kd ≤ pc h then (h, k) else skS al nf kd t (h ||| 2 ^ nxB kd k) (lostL al (nxB kd k) k nf)
theorem skS_s (al : Nat → Nat) (nf kd t h k : Nat) : skS al nf kd (t + 1) h k = if k = 0 ∨ rmK kd ≤ pc h then (h, k) else skS al nf kd t (h ||| 2 ^ nxB kd k) (lostL al (nxB kd k) k nf) := rfl
def sk (al : Nat → Nat) (nf kd h k : Nat) : Nat × Nat := skS al nf kd (tkK kd) h k
theorem skS_lt (al : Nat → Nat) (nf kd : Nat) : ∀ (t h k : Nat), h < 4096 → k < 4096 → (skS al nf kd t h k).1 < 4096 ∧ (skS al nf kd t h k).2 ≤ k := by
  intro t
  induction t with
  | zero => intro h k hh hk; exact ⟨hh, Nat.le_refl _⟩
  | succ t ih =>
    intro h k hh hk
    rw [skS_s]
    by_cases c : k = 0 ∨ rmK kd ≤ pc h
    · rw [if_pos c]; exact ⟨hh, Nat.le_refl _⟩
    · rw [if_neg c]
      have h0 : k ≠ 0 := fun q => c (Or.inl q)
      have hn := nxB_spec (kd := kd) hk h0
      have hl := lostL_le al (nxB kd k) k nf
      obtain ⟨p, q⟩ := ih _ _ (or_lt hh hn.1) (Nat.lt_of_le_of_lt hl hk)
      exact ⟨p, Nat.le_trans q hl⟩
theorem sk_lt {al : Nat → Nat} {nf kd h k : Nat} (hh : h < 4096) (hk : k < 4096) : (sk al nf kd h k).1 < 4096 ∧ (sk al nf kd h k).2 < 4096 := by
  obtain ⟨p, q⟩ := skS_lt al nf kd (tkK kd) h k hh hk
  exact ⟨p, Nat.lt_of_le_of_lt q hk⟩
def offI (kd h : Nat) : Int32 := if rmK kd ≤ pc h then 1 else 0
theorem offI_01 (kd h : Nat) : offI kd h = 0 ∨ offI kd h = 1 := by
  unfold offI
  split
  · exact Or.inr rfl
  · exact Or.inl rfl
/-- the facts of the reference's base row, as numbers -/
def fctM (row : Nat → Int32) (nf : Nat) (al : Nat → Nat) : Prop := nf ≤ 12 ∧ row 23 = nI nf ∧ ∀ g, g < nf → row (36 + g) = nI (al g) ∧ al g < 4096
theorem nI_ne0' {a : Nat} (h : a < 4096) (h0 : a ≠ 0) : ¬ nI a = 0 := nI_ne0 (by omega) (by omega)
theorem pu_sucks_loop {n : Nat} (hn : 13 ≤ n) (row : Nat → Int32) {nf : Nat} (al : Nat → Nat) (hF : fctM row nf al) {kd : Nat} (hkd : kd < 5) : ∀ (t i m h k : Nat), i + t = tkK kd → h < 4096 → k < 4096 →
    fX8_sucks_25 n row (m + t + 1) (offI kd h) (nI h) (nI k) (nI kd) (nI i) = some (offI kd (skS al nf kd t h k).1, nI (skS al nf kd t h k).1, nI (skS al nf kd t h k).2) := by
  intro t
  have htk := tkK_le kd
  induction t with
  | zero =>
    intro i m h k hi hh hk
    have : i = tkK kd := by omega
    subst this
    unfold fX8_sucks_25
    rw [pu_takes n hkd, Option.bind_some, if_pos (nI_le (Nat.le_refl _) (by omega))]
    rfl
  | succ t ih =>
    intro i m h k hi hh hk
    have e : m + (t + 1) + 1 = (m + t + 1) + 1 := by omega
    rw [e]
    unfold fX8_sucks_25
    rw [pu_takes n hkd, Option.bind_some, if_neg (nI_ge (by omega) (by omega)), skS_s]
    by_cases c0 : k = 0
    · subst c0
      rw [if_pos nI_0, if_pos (Or.inl rfl)]
      rfl
    · rw [if_neg (nI_ne0' hk c0)]
      by_cases c1 : rmK kd ≤ pc h
      · have e1 : offI kd h = 1 := by unfold offI; rw [if_pos c1]
        rw [if_pos (Or.inr c1), e1, if_neg (by decide)]
        rfl
      · have e1 : offI kd h = 0 := by unfold offI; rw [if_neg c1]
        have hN := nxB_spec (kd := kd) hk c0
        have hl := lostL_le al (nxB kd k) k nf
        have key : ∀ d : Int32, fX8_nextFact n (nI k) d = some (nI (nxB kd k)) → fX8_sucks_61 n (fX8_sucks_25 n row (m + t + 1)) row 0 (nI h) (nI k) (nI kd) (nI i) (nI k) d = some (offI kd (skS al nf kd t (h ||| 2 ^ nxB kd k) (lostL al (nxB kd k) k nf)).1, nI (skS al nf kd t (h ||| 2 ^ nxB kd k) (lostL al (nxB kd k) k nf)).1, nI (skS al nf kd t (h ||| 2 ^ nxB kd k) (lostL al (nxB kd k) k nf)).2) := by
          intro d hd
          unfold fX8_sucks_61
          have hor := or_lt hh hN.1
          rw [hd, Option.bind_some, pu_lost hn row al hF.1 hF.2.1 hF.2.2 hN.1 hk, Option.bind_some, pu_1shl (by omega), pu_or, pu_bits hn (by omega), Option.bind_some, pu_room n hkd, Option.bind_some]
          have ih := ih (i + 1) m (h ||| 2 ^ nxB kd k) (lostL al (nxB kd k) k nf) (by omega) hor (by omega)
          rw [← nI_1 i] at ih
          have hp := pc_le (h ||| 2 ^ nxB kd k)
          have hr := rmK_le kd
          by_cases c2 : rmK kd ≤ pc (h ||| 2 ^ nxB kd k)
          · have e2 : offI kd (h ||| 2 ^ nxB kd k) = 1 := by unfold offI; rw [if_pos c2]
            rw [if_neg (nI_nlt c2 (by omega))]
            unfold fX8_sucks_110
            rw [if_pos (Or.inr rfl)]
            rw [e2] at ih
            exact ih
          · have e2 : offI kd (h ||| 2 ^ nxB kd k) = 0 := by unfold offI; rw [if_neg c2]
            rw [if_pos (nI_lt (by omega) (by omega))]
            unfold fX8_sucks_110
            rw [if_pos (Or.inl rfl)]
            rw [e2] at ih
            exact ih
        have cc : ¬ (k = 0 ∨ rmK kd ≤ pc h) := fun q => q.elim c0 c1
        rw [e1, if_pos rfl, if_neg cc]
        have hnx := pu_next8 hn hk c0
        by_cases c3 : 3 ≤ kd
        · have c4 : ¬ nI kd < 3 := nI_nlt (a := kd) (b := 3) c3 (by omega)
          rw [if_neg c4]
          exact key 1 (by unfold nxB; rw [if_pos c3]; exact hnx.2)
        · have c4 : nI kd < 3 := nI_lt (a := kd) (b := 3) (by omega) (by decide)
          rw [if_pos c4]
          exact key 0 (by unfold nxB; rw [if_neg c3]; exact hnx.1)
theorem pu_sucks {n : Nat} (hn : 13 ≤ n) (row : Nat → Int32) {nf : Nat} (al : Nat → Nat) (hF : fctM row nf al) {kd : Nat} (hkd : kd < 5) (o : Int32) {h k : Nat} (hh : h < 4096) (hk : k < 4096) :
    fX8_sucks n row o (nI h) (nI k) (nI kd) = some (offI kd (sk al nf kd h k).1, nI (sk al nf kd h k).1, nI (sk al nf kd h k).2) := by
  unfold fX8_sucks
  have hp := pc_le h
  have hr := rmK_le kd
  have ht := tkK_le kd
  have hl := pu_sucks_loop hn row al hF hkd (tkK kd) 0 (n - tkK kd - 1) h k (by omega) hh hk
  have e : n - tkK kd - 1 + tkK kd + 1 = n := by omega
  rw [e] at hl
  rw [pu_bits hn (by omega), Option.bind_some, pu_room n hkd, Option.bind_some]
  by_cases c : rmK kd ≤ pc h
  · have e2 : offI kd h = 1 := by unfold offI; rw [if_pos c]
    rw [if_neg (nI_nlt c (by omega))]
    unfold fX8_sucks_20
    rw [if_pos (Or.inr rfl)]
    rw [e2] at hl
    exact hl
  · have e2 : offI kd h = 0 := by unfold offI; rw [if_neg c]
    rw [if_pos (nI_lt (by omega) (by omega))]
    unfold fX8_sucks_20
    rw [if_pos (Or.inl rfl)]
    rw [e2] at hl
    exact hl
