/-! the four calls of the second session, from relW -/
theorem w_open {nf nm nl u c : Nat} {le al kd : Nat → Nat} {N T : rmT} {A K : paT} {row : Nat → Int32} (h : relW nf nm nl le al kd N T u A c K row) :
    ∃ (ba mi : Nat) (s : rmS), nf ≤ 12 ∧ nm ≤ 4 ∧ nl ≤ 5 ∧ ba < 4096 ∧ mi ≤ 999 ∧ (∀ l, l < nl → s.1 l < 4096) ∧ (∀ m, m < nm → s.2.1 m < 2 ^ nf) ∧ (∀ l, l < nl → s.2.2 l ≤ nm) ∧
      N.1 = nI nm ∧ N.2.1 = nI nl ∧ N.2.2.1 = nI ba ∧ N.2.2.2.1 = nI mi ∧ (∀ l, l < nl → kd l < 5 ∧ N.2.2.2.2.2.1 l = nI (kd l)) ∧ (∀ l, l < nl → N.2.2.2.2.2.2.2 l = nI (s.1 l)) ∧ (∀ m, m < nm → N.2.2.2.2.1 m = nI (s.2.1 m)) ∧ (∀ l, l < nl → N.2.2.2.2.2.2.1 l = onI (s.2.2 l)) ∧
      row 23 = nI nf ∧ (∀ g, g < nf → row (24 + g) = nI (le g) ∧ row (36 + g) = nI (al g)) ∧ row 16 = nI nm ∧ row 17 = nI nl ∧ (∀ l, l < nl → row (18 + l) = nI (kd l)) ∧ (∀ l, l < nl → row (9 + l) = nI (s.1 l)) ∧ (∀ m, m < nm → row (0 + m) = nI (s.2.1 m)) ∧ (∀ l, l < nl → row (4 + l) = onI (s.2.2 l)) ∧ row 14 = nI ba ∧ row 15 = nI mi := by
  obtain ⟨o, hnm, hnl, ⟨ba, mi, s, ⟨hb, hm, hs1, hs2, hs3⟩, ⟨x1, x2, x3, x4, x5, x6, x7, x8⟩, ⟨f1, f2⟩, ⟨m1, m2, m3, m4, m5, m6⟩, y1, y2⟩, -⟩ := h
  rw [Nat.zero_add] at f1 m1 m2 y1 y2
  refine ⟨ba, mi, s, o.1, hnm, hnl, hb, hm, hs1, hs2, hs3, x1, x2, x3, x4, x5, x6, x7, x8, f1, fun g hg => ?_, m1, m2, fun l hl => ?_, fun l hl => ?_, m5, fun l hl => ?_, y1, y2⟩
  · have := f2 g hg; rwa [Nat.zero_add, Nat.zero_add] at this
  · have := (m3 l hl).2; rwa [Nat.zero_add] at this
  · have := m4 l hl; rwa [Nat.zero_add] at this
  · have := m6 l hl; rwa [Nat.zero_add] at this
theorem pw_fact {n nf nm nl u c : Nat} {le al kd : Nat → Nat} {N T : rmT} {A K : paT} {row fle fal flo : Nat → Int32} (hn : 400 ≤ n) (hC : relFC nf le al fle fal flo) (h : relW nf nm nl le al kd N T u A c K row) (v w : Int32) :
    ∃ r, fX7_fact n (nI nf) fle fal N.1 N.2.2.2.2.1 N.2.1 N.2.2.2.2.2.2.2 v w = some r ∧ fX8_fact n row v w = some r := by
  obtain ⟨ba, mi, s, hnf, hnm, hnl, hb, hm, s1, s2, s3, x1, x2, x3, x4, x5, x6, x7, x8, r23, rf, r16, r17, r18, r9, r0, r4, r14, r15⟩ := w_open h
  rw [x1, x2]
  have h4096 : 2 ^ nf ≤ 2 ^ 12 := Nat.pow_le_pow_right (by decide) hnf
  exact pu_fact (by omega) hnf hnm hnl r23 r16 r17 (fun g hg => ⟨(hC.1 g hg).1, (rf g hg).1⟩) (fun g hg => ⟨(hC.1 g hg).2, (rf g hg).2⟩) (K := s.2.1) (fun j hj => ⟨by have := s2 j hj; omega, x7 j hj, r0 j hj⟩) (H := s.1) (fun j hj => ⟨s1 j hj, x6 j hj, r9 j hj⟩) v w
theorem pw_leech {n nf nm nl u c : Nat} {le al kd : Nat → Nat} {N T : rmT} {A K : paT} {row : Nat → Int32} (h : relW nf nm nl le al kd N T u A c K row) (v w : Int32) :
    ∃ r, fX7_leech n N.2.1 N.2.2.2.2.2.1 N.2.2.2.2.2.2.1 N.2.2.2.2.2.2.2 v w = some r ∧ fX8_leech n row v w = some r := by
  obtain ⟨ba, mi, s, hnf, hnm, hnl, hb, hm, s1, s2, s3, x1, x2, x3, x4, x5, x6, x7, x8, r23, rf, r16, r17, r18, r9, r0, r4, r14, r15⟩ := w_open h
  rw [x2]
  exact pu_leech hnl r17 (fun l hl => ⟨(x5 l hl).2.trans (r18 l hl).symm, (x8 l hl).trans (r4 l hl).symm, (x6 l hl).trans (r9 l hl).symm⟩) v w
theorem pw_member {n nf nm nl u c : Nat} {le al kd : Nat → Nat} {N T : rmT} {A K : paT} {row : Nat → Int32} (hn : 400 ≤ n) (h : relW nf nm nl le al kd N T u A c K row) (x y : Int64) (v w : Int32) :
    ∃ r x' y', fX7_member n N.1 N.2.2.2.2.1 N.2.1 N.2.2.2.2.2.2.1 (nI nf) x y v w = some (r, x', y') ∧ fX8_member n row v w = some r := by
  obtain ⟨ba, mi, s, hnf, hnm, hnl, hb, hm, s1, s2, s3, x1, x2, x3, x4, x5, x6, x7, x8, r23, rf, r16, r17, r18, r9, r0, r4, r14, r15⟩ := w_open h
  rw [x1, x2]
  exact pu_member (by omega) x y hnf hnm hnl r23 r16 r17 (K := s.2.1) (fun j hj => ⟨s2 j hj, x7 j hj, r0 j hj⟩) (O := s.2.2) (fun j hj => ⟨s3 j hj, x8 j hj, r4 j hj⟩) v w
theorem t_there {so si : Nat → Int32} {va be : Nat → Nat → Int64} {sz st : Nat → Int32} {pl : Nat → Int64} {bl : Nat → Int32} (h : relT so si va be sz st pl bl) : ∀ l, l < 4 → (so l = -1 ↔ ¬ decide (so l ≠ -1) = true) ∧ (0 ≤ sz l ↔ decide (so l ≠ -1) = true) := by
  intro l hl
  have d1 : onI 0 = -1 := by decide
  have d2 : ¬ (0 : Int32) ≤ -1 := by decide
  rcases h l hl with ⟨a, b⟩ | ⟨q, z, hq, hz, a, -, -, b, -⟩
  · rw [a, b, d1]; simp [d2]
  · have e1 : ¬ nI q = -1 := by
      rcases (show q = 0 ∨ q = 1 ∨ q = 2 by omega) with rfl | rfl | rfl <;> decide
    have e2 : (0 : Int32) ≤ nI z := by
      have := nI_le (a := 0) (b := z) (by omega) (by omega)
      rwa [nI_0] at this
    rw [a, b]; simp [e1, e2]
theorem pw_count {n nf nm nl u c : Nat} {le al kd : Nat → Nat} {N T : rmT} {A K : paT} {row : Nat → Int32} (hn : 400 ≤ n) (h : relW nf nm nl le al kd N T u A c K row) {so si : Nat → Int32} {va be : Nat → Nat → Int64} {sz st : Nat → Int32} {pl : Nat → Int64} {bl : Nat → Int32} (hT : relT so si va be sz st pl bl) (se un lt v : Int32) :
    ∃ r, fX7_count n (nI nf) N.1 N.2.1 N.2.2.2.1 N.2.2.1 N.2.2.2.2.2.2.1 N.2.2.2.2.1 se so un lt v = some r ∧ fX8_count n row se sz un lt v = some r := by
  obtain ⟨ba, mi, s, hnf, hnm, hnl, hb, hm, s1, s2, s3, x1, x2, x3, x4, x5, x6, x7, x8, r23, rf, r16, r17, r18, r9, r0, r4, r14, r15⟩ := w_open h
  rw [x1, x2, x3, x4]
  exact pu_count (by omega) hnm hnl r23 r16 r17 r15 r14 (K := s.2.1) (fun j hj => ⟨x7 j hj, r0 j hj⟩) (O := s.2.2) (fun j hj => ⟨s3 j hj, x8 j hj, r4 j hj⟩) (p := fun l => decide (so l ≠ -1)) (t_there hT) v
