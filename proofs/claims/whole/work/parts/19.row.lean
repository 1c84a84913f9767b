/-- the reference's room at b holds s -/
def relM (b nm nl : Nat) (kd : Nat → Nat) (row : Nat → Int32) (s : rmS) : Prop :=
  row (b + 16) = nI nm ∧ row (b + 17) = nI nl ∧ (∀ l, l < nl → kd l < 5 ∧ row (b + 18 + l) = nI (kd l)) ∧ (∀ l, l < nl → row (b + 9 + l) = nI (s.1 l)) ∧ (∀ m, m < nm → row (b + m) = nI (s.2.1 m)) ∧ ∀ l, l < nl → row (b + 4 + l) = onI (s.2.2 l)
theorem updN_self {f : Nat → Nat} {i x : Nat} (h : f i = x) : updN f i x = f := by
  funext j
  unfold updN
  by_cases e : j = i
  · rw [if_pos e, e, h]
  · rw [if_neg e]
theorem upd3_ne (f : Nat → Int32) {i1 i2 i3 j : Nat} (x y z : Int32) (h1 : j ≠ i1) (h2 : j ≠ i2) (h3 : j ≠ i3) : upd (upd (upd f i1 x) i2 y) i3 z j = f j := by
  rw [upd_ne _ _ h3, upd_ne _ _ h2, upd_ne _ _ h1]
theorem relM_set {b nm nl : Nat} {kd : Nat → Nat} {row : Nat → Int32} {s : rmS} (hnm : nm ≤ 4) (hnl : nl ≤ 5) (h : relM b nm nl kd row s) {l m : Nat} (hl : l < nl) (hm : m < nm) (x y z : Nat) :
    relM b nm nl kd (upd (upd (upd row (b + 9 + l) (nI x)) (b + m) (nI y)) (b + 4 + l) (onI z)) (updN s.1 l x, updN s.2.1 m y, updN s.2.2 l z) := by
  obtain ⟨h1, h2, h3, h4, h5, h6⟩ := h
  refine ⟨?_, ?_, fun j hj => ⟨(h3 j hj).1, ?_⟩, fun j hj => ?_, fun j hj => ?_, fun j hj => ?_⟩
  · rw [upd3_ne _ _ _ _ (by omega) (by omega) (by omega)]; exact h1
  · rw [upd3_ne _ _ _ _ (by omega) (by omega) (by omega)]; exact h2
  · rw [upd3_ne _ _ _ _ (by omega) (by omega) (by omega)]; exact (h3 j hj).2
  · show _ = nI (updN s.1 l x j)
    rw [upd_ne _ _ (by omega), upd_ne _ _ (by omega)]
    by_cases e : j = l
    · subst e; rw [upd_at, updN_at]
    · rw [upd_ne _ _ (by omega), updN_ne _ _ e]; exact h4 j hj
  · show _ = nI (updN s.2.1 m y j)
    rw [upd_ne _ _ (by omega)]
    by_cases e : j = m
    · subst e; rw [upd_at, updN_at]
    · rw [upd_ne _ _ (by omega), upd_ne _ _ (by omega), updN_ne _ _ e]; exact h5 j hj
  · show _ = onI (updN s.2.2 l z j)
    by_cases e : j = l
    · subst e; rw [upd_at, updN_at]
    · rw [upd3_ne _ _ _ _ (by omega) (by omega) (by omega), updN_ne _ _ e]; exact h6 j hj
def outR (b : Nat) (row row' : Nat → Int32) : Prop := ∀ j, j < b ∨ b + 14 ≤ j → row' j = row j
theorem fctM_out {b nf : Nat} {al : Nat → Nat} {row row' : Nat → Int32} (hb : b = 0 ∨ 48 ≤ b) (h : outR b row row') (f : fctM row nf al) : fctM row' nf al := by
  obtain ⟨h1, h2, h3⟩ := f
  refine ⟨h1, ?_, fun g hg => ⟨?_, (h3 g hg).2⟩⟩
  · rw [h 23 (by omega)]; exact h2
  · rw [h (36 + g) (by omega)]; exact (h3 g hg).1
theorem offI_0 {kd h : Nat} (c : ¬ rmK kd ≤ pc h) : offI kd h = 0 := by unfold offI; rw [if_neg c]
theorem offI_1 {kd h : Nat} (c : rmK kd ≤ pc h) : offI kd h = 1 := by unfold offI; rw [if_pos c]
theorem onI_nn1 {m : Nat} (h : m < 2 ^ 31) : ¬ nI m = -1 := fun e => by
  have := nI_pos h
  rw [e] at this
  exact this (by decide)
/-- the reference: one minute's leeches -/
theorem pu_passes_l {n : Nat} (hn : 13 ≤ n) {al kd : Nat → Nat} {nf nm nl b : Nat} (hb : b = 0 ∨ 48 ≤ b) (hb2 : b + 48 ≤ 624) (hnm : nm ≤ 4) (hnl : nl ≤ 5) : ∀ (t l q mi : Nat) (row : Nat → Int32) (x1 x2 x3 : Int32) (s : rmS), l + t = nl → fctM row nf al → okS nf nm nl s → relM b nm nl kd row s → row (b + 15) = nI mi →
    ∃ row' y1 y2 y3, relM b nm nl kd row' (stN al nf kd t l s) ∧ outR b row row' ∧
      fX8_passes_2 n (q + t + 1) row x1 x2 x3 (nI b) (nI l) = some (upd row' (b + 15) (nI (mi + 1)), y1, y2, y3) := by
  intro t
  induction t with
  | zero =>
    intro l q mi row x1 x2 x3 s hl hF hs hr hmi
    have : l = nl := by omega
    subst this
    refine ⟨row, x1, x2, x3, hr, fun _ _ => rfl, ?_⟩
    unfold fX8_passes_2
    have e17 : nI b + 17 = nI (b + 17) := nI_add b 17
    have e15 : nI b + 15 = nI (b + 15) := nI_add b 15
    have c17 := nI_inL (c := b + 17) (N := 624) (by omega) (by decide)
    have c15 := nI_inL (c := b + 15) (N := 624) (by omega) (by decide)
    have k17 : (nI (b + 17)).toNatClampNeg = b + 17 := nI_clamp (by omega)
    have k15 : (nI (b + 15)).toNatClampNeg = b + 15 := nI_clamp (by omega)
    rw [e17, e15, k17, k15, if_neg c17, hr.2.1, if_pos (nI_le (Nat.le_refl _) (by omega)), if_neg c15, if_neg c15, hmi, nI_1]
  | succ t ih =>
    intro l q mi row x1 x2 x3 s hl hF hs hr hmi
    have hl1 : l < nl := by omega
    have hs1 : okS nf nm nl (st1 al nf kd l s) := okS_st1 hF.1 hl1 hs
    have hr0 := hr
    obtain ⟨h1, h2, h3, h4, h5, h6⟩ := hr
    obtain ⟨s1, s2, s3⟩ := hs
    obtain ⟨hkd, hk⟩ := h3 l hl1
    have e : q + (t + 1) + 1 = (q + t + 1) + 1 := by omega
    have e17 : nI b + 17 = nI (b + 17) := nI_add b 17
    have c17 := nI_inL (c := b + 17) (N := 624) (by omega) (by decide)
    have k17 : (nI (b + 17)).toNatClampNeg = b + 17 := nI_clamp (by omega)
    have e4 : nI b + 4 + nI l = nI (b + 4 + l) := (congrArg (· + nI l) (nI_add b 4)).trans (nI_add (b + 4) l)
    have c4 := nI_inL (c := b + 4 + l) (N := 624) (by omega) (by decide)
    have k4 : (nI (b + 4 + l)).toNatClampNeg = b + 4 + l := nI_clamp (by omega)
    have e9 : nI b + 9 + nI l = nI (b + 9 + l) := (congrArg (· + nI l) (nI_add b 9)).trans (nI_add (b + 9) l)
    have c9 := nI_inL (c := b + 9 + l) (N := 624) (by omega) (by decide)
    have k9 : (nI (b + 9 + l)).toNatClampNeg = b + 9 + l := nI_clamp (by omega)
    have e18 : nI b + 18 + nI l = nI (b + 18 + l) := (congrArg (· + nI l) (nI_add b 18)).trans (nI_add (b + 18) l)
    have c18 := nI_inL (c := b + 18 + l) (N := 624) (by omega) (by decide)
    have k18 : (nI (b + 18 + l)).toNatClampNeg = b + 18 + l := nI_clamp (by omega)
    by_cases c : s.2.2 l = 0
    · have es : st1 al nf kd l s = s := if_pos c
      have eo : row (b + 4 + l) = -1 := by rw [h6 l hl1, c]; rfl
      obtain ⟨r', y1, y2, y3, R, U, E⟩ := ih (l + 1) q mi row x1 x2 x3 s (by omega) hF ⟨s1, s2, s3⟩ hr0 hmi
      refine ⟨r', y1, y2, y3, ?_, U, ?_⟩
      · unfold stN; rw [es]; exact R
      · rw [e]
        unfold fX8_passes_2
        rw [e17, k17, if_neg c17, h2, if_neg (nI_ge hl1 (by omega)), e4, k4, if_neg c4, if_pos eo]
        unfold fX8_passes_126
        rw [nI_1]
        exact E
    · obtain ⟨m, hm⟩ : ∃ m, s.2.2 l = m + 1 := ⟨s.2.2 l - 1, by omega⟩
      have hmn : m < nm := by have := s3 l hl1; omega
      have eo : row (b + 4 + l) = nI m := by rw [h6 l hl1, hm, onI_s]
      have hk4 := lt4096 hF.1 (s2 m hmn)
      have e0 : nI b + 0 + nI m = nI (b + m) := (congrArg (· + nI m) (nI_add b 0)).trans (nI_add b m)
      have c0 := nI_inL (c := b + m) (N := 624) (by omega) (by decide)
      have k0 : (nI (b + m)).toNatClampNeg = b + m := nI_clamp (by omega)
      have hsk := fun o => pu_sucks hn row al hF hkd o (s1 l hl1) hk4
      have es : st1 al nf kd l s = (updN s.1 l (sk al nf (kd l) (s.1 l) (s.2.1 m)).1, updN s.2.1 m (sk al nf (kd l) (s.1 l) (s.2.1 m)).2, if rmK (kd l) ≤ pc (sk al nf (kd l) (s.1 l) (s.2.1 m)).1 then updN s.2.2 l 0 else s.2.2) := by
        unfold st1
        rw [if_neg c, hm, Nat.add_sub_cancel]
      generalize sk al nf (kd l) (s.1 l) (s.2.1 m) = g at hsk es
      have main : ∀ z : Nat, (if rmK (kd l) ≤ pc g.1 then updN s.2.2 l 0 else s.2.2) = updN s.2.2 l z → ∃ row' y1 y2 y3, relM b nm nl kd row' (stN al nf kd (t + 1) l s) ∧ outR b row row' ∧
          fX8_passes_2 n (q + t + 1) (upd (upd (upd row (b + 9 + l) (nI g.1)) (b + m) (nI g.2)) (b + 4 + l) (onI z)) (nI g.1) (nI g.2) (offI (kd l) g.1) (nI b) (nI l + 1) = some (upd row' (b + 15) (nI (mi + 1)), y1, y2, y3) := by
        intro z hz
        have hR := relM_set hnm hnl hr0 hl1 hmn g.1 g.2 z
        rw [← hz, ← es] at hR
        have hU : outR b row (upd (upd (upd row (b + 9 + l) (nI g.1)) (b + m) (nI g.2)) (b + 4 + l) (onI z)) := by
          intro j hj
          exact upd3_ne _ _ _ _ (by omega) (by omega) (by omega)
        obtain ⟨r', y1, y2, y3, R, U, E⟩ := ih (l + 1) q mi _ (nI g.1) (nI g.2) (offI (kd l) g.1) _ (by omega) (fctM_out hb hU hF) hs1 hR ((hU (b + 15) (by omega)).trans hmi)
        refine ⟨r', y1, y2, y3, R, fun j hj => (U j hj).trans (hU j hj), ?_⟩
        rw [nI_1]
        exact E
      by_cases o : rmK (kd l) ≤ pc g.1
      · obtain ⟨r', y1, y2, y3, R, U, E⟩ := main 0 (if_pos o)
        refine ⟨r', y1, y2, y3, R, U, ?_⟩
        rw [e]
        unfold fX8_passes_2
        rw [e17, k17, if_neg c17, h2, if_neg (nI_ge hl1 (by omega)), e4, k4, if_neg c4, eo, if_neg (onI_nn1 (by omega)), e9, k9, if_neg c9, e0, k0, if_neg c0, e18, k18, if_neg c18, h4 l hl1, h5 m hmn, hk, hsk, Option.bind_some, if_neg c9, if_neg c0]
        rw [offI_1 o] at E ⊢
        rw [if_neg (show ¬ (1 : Int32) = 0 by decide)]
        unfold fX8_passes_125 fX8_passes_126
        rw [k4, if_neg c4]
        exact E
      · obtain ⟨r', y1, y2, y3, R, U, E⟩ := main (m + 1) (by rw [if_neg o, updN_self hm])
        refine ⟨r', y1, y2, y3, R, U, ?_⟩
        rw [e]
        unfold fX8_passes_2
        rw [e17, k17, if_neg c17, h2, if_neg (nI_ge hl1 (by omega)), e4, k4, if_neg c4, eo, if_neg (onI_nn1 (by omega)), e9, k9, if_neg c9, e0, k0, if_neg c0, e18, k18, if_neg c18, h4 l hl1, h5 m hmn, hk, hsk, Option.bind_some, if_neg c9, if_neg c0]
        rw [offI_0 o] at E ⊢
        rw [if_pos rfl]
        unfold fX8_passes_125 fX8_passes_126
        rw [k4, if_neg c4]
        rw [onI_s] at E
        exact E
/-- the reference: a minute -/
theorem pu_passes {n : Nat} (hn : 13 ≤ n) {al kd : Nat → Nat} {nf nm nl b mi : Nat} (hb : b = 0 ∨ 48 ≤ b) (hb2 : b + 48 ≤ 624) (hnm : nm ≤ 4) (hnl : nl ≤ 5) {row : Nat → Int32} (x1 x2 x3 : Int32) {s : rmS} (hF : fctM row nf al) (hs : okS nf nm nl s) (hr : relM b nm nl kd row s) (hmi : row (b + 15) = nI mi) :
    ∃ row' y1 y2 y3, relM b nm nl kd row' (stN al nf kd nl 0 s) ∧ row' (b + 15) = nI (mi + 1) ∧ (∀ j, j < b ∨ b + 16 ≤ j ∨ j = b + 14 → row' j = row j) ∧
      fX8_passes n row x1 x2 x3 (nI b) = some (row', y1, y2, y3) := by
  obtain ⟨r', y1, y2, y3, R, U, E⟩ := pu_passes_l hn hb hb2 hnm hnl nl 0 (n - nl - 1) mi row x1 x2 x3 s (by omega) hF hs hr hmi
  have e : n - nl - 1 + nl + 1 = n := by omega
  rw [e] at E
  refine ⟨_, y1, y2, y3, ?_, upd_at _ _ _, fun j hj => ?_, E⟩
  · obtain ⟨h1, h2, h3, h4, h5, h6⟩ := R
    refine ⟨?_, ?_, fun j hj => ⟨(h3 j hj).1, ?_⟩, fun j hj => ?_, fun j hj => ?_, fun j hj => ?_⟩
    · rw [upd_ne _ _ (by omega)]; exact h1
    · rw [upd_ne _ _ (by omega)]; exact h2
    · rw [upd_ne _ _ (by omega)]; exact (h3 j hj).2
    · rw [upd_ne _ _ (by omega)]; exact h4 j hj
    · rw [upd_ne _ _ (by omega)]; exact h5 j hj
    · rw [upd_ne _ _ (by omega)]; exact h6 j hj
  · rw [upd_ne _ _ (by omega)]
    exact U j (by omega)
