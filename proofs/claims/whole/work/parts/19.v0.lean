/-- all of a room: members, leeches, basin, minute, knows, kind, on, has -/
abbrev rmT := Int32 × Int32 × Int32 × Int32 × (Nat → Int32) × (Nat → Int32) × (Nat → Int32) × (Nat → Int32)
def fcts (b nf : Nat) (le al : Nat → Nat) (row : Nat → Int32) : Prop := row (b + 23) = nI nf ∧ ∀ g, g < nf → row (b + 24 + g) = nI (le g) ∧ row (b + 36 + g) = nI (al g)
def okF (nf : Nat) (le al : Nat → Nat) : Prop := nf ≤ 12 ∧ ∀ g, g < nf → le g < 2 ^ g ∧ al g < 2 ^ (g + 1) ∧ (al g).testBit g = true
/-- the class's room X is of these numbers -/
def relX (nm nl : Nat) (kd : Nat → Nat) (X : rmT) (ba mi : Nat) (s : rmS) : Prop := X.1 = nI nm ∧ X.2.1 = nI nl ∧ X.2.2.1 = nI ba ∧ X.2.2.2.1 = nI mi ∧ relC nm nl kd X.2.2.2.2.2.1 X.2.2.2.2.2.2.2 X.2.2.2.2.1 X.2.2.2.2.2.2.1 s
/-- the reference's room at b -/
def relY (b nf nm nl : Nat) (le al kd : Nat → Nat) (row : Nat → Int32) (ba mi : Nat) (s : rmS) : Prop := fcts b nf le al row ∧ relM b nm nl kd row s ∧ row (b + 14) = nI ba ∧ row (b + 15) = nI mi
def okB (nf nm nl ba mi : Nat) (s : rmS) : Prop := ba < 4096 ∧ mi ≤ 999 ∧ okS nf nm nl s
def relR (b nf nm nl : Nat) (le al kd : Nat → Nat) (X : rmT) (row : Nat → Int32) : Prop :=
  ∃ ba mi s, okB nf nm nl ba mi s ∧ relX nm nl kd X ba mi s ∧ relY b nf nm nl le al kd row ba mi s
theorem relY_move {b b' nf nm nl : Nat} {le al kd : Nat → Nat} {row row' : Nat → Int32} {ba mi : Nat} {s : rmS} (hnf : nf ≤ 12) (hnm : nm ≤ 4) (hnl : nl ≤ 5) (h : ∀ j, j < 48 → row' (b' + j) = row (b + j)) (r : relY b nf nm nl le al kd row ba mi s) : relY b' nf nm nl le al kd row' ba mi s := by
  obtain ⟨⟨f1, f2⟩, ⟨h1, h2, h3, h4, h5, h6⟩, h7, h8⟩ := r
  refine ⟨⟨(h 23 (by omega)).trans f1, fun g hg => ⟨?_, ?_⟩⟩, ⟨(h 16 (by omega)).trans h1, (h 17 (by omega)).trans h2, fun l hl => ⟨(h3 l hl).1, ?_⟩, fun l hl => ?_, fun m hm => ?_, fun l hl => ?_⟩, (h 14 (by omega)).trans h7, (h 15 (by omega)).trans h8⟩
  · have := h (24 + g) (by omega)
    rw [← Nat.add_assoc, ← Nat.add_assoc] at this
    exact this.trans (f2 g hg).1
  · have := h (36 + g) (by omega)
    rw [← Nat.add_assoc, ← Nat.add_assoc] at this
    exact this.trans (f2 g hg).2
  · have := h (18 + l) (by omega)
    rw [← Nat.add_assoc, ← Nat.add_assoc] at this
    exact this.trans (h3 l hl).2
  · have := h (9 + l) (by omega)
    rw [← Nat.add_assoc, ← Nat.add_assoc] at this
    exact this.trans (h4 l hl)
  · exact (h m (by omega)).trans (h5 m hm)
  · have := h (4 + l) (by omega)
    rw [← Nat.add_assoc, ← Nat.add_assoc] at this
    exact this.trans (h6 l hl)
theorem relR_move {b b' nf nm nl : Nat} {le al kd : Nat → Nat} {X : rmT} {row row' : Nat → Int32} (hnf : nf ≤ 12) (hnm : nm ≤ 4) (hnl : nl ≤ 5) (h : ∀ j, j < 48 → row' (b' + j) = row (b + j)) (r : relR b nf nm nl le al kd X row) : relR b' nf nm nl le al kd X row' := by
  obtain ⟨ba, mi, s, h1, h2, h3⟩ := r
  exact ⟨ba, mi, s, h1, h2, relY_move hnf hnm hnl h h3⟩
/-- X set into Y -/
def cpT (X Y : rmT) : rmT := (X.1, X.2.1, X.2.2.1, X.2.2.2.1, va_cpy X.2.2.2.2.1 Y.2.2.2.2.1 0 0 4, va_cpy X.2.2.2.2.2.1 Y.2.2.2.2.2.1 0 0 5, va_cpy X.2.2.2.2.2.2.1 Y.2.2.2.2.2.2.1 0 0 5, va_cpy X.2.2.2.2.2.2.2 Y.2.2.2.2.2.2.2 0 0 5)
theorem cpy_in {f g : Nat → Int32} {N j : Nat} (h : j < N) : va_cpy f g 0 0 N j = f j := by
  rw [pk_cpy_in (Nat.zero_le _) (by omega)]
  congr 1
  omega
theorem relX_cpT {nm nl : Nat} {kd : Nat → Nat} {X : rmT} (Y : rmT) {ba mi : Nat} {s : rmS} (hnm : nm ≤ 4) (hnl : nl ≤ 5) (r : relX nm nl kd X ba mi s) : relX nm nl kd (cpT X Y) ba mi s := by
  obtain ⟨h1, h2, h3, h4, h5, h6, h7, h8⟩ := r
  refine ⟨h1, h2, h3, h4, fun l hl => ⟨(h5 l hl).1, ?_⟩, fun l hl => ?_, fun m hm => ?_, fun l hl => ?_⟩
  · exact (cpy_in (by omega)).trans (h5 l hl).2
  · exact (cpy_in (by omega)).trans (h6 l hl)
  · exact (cpy_in (by omega)).trans (h7 m hm)
  · exact (cpy_in (by omega)).trans (h8 l hl)
theorem relR_cpT {b nf nm nl : Nat} {le al kd : Nat → Nat} {X : rmT} (Y : rmT) {row : Nat → Int32} (hnm : nm ≤ 4) (hnl : nl ≤ 5) (r : relR b nf nm nl le al kd X row) : relR b nf nm nl le al kd (cpT X Y) row := by
  obtain ⟨ba, mi, s, h1, h2, h3⟩ := r
  exact ⟨ba, mi, s, h1, relX_cpT Y hnm hnl h2, h3⟩
/-- the reference: 48 places taken from a to b -/
theorem pu_copy_loop (n : Nat) {a b : Nat} (ha : a + 48 ≤ 624) (hb : b + 48 ≤ 624) (hab : a + 48 ≤ b ∨ b + 48 ≤ a) : ∀ (j i k : Nat) (row : Nat → Int32), i + j = 48 →
    ∃ row', fX8_copyClub_2 n (k + j + 1) row (nI a) (nI b) (nI i) = some row' ∧ (∀ q, i ≤ q → q < 48 → row' (b + q) = row (a + q)) ∧ ∀ q, q < b + i ∨ b + 48 ≤ q → row' q = row q := by
  intro j
  induction j with
  | zero =>
    intro i k row h
    have : i = 48 := by omega
    subst this
    refine ⟨row, ?_, fun q h1 h2 => absurd h1 (by omega), fun _ _ => rfl⟩
    unfold fX8_copyClub_2
    rw [if_pos (by decide)]
  | succ j ih =>
    intro i k row h
    have e : k + (j + 1) + 1 = (k + j + 1) + 1 := by omega
    have ea : nI a + nI i = nI (a + i) := nI_add a i
    have eb : nI b + nI i = nI (b + i) := nI_add b i
    have ca := nI_inL (c := a + i) (N := 624) (by omega) (by decide)
    have cb := nI_inL (c := b + i) (N := 624) (by omega) (by decide)
    have ka : (nI (a + i)).toNatClampNeg = a + i := nI_clamp (by omega)
    have kb : (nI (b + i)).toNatClampNeg = b + i := nI_clamp (by omega)
    obtain ⟨row', E, h1, h2⟩ := ih (i + 1) k (upd row (b + i) (row (a + i))) (by omega)
    refine ⟨row', ?_, fun q hq hq2 => ?_, fun q hq => ?_⟩
    · rw [e]
      unfold fX8_copyClub_2
      rw [if_neg (show ¬ (48 : Int32) ≤ nI i from nI_ge (b := 48) (by omega) (by decide)), ea, eb, ka, kb, if_neg ca, if_neg cb, nI_1]
      exact E
    · by_cases c : q = i
      · rw [c, h2 (b + i) (by omega), upd_at]
      · rw [h1 q (by omega) hq2, upd_ne _ _ (by omega)]
    · rw [h2 q (by omega), upd_ne _ _ (by omega)]
theorem pu_copyClub {n a b : Nat} (hn : 49 ≤ n) (ha : a + 48 ≤ 624) (hb : b + 48 ≤ 624) (hab : a + 48 ≤ b ∨ b + 48 ≤ a) (row : Nat → Int32) :
    ∃ row', fX8_copyClub n row (nI a) (nI b) = some row' ∧ (∀ q, q < 48 → row' (b + q) = row (a + q)) ∧ ∀ q, q < b ∨ b + 48 ≤ q → row' q = row q := by
  obtain ⟨row', E, h1, h2⟩ := pu_copy_loop n ha hb hab 48 0 (n - 49) row rfl
  have e : n - 49 + 48 + 1 = n := by omega
  rw [e] at E
  exact ⟨row', E, fun q hq => h1 q (Nat.zero_le _) hq, h2⟩
/-- the reference: the past moves down by one -/
theorem pu_past_loop (n : Nat) (u : Int32) : ∀ (j i k : Nat) (row : Nat → Int32), i + j = 336 →
    ∃ row', fX8_keepPast_11 n (k + j + 1) u row (nI i) = fX8_keepPast_53 n (u - 1) row' ∧ (∀ q, i ≤ q → q < 336 → row' (96 + q) = row (144 + q)) ∧ ∀ q, q < 96 + i ∨ 432 ≤ q → row' q = row q := by
  intro j
  induction j with
  | zero =>
    intro i k row h
    have : i = 336 := by omega
    subst this
    refine ⟨row, ?_, fun q h1 h2 => absurd h1 (by omega), fun _ _ => rfl⟩
    unfold fX8_keepPast_11
    rw [if_pos (by decide)]
  | succ j ih =>
    intro i k row h
    have e : k + (j + 1) + 1 = (k + j + 1) + 1 := by omega
    have ea : (144 : Int32) + nI i = nI (144 + i) := nI_add 144 i
    have eb : (96 : Int32) + nI i = nI (96 + i) := nI_add 96 i
    have ca := nI_inL (c := 144 + i) (N := 624) (by omega) (by decide)
    have cb := nI_inL (c := 96 + i) (N := 624) (by omega) (by decide)
    have ka : (nI (144 + i)).toNatClampNeg = 144 + i := nI_clamp (by omega)
    have kb : (nI (96 + i)).toNatClampNeg = 96 + i := nI_clamp (by omega)
    obtain ⟨row', E, h1, h2⟩ := ih (i + 1) k (upd row (96 + i) (row (144 + i))) (by omega)
    refine ⟨row', ?_, fun q hq hq2 => ?_, fun q hq => ?_⟩
    · rw [e]
      unfold fX8_keepPast_11
      rw [if_neg (show ¬ (336 : Int32) ≤ nI i from nI_ge (b := 336) (by omega) (by decide)), ea, eb, ka, kb, if_neg ca, if_neg cb, nI_1]
      exact E
    · by_cases c : q = i
      · rw [c, h2 (96 + i) (by omega), upd_at]
      · rw [h1 q (by omega) hq2, upd_ne _ _ (by omega)]
    · rw [h2 q (by omega), upd_ne _ _ (by omega)]
