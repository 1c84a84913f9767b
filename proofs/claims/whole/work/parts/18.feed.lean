theorem upd_at (f : Nat → Int32) (i : Nat) (x : Int32) : upd f i x i = x := if_pos rfl
theorem upd_ne (f : Nat → Int32) {i j : Nat} (x : Int32) (h : j ≠ i) : upd f i x j = f j := if_neg h
theorem upd_self {f : Nat → Int32} {i : Nat} {x : Int32} (h : f i = x) : upd f i x = f := by
  funext j
  unfold upd
  by_cases e : j = i
  · rw [if_pos e, e, h]
  · rw [if_neg e]
theorem upd_upd (f : Nat → Int32) (i : Nat) (x y : Int32) : upd (upd f i x) i y = upd f i y := by
  funext j
  unfold upd
  by_cases e : j = i
  · rw [if_pos e, if_pos e]
  · rw [if_neg e, if_neg e, if_neg e]
theorem tb_HAS {kd : Nat} (h : kd < 5) : xt_HAS_ROOM kd = nI (rmK kd) := by
  rcases (show kd = 0 ∨ kd = 1 ∨ kd = 2 ∨ kd = 3 ∨ kd = 4 by omega) with rfl | rfl | rfl | rfl | rfl <;> rfl
theorem tb_TAKES {kd : Nat} (h : kd < 5) : xt_TAKES kd = nI (tkK kd) := by
  rcases (show kd = 0 ∨ kd = 1 ∨ kd = 2 ∨ kd = 3 ∨ kd = 4 by omega) with rfl | rfl | rfl | rfl | rfl <;> rfl
theorem nI_inL {c N : Nat} (h : c < N) (hN : N < 2 ^ 31) : ¬ (nI c < 0 ∨ N ≤ c) := fun q => q.elim (nI_pos (Nat.lt_trans h hN)) (fun z => absurd h (Nat.not_lt.mpr z))
theorem pu_isSated (n : Nat) {has kind : Nat → Int32} {l kd h : Nat} (hl : l < 5) (hkd : kd < 5) (hk : kind l = nI kd) (hh : has l = nI h) (h4 : h < 4096) : fX3_isSated n has kind (nI l) = some (offI kd h) := by
  unfold fX3_isSated
  have c1 := nI_inL (N := 5) hl (by decide)
  have c2 := nI_inL (N := 5) hkd (by decide)
  have e1 : (nI l).toNatClampNeg = l := nI_clamp (by omega)
  have e2 : (nI kd).toNatClampNeg = kd := nI_clamp (by omega)
  rw [e1, if_neg c1, hh, pu_bitCount n h4, Option.bind_some, if_neg c1, hk, e2, if_neg c2, tb_HAS hkd]
  have hp := pc_le h
  have hr := rmK_le kd
  unfold offI
  by_cases c : rmK kd ≤ pc h
  · rw [if_neg (nI_nlt c (by omega)), if_pos c]; rfl
  · rw [if_pos (nI_lt (by omega) (by omega)), if_neg c]; rfl
/-- the class's lostWith, as numbers -/
def fctC (lw : Nat → Int32) (nf : Nat) (al : Nat → Nat) : Prop := ∀ f, f < nf → ∃ w, w < 4096 ∧ lw f = nI w ∧ ∀ i, i < 12 → w.testBit i = (decide (i < nf) && (al i).testBit f)
theorem lost_dif {al : Nat → Nat} {nf f k w : Nat} (hk : k < 4096) (hw : ∀ i, i < 12 → w.testBit i = (decide (i < nf) && (al i).testBit f)) : difB k w = lostL al f k nf := by
  have h1 := difB_le k w
  have h2 := lostL_le al f k nf
  apply set_ext (by omega) (by omega)
  intro i hi
  rw [difB_bit (by omega), lostL_bit al f k (by omega) nf, hw i hi]
theorem bit_lt {k nf i : Nat} (hk : k < 2 ^ nf) (hi : k.testBit i = true) : i < nf := by
  rcases Nat.lt_or_ge i nf with h | h
  · exact h
  · exfalso
    have := Nat.testBit_lt_two_pow (Nat.lt_of_lt_of_le hk (Nat.pow_le_pow_right (by decide) h))
    rw [hi] at this
    cases this
theorem lt4096 {k nf : Nat} (hnf : nf ≤ 12) (hk : k < 2 ^ nf) : k < 4096 := Nat.lt_of_lt_of_le hk (by rw [show 4096 = 2 ^ 12 from rfl]; exact Nat.pow_le_pow_right (by decide) hnf)
def offA (on : Nat → Int32) (l kd h : Nat) : Nat → Int32 := if rmK kd ≤ pc h then upd on l (-1) else on
theorem pu_feed_end (n : Nat) {kind lw has knows on : Nat → Int32} {l kd h : Nat} (hl : l < 5) (hkd : kd < 5) (hk : kind l = nI kd) (hh : has l = nI h) (h4 : h < 4096) : fX3_feed_93 n kind lw has knows on (nI l) = some (has, knows, offA on l kd h) := by
  unfold fX3_feed_93
  rw [pu_isSated n hl hkd hk hh h4, Option.bind_some]
  unfold offI offA
  by_cases c : rmK kd ≤ pc h
  · rw [if_pos c, if_pos c, if_neg (by decide), if_neg (nI_in (N := 5) hl (by decide)), nI_clamp (by omega)]
    rfl
  · rw [if_neg c, if_neg c, if_pos rfl]
    rfl
theorem pu_feed_loop (n : Nat) {kind lw on : Nat → Int32} {al : Nat → Nat} {nf l m kd : Nat} (hnf : nf ≤ 12) (hC : fctC lw nf al) (hl : l < 5) (hm : m < 4) (hkd : kd < 5) (hk : kind l = nI kd) : ∀ (t i q h k : Nat) (has knows : Nat → Int32), i + t = tkK kd → h < 4096 → k < 2 ^ nf → has l = nI h → knows m = nI k →
    fX3_feed_15 n kind lw (q + t + 1) has knows on (nI l) (nI m) (nI (tkK kd)) (nI i) = some (upd has l (nI (skS al nf kd t h k).1), upd knows m (nI (skS al nf kd t h k).2), offA on l kd (skS al nf kd t h k).1) := by
  intro t
  have htk := tkK_le kd
  have c1 := nI_inL (N := 5) hl (by decide)
  have c2 := nI_inL (N := 4) hm (by decide)
  have e1 : (nI l).toNatClampNeg = l := nI_clamp (by omega)
  have e2 : (nI m).toNatClampNeg = m := nI_clamp (by omega)
  induction t with
  | zero =>
    intro i q h k has knows hi hh hk2 hha hkn
    have : i = tkK kd := by omega
    subst this
    unfold fX3_feed_15
    rw [if_pos (nI_le (Nat.le_refl _) (by omega)), pu_feed_end n hl hkd hk hha hh]
    have a1 : (skS al nf kd 0 h k).1 = h := rfl
    have a2 : (skS al nf kd 0 h k).2 = k := rfl
    rw [a1, a2, upd_self hha, upd_self hkn]
  | succ t ih =>
    intro i q h k has knows hi hh hk2 hha hkn
    have e : q + (t + 1) + 1 = (q + t + 1) + 1 := by omega
    have hk4 := lt4096 hnf hk2
    rw [e]
    unfold fX3_feed_15
    rw [if_neg (nI_ge (by omega) (by omega)), pu_isSated n hl hkd hk hha hh, Option.bind_some, skS_s]
    by_cases c3 : rmK kd ≤ pc h
    · have o1 : offI kd h = 1 := by unfold offI; rw [if_pos c3]
      rw [o1, if_neg (by decide), if_pos (Or.inr c3), pu_feed_end n hl hkd hk hha hh, upd_self hha, upd_self hkn]
    · have o1 : offI kd h = 0 := by unfold offI; rw [if_neg c3]
      rw [o1, if_pos rfl, e1, e2, if_neg c2, hkn]
      by_cases c0 : k = 0
      · subst c0
        rw [if_pos nI_0, if_pos (Or.inl rfl), pu_feed_end n hl hkd hk hha hh, upd_self hha, upd_self hkn]
      · have hN := nxB_spec (kd := kd) hk4 c0
        have hNf := bit_lt hk2 hN.2
        obtain ⟨w, hw1, hw2, hw3⟩ := hC _ hNf
        have cc : ¬ (k = 0 ∨ rmK kd ≤ pc h) := fun z => z.elim c0 c3
        have c5 := nI_inL (N := 12) hN.1 (by decide)
        have e5 : (nI (nxB kd k)).toNatClampNeg = nxB kd k := nI_clamp (by omega)
        have hlo := lostL_le al (nxB kd k) k nf
        rw [if_neg (nI_ne0' hk4 c0), if_neg c1, if_neg c2, hk, pu_next3 n hkd hk4 c0, Option.bind_some, e5, if_neg c1, if_neg c1, if_neg c2, if_neg c5, if_neg c2, if_neg cc, hha, hw2, pu_1shl (by omega), pu_or, pu_dif, lost_dif hk4 hw3, nI_1]
        have := ih (i + 1) q (h ||| 2 ^ nxB kd k) (lostL al (nxB kd k) k nf) (upd has l (nI (h ||| 2 ^ nxB kd k))) (upd knows m (nI (lostL al (nxB kd k) k nf))) (by omega) (or_lt hh hN.1) (by omega) (upd_at _ _ _) (upd_at _ _ _)
        rw [upd_upd, upd_upd] at this
        exact this
/-- a leech on a member, in its minute -/
theorem pu_feed {n : Nat} (hn : 13 ≤ n) {kind lw on has knows : Nat → Int32} {al : Nat → Nat} {nf l m kd h k : Nat} (hnf : nf ≤ 12) (hC : fctC lw nf al) (hl : l < 5) (hm : m < 4) (hkd : kd < 5) (hk : kind l = nI kd) (hh : h < 4096) (hk2 : k < 2 ^ nf) (hha : has l = nI h) (hkn : knows m = nI k) :
    fX3_feed n kind lw has knows on (nI l) (nI m) = some (upd has l (nI (sk al nf kd h k).1), upd knows m (nI (sk al nf kd h k).2), offA on l kd (sk al nf kd h k).1) := by
  unfold fX3_feed
  have htk := tkK_le kd
  have hlp := pu_feed_loop n (on := on) hnf hC hl hm hkd hk (tkK kd) 0 (n - tkK kd - 1) h k has knows (by omega) hh hk2 hha hkn
  have e : n - tkK kd - 1 + tkK kd + 1 = n := by omega
  rw [e] at hlp
  rw [if_neg (nI_in (N := 5) hl (by decide)), nI_clamp (by omega), hk, if_neg (nI_in (N := 5) hkd (by decide)), nI_clamp (by omega), tb_TAKES hkd]
  exact hlp
