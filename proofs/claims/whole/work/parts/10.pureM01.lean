def fX8_in_18 (n : Nat) (t0 : Int32) : Option (Int32) :=
  (if t0 = 0 ∨ t0 = 1 then some t0 else none)
def fX8_in_17 (n : Nat) : Option (Int32) :=
  fX8_in_18 n 0
def fX8_in (n : Nat) (v0 : Int64) (v2 : Int64) (v4 : Int64) : Option (Int32) :=
  (if (lg_cmp v0 v2) < 0 then fX8_in_17 n else (if 0 < (lg_cmp v0 v4) then fX8_in_17 n else fX8_in_18 n 1))

def fX8_has_14 (n : Nat) (t0 : Int32) : Option (Int32) :=
  (if t0 = 0 ∨ t0 = 1 then some t0 else none)
def fX8_has (n : Nat) (v0 : Int32) (v1 : Int32) : Option (Int32) :=
  (if ((v0 >>> (v1 &&& 31)) &&& 1) = 1 then fX8_has_14 n 1 else fX8_has_14 n 0)

def fX8_bits_4 (n : Nat) : Nat → Int32 → Int32 → Int32 → Option (Int32)
  | 0 => fun _ _ _ => none
  | k + 1 => fun v0 v1 v2 => (if 12 ≤ v2 then some v1 else (fX8_bits_4 n k) v0 (v1 + ((v0 >>> (v2 &&& 31)) &&& 1)) (v2 + 1))
def fX8_bits (n : Nat) (v0 : Int32) : Option (Int32) :=
  fX8_bits_4 n n v0 0 0

def fX8_write (n : Nat) (x_text : Nat → Int32) (x_length : Int32) (v1 : Int32) : Option (Int32 × (Nat → Int32) × Int32) :=
  (fX8_in n v1.toInt64 0 255).bind fun z1 => (if z1 = 0 then some ((-3), x_text, x_length) else (if x_length = 200 then some ((-5), x_text, x_length) else (if x_length < 0 ∨ 200 ≤ x_length.toNatClampNeg then none else some ((x_length + 1), (upd x_text x_length.toNatClampNeg v1), (x_length + 1)))))

def fX8_erase (n : Nat) (x_length : Int32) : Option (Int32 × Int32) :=
  some (x_length, 0)

def fX8_isLetter (n : Nat) (v0 : Int32) : Option (Int32) :=
  (fX8_in n v0.toInt64 97 122).bind fun z1 => (if z1 = 0 ∨ z1 = 1 then some z1 else none)

def fX8_isDigit (n : Nat) (v0 : Int32) : Option (Int32) :=
  (fX8_in n v0.toInt64 48 57).bind fun z1 => (if z1 = 0 ∨ z1 = 1 then some z1 else none)

def fX8_nextToken_204 (n : Nat) (x_length : Int32) (x_text : Nat → Int32) (x_first : Int32) (x_behind : Int32) : Option (Int32 × Int32) :=
  some (x_first, x_behind)
def fX8_nextToken_165 (n : Nat) (x_length : Int32) (x_text : Nat → Int32) : Nat → Int32 → Int32 → Option (Int32 × Int32)
  | 0 => fun _ _ => none
  | k + 1 => fun x_first x_behind => (if x_length ≤ x_behind then fX8_nextToken_204 n x_length x_text x_first x_behind else (if x_behind < 0 ∨ 200 ≤ x_behind.toNatClampNeg then none else (fX8_isDigit n (x_text x_behind.toNatClampNeg)).bind fun z3 => (if z3 = 0 then fX8_nextToken_204 n x_length x_text x_first x_behind else (fX8_nextToken_165 n x_length x_text k) x_first (x_behind + 1))))
def fX8_nextToken_139 (n : Nat) (x_length : Int32) (x_text : Nat → Int32) (x_first : Int32) (x_behind : Int32) : Option (Int32 × Int32) :=
  (if x_length ≤ x_first then fX8_nextToken_204 n x_length x_text x_first x_behind else (if x_first < 0 ∨ 200 ≤ x_first.toNatClampNeg then none else (fX8_isDigit n (x_text x_first.toNatClampNeg)).bind fun z3 => (if z3 = 0 then fX8_nextToken_204 n x_length x_text x_first x_behind else fX8_nextToken_165 n x_length x_text n x_first x_behind)))
def fX8_nextToken_100 (n : Nat) (x_length : Int32) (x_text : Nat → Int32) : Nat → Int32 → Int32 → Option (Int32 × Int32)
  | 0 => fun _ _ => none
  | k + 1 => fun x_first x_behind => (if x_length ≤ x_behind then fX8_nextToken_204 n x_length x_text x_first x_behind else (if x_behind < 0 ∨ 200 ≤ x_behind.toNatClampNeg then none else (fX8_isLetter n (x_text x_behind.toNatClampNeg)).bind fun z3 => (if z3 = 0 then fX8_nextToken_204 n x_length x_text x_first x_behind else (fX8_nextToken_100 n x_length x_text k) x_first (x_behind + 1))))
def fX8_nextToken_71 (n : Nat) (x_length : Int32) (x_text : Nat → Int32) (x_first : Int32) (x_behind : Int32) (t1 : Int32) : Option (Int32 × Int32) :=
  (if x_length ≤ x_first then fX8_nextToken_139 n x_length x_text x_first t1 else (if x_first < 0 ∨ 200 ≤ x_first.toNatClampNeg then none else (fX8_isLetter n (x_text x_first.toNatClampNeg)).bind fun z3 => (if z3 = 0 then fX8_nextToken_139 n x_length x_text x_first t1 else fX8_nextToken_100 n x_length x_text n x_first t1)))
def fX8_nextToken_46 (n : Nat) (x_length : Int32) (x_text : Nat → Int32) (x_first : Int32) (x_behind : Int32) : Option (Int32 × Int32) :=
  (if x_length ≤ x_first then fX8_nextToken_71 n x_length x_text x_first x_behind x_first else fX8_nextToken_71 n x_length x_text x_first x_behind (x_first + 1))
def fX8_nextToken_8 (n : Nat) (x_length : Int32) (x_text : Nat → Int32) : Nat → Int32 → Int32 → Option (Int32 × Int32)
  | 0 => fun _ _ => none
  | k + 1 => fun x_first x_behind => (if x_length ≤ x_first then fX8_nextToken_46 n x_length x_text x_first x_behind else (if x_first < 0 ∨ 200 ≤ x_first.toNatClampNeg then none else (if (x_text x_first.toNatClampNeg) = 32 then (fX8_nextToken_8 n x_length x_text k) (x_first + 1) x_behind else fX8_nextToken_46 n x_length x_text x_first x_behind)))
def fX8_nextToken (n : Nat) (x_length : Int32) (x_text : Nat → Int32) (x_first : Int32) (x_behind : Int32) : Option (Int32 × Int32) :=
  fX8_nextToken_8 n x_length x_text n x_behind x_behind

def fX8_isWord_61 (n : Nat) (n_p0 : Nat) (x_behind : Int32) (x_first : Int32) (x_text : Nat → Int32) (x_p0 : Nat → Int32) (v2 : Int32) : Option (Int32) :=
  (if v2 = 0 ∨ v2 = 1 then some v2 else none)
def fX8_isWord_54 (n : Nat) (r_22 : Int32 → Int32 → Option (Int32)) (n_p0 : Nat) (x_behind : Int32) (x_first : Int32) (x_text : Nat → Int32) (x_p0 : Nat → Int32) (v3 : Int32) (t0 : Int32) : Option (Int32) :=
  r_22 t0 (v3 + 1)
def fX8_isWord_22 (n : Nat) (n_p0 : Nat) (x_behind : Int32) (x_first : Int32) (x_text : Nat → Int32) (x_p0 : Nat → Int32) : Nat → Int32 → Int32 → Option (Int32)
  | 0 => fun _ _ => none
  | k + 1 => fun v2 v3 => (if (Int32.ofNat n_p0) ≤ v3 then fX8_isWord_61 n n_p0 x_behind x_first x_text x_p0 v2 else (if v2 = 0 then fX8_isWord_61 n n_p0 x_behind x_first x_text x_p0 v2 else (if (x_first + v3) < 0 ∨ 200 ≤ (x_first + v3).toNatClampNeg then none else (if v3 < 0 ∨ n_p0 ≤ v3.toNatClampNeg then none else (if (x_text (x_first + v3).toNatClampNeg) = (x_p0 v3.toNatClampNeg) then fX8_isWord_54 n (fX8_isWord_22 n n_p0 x_behind x_first x_text x_p0 k) n_p0 x_behind x_first x_text x_p0 v3 1 else fX8_isWord_54 n (fX8_isWord_22 n n_p0 x_behind x_first x_text x_p0 k) n_p0 x_behind x_first x_text x_p0 v3 0)))))
def fX8_isWord_19 (n : Nat) (n_p0 : Nat) (x_behind : Int32) (x_first : Int32) (x_text : Nat → Int32) (x_p0 : Nat → Int32) (t0 : Int32) : Option (Int32) :=
  fX8_isWord_22 n n_p0 x_behind x_first x_text x_p0 n t0 0
def fX8_isWord (n : Nat) (n_p0 : Nat) (x_behind : Int32) (x_first : Int32) (x_text : Nat → Int32) (x_p0 : Nat → Int32) : Option (Int32) :=
  (if (x_behind - x_first) = (Int32.ofNat n_p0) then fX8_isWord_19 n n_p0 x_behind x_first x_text x_p0 1 else fX8_isWord_19 n n_p0 x_behind x_first x_text x_p0 0)

def fX8_number_60 (n : Nat) (x_length : Int32) (x_text : Nat → Int32) (x_first : Int32) (x_behind : Int32) (t0 : Int32) : Option (Int32 × Int32 × Int32) :=
  (if t0 = 0 then some ((-1), x_first, x_behind) else (if x_first < 0 ∨ 200 ≤ x_first.toNatClampNeg then none else (fX8_nextToken n x_length x_text x_first x_behind).bind fun z3 => some ((x_text x_first.toNatClampNeg) - 48, z3.1, z3.2)))
def fX8_number_59 (n : Nat) (x_length : Int32) (x_text : Nat → Int32) (x_first : Int32) (x_behind : Int32) : Option (Int32 × Int32 × Int32) :=
  fX8_number_60 n x_length x_text x_first x_behind 0
def fX8_number (n : Nat) (x_length : Int32) (x_text : Nat → Int32) (x_first : Int32) (x_behind : Int32) (v1 : Int32) : Option (Int32 × Int32 × Int32) :=
  (if x_length ≤ x_first then fX8_number_59 n x_length x_text x_first x_behind else (if x_first < 0 ∨ 200 ≤ x_first.toNatClampNeg then none else (fX8_isDigit n (x_text x_first.toNatClampNeg)).bind fun z3 => (if z3 = 0 then fX8_number_59 n x_length x_text x_first x_behind else (if (x_behind - x_first) = 1 then (if x_first < 0 ∨ 200 ≤ x_first.toNatClampNeg then none else (if v1 ≤ ((x_text x_first.toNatClampNeg) - 48) then fX8_number_59 n x_length x_text x_first x_behind else fX8_number_60 n x_length x_text x_first x_behind 1)) else fX8_number_59 n x_length x_text x_first x_behind))))

def fX8_facts_26 (n : Nat) (x_length : Int32) (x_text : Nat → Int32) (x_readFacts : Int32) (x_first : Int32) (x_behind : Int32) : Option (Int32 × Int32 × Int32) :=
  some (0, x_first, x_behind)
def fX8_facts_125 (n : Nat) (x_length : Int32) (x_text : Nat → Int32) (x_readFacts : Int32) (x_first : Int32) (x_behind : Int32) (v1 : Int32) (v2 : Int32) : Option (Int32 × Int32 × Int32) :=
  (if v2 = 0 then some ((-1), x_first, x_behind) else (fX8_nextToken n x_length x_text x_first x_behind).bind fun z2 => some (v1, z2.1, z2.2))
def fX8_facts_117 (n : Nat) (r_41 : Int32 → Int32 → Int32 → Int32 → Int32 → Int32 → Option (Int32 × Int32 × Int32)) (x_length : Int32) (x_text : Nat → Int32) (x_readFacts : Int32) (x_first : Int32) (x_behind : Int32) (v2 : Int32) (v3 : Int32) (v4 : Int32) (t0 : Int32) (t1 : Int32) : Option (Int32 × Int32 × Int32) :=
  r_41 x_first x_behind (t0 ||| t1) v2 v3 (v4 + 1)
def fX8_facts_87 (n : Nat) (r_41 : Int32 → Int32 → Int32 → Int32 → Int32 → Int32 → Option (Int32 × Int32 × Int32)) (x_length : Int32) (x_text : Nat → Int32) (x_readFacts : Int32) (x_first : Int32) (x_behind : Int32) (v1 : Int32) (v4 : Int32) (t0 : Int32) : Option (Int32 × Int32 × Int32) :=
  (if v4 < 0 ∨ 200 ≤ v4.toNatClampNeg then none else (if t0 = 0 then fX8_facts_117 n r_41 x_length x_text x_readFacts x_first x_behind t0 (x_text v4.toNatClampNeg) v4 v1 0 else (if v4 < 0 ∨ 200 ≤ v4.toNatClampNeg then none else fX8_facts_117 n r_41 x_length x_text x_readFacts x_first x_behind t0 (x_text v4.toNatClampNeg) v4 v1 (1 <<< (((x_text v4.toNatClampNeg) - 97) &&& 31)))))
def fX8_facts_86 (n : Nat) (r_41 : Int32 → Int32 → Int32 → Int32 → Int32 → Int32 → Option (Int32 × Int32 × Int32)) (x_length : Int32) (x_text : Nat → Int32) (x_readFacts : Int32) (x_first : Int32) (x_behind : Int32) (v1 : Int32) (v4 : Int32) : Option (Int32 × Int32 × Int32) :=
  fX8_facts_87 n r_41 x_length x_text x_readFacts x_first x_behind v1 v4 0
def fX8_facts_41 (n : Nat) (x_length : Int32) (x_text : Nat → Int32) (x_readFacts : Int32) : Nat → Int32 → Int32 → Int32 → Int32 → Int32 → Int32 → Option (Int32 × Int32 × Int32)
  | 0 => fun _ _ _ _ _ _ => none
  | k + 1 => fun x_first x_behind v1 v2 v3 v4 => (if x_behind ≤ v4 then fX8_facts_125 n x_length x_text x_readFacts x_first x_behind v1 v2 else (if v2 = 0 then fX8_facts_125 n x_length x_text x_readFacts x_first x_behind v1 v2 else (if v4 < 0 ∨ 200 ≤ v4.toNatClampNeg then none else (if (x_text v4.toNatClampNeg) ≤ v3 then fX8_facts_86 n (fX8_facts_41 n x_length x_text x_readFacts k) x_length x_text x_readFacts x_first x_behind v1 v4 else (if v4 < 0 ∨ 200 ≤ v4.toNatClampNeg then none else (if (97 + x_readFacts) ≤ (x_text v4.toNatClampNeg) then fX8_facts_86 n (fX8_facts_41 n x_length x_text x_readFacts k) x_length x_text x_readFacts x_first x_behind v1 v4 else fX8_facts_87 n (fX8_facts_41 n x_length x_text x_readFacts k) x_length x_text x_readFacts x_first x_behind v1 v4 1))))))
def fX8_facts (n : Nat) (x_length : Int32) (x_text : Nat → Int32) (x_readFacts : Int32) (x_first : Int32) (x_behind : Int32) : Option (Int32 × Int32 × Int32) :=
  (if x_first = x_length then fX8_facts_26 n x_length x_text x_readFacts x_first x_behind else (if x_first < 0 ∨ 200 ≤ x_first.toNatClampNeg then none else (fX8_isLetter n (x_text x_first.toNatClampNeg)).bind fun z3 => (if z3 = 0 then fX8_facts_26 n x_length x_text x_readFacts x_first x_behind else fX8_facts_41 n x_length x_text x_readFacts n x_first x_behind 0 1 96 x_first)))

def fX8_allOf_38 (n : Nat) (r_5 : Int32 → Int32 → Int32 → Int32 → Option (Int32)) (x_row : Nat → Int32) (v1 : Int32) (v2 : Int32) (v4 : Int32) (t0 : Int32) (t1 : Int32) : Option (Int32) :=
  r_5 v1 v2 (t0 ||| t1) (v4 + 1)
def fX8_allOf_5 (n : Nat) (x_row : Nat → Int32) : Nat → Int32 → Int32 → Int32 → Int32 → Option (Int32)
  | 0 => fun _ _ _ _ => none
  | k + 1 => fun v1 v2 v3 v4 => (if 12 ≤ v4 then some v3 else (fX8_has n v2 v4).bind fun z2 => (if z2 = 0 then fX8_allOf_38 n (fX8_allOf_5 n x_row k) x_row v1 v2 v4 v3 0 else (if ((v1 + 36) + v4) < 0 ∨ 624 ≤ ((v1 + 36) + v4).toNatClampNeg then none else fX8_allOf_38 n (fX8_allOf_5 n x_row k) x_row v1 v2 v4 v3 (x_row ((v1 + 36) + v4).toNatClampNeg))))
def fX8_allOf (n : Nat) (x_row : Nat → Int32) (v1 : Int32) (v2 : Int32) : Option (Int32) :=
  fX8_allOf_5 n x_row n v1 v2 v2 0

def fX8_readsFact_84 (n : Nat) (x_length : Int32) (x_text : Nat → Int32) (x_doing : Int32) (x_first : Int32) (x_behind : Int32) (x_row : Nat → Int32) (x_readFacts : Int32) : Option (Int32 × Int32 × Int32 × (Nat → Int32) × Int32) :=
  some (1, x_first, x_behind, x_row, (x_readFacts + 1))
def fX8_readsFact (n : Nat) (x_length : Int32) (x_text : Nat → Int32) (x_doing : Int32) (x_first : Int32) (x_behind : Int32) (x_row : Nat → Int32) (x_readFacts : Int32) : Option (Int32 × Int32 × Int32 × (Nat → Int32) × Int32) :=
  (if x_readFacts = 12 then some (0, x_first, x_behind, x_row, x_readFacts) else (fX8_nextToken n x_length x_text x_first x_behind).bind fun z2 => (fX8_facts n x_length x_text x_readFacts z2.1 z2.2).bind fun z3 => (if z3.1 = (-1) then some (0, z3.2.1, z3.2.2, x_row, x_readFacts) else (if x_doing = 0 then fX8_readsFact_84 n x_length x_text x_doing z3.2.1 z3.2.2 x_row x_readFacts else (if (72 + x_readFacts) < 0 ∨ 624 ≤ (72 + x_readFacts).toNatClampNeg then none else (fX8_allOf n (upd x_row (72 + x_readFacts).toNatClampNeg z3.1) 48 z3.1).bind fun z7 => (if (84 + x_readFacts) < 0 ∨ 624 ≤ (84 + x_readFacts).toNatClampNeg then none else fX8_readsFact_84 n x_length x_text x_doing z3.2.1 z3.2.2 (upd (upd (upd x_row (72 + x_readFacts).toNatClampNeg z3.1) (84 + x_readFacts).toNatClampNeg (z7 ||| (1 <<< (x_readFacts &&& 31)))) 71 (((upd (upd x_row (72 + x_readFacts).toNatClampNeg z3.1) (84 + x_readFacts).toNatClampNeg (z7 ||| (1 <<< (x_readFacts &&& 31)))) 71) + 1)) x_readFacts)))))

def fX8_readsMember_63 (n : Nat) (x_length : Int32) (x_text : Nat → Int32) (x_readFacts : Int32) (x_doing : Int32) (x_first : Int32) (x_behind : Int32) (x_row : Nat → Int32) (x_readMembers : Int32) : Option (Int32 × Int32 × Int32 × (Nat → Int32) × Int32) :=
  some (1, x_first, x_behind, x_row, (x_readMembers + 1))
def fX8_readsMember (n : Nat) (x_length : Int32) (x_text : Nat → Int32) (x_readFacts : Int32) (x_doing : Int32) (x_first : Int32) (x_behind : Int32) (x_row : Nat → Int32) (x_readMembers : Int32) : Option (Int32 × Int32 × Int32 × (Nat → Int32) × Int32) :=
  (if x_readMembers = 4 then some (0, x_first, x_behind, x_row, x_readMembers) else (fX8_nextToken n x_length x_text x_first x_behind).bind fun z2 => (fX8_facts n x_length x_text x_readFacts z2.1 z2.2).bind fun z3 => (if z3.1 = (-1) then some (0, z3.2.1, z3.2.2, x_row, x_readMembers) else (if x_doing = 0 then fX8_readsMember_63 n x_length x_text x_readFacts x_doing z3.2.1 z3.2.2 x_row x_readMembers else (fX8_allOf n x_row 48 z3.1).bind fun z6 => (if (48 + x_readMembers) < 0 ∨ 624 ≤ (48 + x_readMembers).toNatClampNeg then none else fX8_readsMember_63 n x_length x_text x_readFacts x_doing z3.2.1 z3.2.2 (upd (upd x_row (48 + x_readMembers).toNatClampNeg z6) 64 (((upd x_row (48 + x_readMembers).toNatClampNeg z6) 64) + 1)) x_readMembers))))

def fX8_kindHere_76 (n : Nat) (x_behind : Int32) (x_first : Int32) (x_text : Nat → Int32) (x_commonWord : Nat → Int32) (x_stripedWord : Nat → Int32) (x_greedyWord : Nat → Int32) (x_bishopWord : Nat → Int32) (x_muffWord : Nat → Int32) (t0 : Int32) : Option (Int32) :=
  some t0
def fX8_kindHere (n : Nat) (x_behind : Int32) (x_first : Int32) (x_text : Nat → Int32) (x_commonWord : Nat → Int32) (x_stripedWord : Nat → Int32) (x_greedyWord : Nat → Int32) (x_bishopWord : Nat → Int32) (x_muffWord : Nat → Int32) : Option (Int32) :=
  (fX8_isWord n 6 x_behind x_first x_text x_commonWord).bind fun z1 => (if z1 = 0 then (fX8_isWord n 7 x_behind x_first x_text x_stripedWord).bind fun z3 => (if z3 = 0 then (fX8_isWord n 6 x_behind x_first x_text x_greedyWord).bind fun z5 => (if z5 = 0 then (fX8_isWord n 6 x_behind x_first x_text x_bishopWord).bind fun z7 => (if z7 = 0 then (fX8_isWord n 4 x_behind x_first x_text x_muffWord).bind fun z9 => (if z9 = 0 then fX8_kindHere_76 n x_behind x_first x_text x_commonWord x_stripedWord x_greedyWord x_bishopWord x_muffWord (-1) else fX8_kindHere_76 n x_behind x_first x_text x_commonWord x_stripedWord x_greedyWord x_bishopWord x_muffWord 4) else fX8_kindHere_76 n x_behind x_first x_text x_commonWord x_stripedWord x_greedyWord x_bishopWord x_muffWord 3) else fX8_kindHere_76 n x_behind x_first x_text x_commonWord x_stripedWord x_greedyWord x_bishopWord x_muffWord 2) else fX8_kindHere_76 n x_behind x_first x_text x_commonWord x_stripedWord x_greedyWord x_bishopWord x_muffWord 1) else fX8_kindHere_76 n x_behind x_first x_text x_commonWord x_stripedWord x_greedyWord x_bishopWord x_muffWord 0)

def fX8_readsLeech_58 (n : Nat) (x_length : Int32) (x_text : Nat → Int32) (x_doing : Int32) (x_first : Int32) (x_behind : Int32) (x_row : Nat → Int32) (x_readLeeches : Int32) : Option (Int32 × Int32 × Int32 × (Nat → Int32) × Int32) :=
  some (1, x_first, x_behind, x_row, (x_readLeeches + 1))
def fX8_readsLeech (n : Nat) (x_length : Int32) (x_text : Nat → Int32) (x_doing : Int32) (x_first : Int32) (x_behind : Int32) (x_row : Nat → Int32) (x_readLeeches : Int32) (v1 : Int32) : Option (Int32 × Int32 × Int32 × (Nat → Int32) × Int32) :=
  (if x_readLeeches = 5 then some (0, x_first, x_behind, x_row, x_readLeeches) else (fX8_nextToken n x_length x_text x_first x_behind).bind fun z2 => (if x_doing = 0 then fX8_readsLeech_58 n x_length x_text x_doing z2.1 z2.2 x_row x_readLeeches else (if (66 + x_readLeeches) < 0 ∨ 624 ≤ (66 + x_readLeeches).toNatClampNeg then none else (if (52 + x_readLeeches) < 0 ∨ 624 ≤ (52 + x_readLeeches).toNatClampNeg then none else fX8_readsLeech_58 n x_length x_text x_doing z2.1 z2.2 (upd (upd (upd x_row (66 + x_readLeeches).toNatClampNeg v1) (52 + x_readLeeches).toNatClampNeg (-1)) 65 (((upd (upd x_row (66 + x_readLeeches).toNatClampNeg v1) (52 + x_readLeeches).toNatClampNeg (-1)) 65) + 1)) x_readLeeches))))

def fX8_readsOn_66 (n : Nat) (x_length : Int32) (x_text : Nat → Int32) (x_readLeeches : Int32) (x_readMembers : Int32) (x_doing : Int32) (x_first : Int32) (x_behind : Int32) (x_row : Nat → Int32) (t1 : Int32) (t2 : Int32) : Option (Int32 × Int32 × Int32 × (Nat → Int32)) :=
  (if t1 < 0 ∨ 624 ≤ t1.toNatClampNeg then none else some (1, x_first, x_behind, (upd x_row t1.toNatClampNeg t2)))
def fX8_readsOn_30 (n : Nat) (x_length : Int32) (x_text : Nat → Int32) (x_readLeeches : Int32) (x_readMembers : Int32) (x_doing : Int32) (x_first : Int32) (x_behind : Int32) (x_row : Nat → Int32) (v1 : Int32) (t0 : Int32) : Option (Int32 × Int32 × Int32 × (Nat → Int32)) :=
  (if t0 = (-1) then some (0, x_first, x_behind, x_row) else (if x_doing = 0 then (if (52 + v1) < 0 ∨ 624 ≤ (52 + v1).toNatClampNeg then none else fX8_readsOn_66 n x_length x_text x_readLeeches x_readMembers x_doing x_first x_behind x_row (52 + v1) (x_row (52 + v1).toNatClampNeg)) else fX8_readsOn_66 n x_length x_text x_readLeeches x_readMembers x_doing x_first x_behind x_row (52 + v1) t0))
def fX8_readsOn (n : Nat) (x_length : Int32) (x_text : Nat → Int32) (x_readLeeches : Int32) (x_readMembers : Int32) (x_doing : Int32) (x_first : Int32) (x_behind : Int32) (x_row : Nat → Int32) : Option (Int32 × Int32 × Int32 × (Nat → Int32)) :=
  (fX8_nextToken n x_length x_text x_first x_behind).bind fun z1 => (fX8_number n x_length x_text z1.1 z1.2 x_readLeeches).bind fun z2 => (if z2.1 = (-1) then fX8_readsOn_30 n x_length x_text x_readLeeches x_readMembers x_doing z2.2.1 z2.2.2 x_row z2.1 (-1) else (fX8_number n x_length x_text z2.2.1 z2.2.2 x_readMembers).bind fun z4 => fX8_readsOn_30 n x_length x_text x_readLeeches x_readMembers x_doing z4.2.1 z4.2.2 x_row z2.1 z4.1)

def fX8_readsClub_50 (n : Nat) (x_length : Int32) (x_text : Nat → Int32) (x_doing : Int32) (x_first : Int32) (x_behind : Int32) (x_readFacts : Int32) (x_readMembers : Int32) (x_readLeeches : Int32) (x_row : Nat → Int32) : Option (Int32 × Int32 × Int32 × Int32 × Int32 × Int32 × (Nat → Int32)) :=
  some (1, x_first, x_behind, x_readFacts, x_readMembers, x_readLeeches, x_row)
def fX8_readsClub_21 (n : Nat) (x_length : Int32) (x_text : Nat → Int32) (x_doing : Int32) : Nat → Int32 → Int32 → Int32 → Int32 → Int32 → (Nat → Int32) → Int32 → Option (Int32 × Int32 × Int32 × Int32 × Int32 × Int32 × (Nat → Int32))
  | 0 => fun _ _ _ _ _ _ _ => none
  | k + 1 => fun x_first x_behind x_readFacts x_readMembers x_readLeeches x_row v1 => (if 48 ≤ v1 then fX8_readsClub_50 n x_length x_text x_doing x_first x_behind x_readFacts x_readMembers x_readLeeches x_row else (if x_doing = 0 then fX8_readsClub_50 n x_length x_text x_doing x_first x_behind x_readFacts x_readMembers x_readLeeches x_row else (if (48 + v1) < 0 ∨ 624 ≤ (48 + v1).toNatClampNeg then none else (fX8_readsClub_21 n x_length x_text x_doing k) x_first x_behind x_readFacts x_readMembers x_readLeeches (upd x_row (48 + v1).toNatClampNeg 0) (v1 + 1))))
def fX8_readsClub (n : Nat) (x_length : Int32) (x_text : Nat → Int32) (x_doing : Int32) (x_first : Int32) (x_behind : Int32) (x_readFacts : Int32) (x_readMembers : Int32) (x_readLeeches : Int32) (x_row : Nat → Int32) : Option (Int32 × Int32 × Int32 × Int32 × Int32 × Int32 × (Nat → Int32)) :=
  (fX8_nextToken n x_length x_text x_first x_behind).bind fun z1 => fX8_readsClub_21 n x_length x_text x_doing n z1.1 z1.2 0 0 0 x_row 0

def fX8_readsClause_94 (n : Nat) (x_text : Nat → Int32) (x_commonWord : Nat → Int32) (x_stripedWord : Nat → Int32) (x_greedyWord : Nat → Int32) (x_bishopWord : Nat → Int32) (x_muffWord : Nat → Int32) (x_clubWord : Nat → Int32) (x_factWord : Nat → Int32) (x_memberWord : Nat → Int32) (x_onWord : Nat → Int32) (x_length : Int32) (x_doing : Int32) (x_first : Int32) (x_behind : Int32) (x_row : Nat → Int32) (x_readMembers : Int32) (x_readFacts : Int32) (x_readLeeches : Int32) (t0 : Int32) : Option (Int32 × Int32 × Int32 × (Nat → Int32) × Int32 × Int32 × Int32) :=
  (if t0 = 0 ∨ t0 = 1 then some (t0, x_first, x_behind, x_row, x_readMembers, x_readFacts, x_readLeeches) else none)
def fX8_readsClause_93 (n : Nat) (x_text : Nat → Int32) (x_commonWord : Nat → Int32) (x_stripedWord : Nat → Int32) (x_greedyWord : Nat → Int32) (x_bishopWord : Nat → Int32) (x_muffWord : Nat → Int32) (x_clubWord : Nat → Int32) (x_factWord : Nat → Int32) (x_memberWord : Nat → Int32) (x_onWord : Nat → Int32) (x_length : Int32) (x_doing : Int32) (x_first : Int32) (x_behind : Int32) (x_row : Nat → Int32) (x_readMembers : Int32) (x_readFacts : Int32) (x_readLeeches : Int32) : Option (Int32 × Int32 × Int32 × (Nat → Int32) × Int32 × Int32 × Int32) :=
  fX8_readsClause_94 n x_text x_commonWord x_stripedWord x_greedyWord x_bishopWord x_muffWord x_clubWord x_factWord x_memberWord x_onWord x_length x_doing x_first x_behind x_row x_readMembers x_readFacts x_readLeeches 0
def fX8_readsClause (n : Nat) (x_text : Nat → Int32) (x_commonWord : Nat → Int32) (x_stripedWord : Nat → Int32) (x_greedyWord : Nat → Int32) (x_bishopWord : Nat → Int32) (x_muffWord : Nat → Int32) (x_clubWord : Nat → Int32) (x_factWord : Nat → Int32) (x_memberWord : Nat → Int32) (x_onWord : Nat → Int32) (x_length : Int32) (x_doing : Int32) (x_first : Int32) (x_behind : Int32) (x_row : Nat → Int32) (x_readMembers : Int32) (x_readFacts : Int32) (x_readLeeches : Int32) : Option (Int32 × Int32 × Int32 × (Nat → Int32) × Int32 × Int32 × Int32) :=
  (fX8_kindHere n x_behind x_first x_text x_commonWord x_stripedWord x_greedyWord x_bishopWord x_muffWord).bind fun z1 => (if z1 = (-1) then (fX8_isWord n 4 x_behind x_first x_text x_clubWord).bind fun z3 => (if z3 = 0 then (fX8_isWord n 4 x_behind x_first x_text x_factWord).bind fun z5 => (if z5 = 0 then (fX8_isWord n 6 x_behind x_first x_text x_memberWord).bind fun z7 => (if z7 = 0 then (fX8_isWord n 2 x_behind x_first x_text x_onWord).bind fun z9 => (if z9 = 0 then fX8_readsClause_93 n x_text x_commonWord x_stripedWord x_greedyWord x_bishopWord x_muffWord x_clubWord x_factWord x_memberWord x_onWord x_length x_doing x_first x_behind x_row x_readMembers x_readFacts x_readLeeches else (fX8_readsOn n x_length x_text x_readLeeches x_readMembers x_doing x_first x_behind x_row).bind fun z11 => (if z11.1 = 0 then fX8_readsClause_93 n x_text x_commonWord x_stripedWord x_greedyWord x_bishopWord x_muffWord x_clubWord x_factWord x_memberWord x_onWord x_length x_doing z11.2.1 z11.2.2.1 z11.2.2.2 x_readMembers x_readFacts x_readLeeches else fX8_readsClause_94 n x_text x_commonWord x_stripedWord x_greedyWord x_bishopWord x_muffWord x_clubWord x_factWord x_memberWord x_onWord x_length x_doing z11.2.1 z11.2.2.1 z11.2.2.2 x_readMembers x_readFacts x_readLeeches 1)) else (fX8_readsMember n x_length x_text x_readFacts x_doing x_first x_behind x_row x_readMembers).bind fun z13 => fX8_readsClause_94 n x_text x_commonWord x_stripedWord x_greedyWord x_bishopWord x_muffWord x_clubWord x_factWord x_memberWord x_onWord x_length x_doing z13.2.1 z13.2.2.1 z13.2.2.2.1 z13.2.2.2.2 x_readFacts x_readLeeches z13.1) else (fX8_readsFact n x_length x_text x_doing x_first x_behind x_row x_readFacts).bind fun z14 => fX8_readsClause_94 n x_text x_commonWord x_stripedWord x_greedyWord x_bishopWord x_muffWord x_clubWord x_factWord x_memberWord x_onWord x_length x_doing z14.2.1 z14.2.2.1 z14.2.2.2.1 x_readMembers z14.2.2.2.2 x_readLeeches z14.1) else (fX8_readsClub n x_length x_text x_doing x_first x_behind x_readFacts x_readMembers x_readLeeches x_row).bind fun z15 => fX8_readsClause_94 n x_text x_commonWord x_stripedWord x_greedyWord x_bishopWord x_muffWord x_clubWord x_factWord x_memberWord x_onWord x_length x_doing z15.2.1 z15.2.2.1 z15.2.2.2.2.2.2 z15.2.2.2.2.1 z15.2.2.2.1 z15.2.2.2.2.2.1 z15.1) else (fX8_kindHere n x_behind x_first x_text x_commonWord x_stripedWord x_greedyWord x_bishopWord x_muffWord).bind fun z16 => (fX8_readsLeech n x_length x_text x_doing x_first x_behind x_row x_readLeeches z16).bind fun z17 => (if z17.1 = 0 ∨ z17.1 = 1 then some (z17.1, z17.2.1, z17.2.2.1, z17.2.2.2.1, x_readMembers, x_readFacts, z17.2.2.2.2) else none))

def fX8_reads_127 (n : Nat) (x_length : Int32) (x_text : Nat → Int32) (x_commonWord : Nat → Int32) (x_stripedWord : Nat → Int32) (x_greedyWord : Nat → Int32) (x_bishopWord : Nat → Int32) (x_muffWord : Nat → Int32) (x_clubWord : Nat → Int32) (x_factWord : Nat → Int32) (x_memberWord : Nat → Int32) (x_onWord : Nat → Int32) (x_doing : Int32) (x_behind : Int32) (x_clauses : Int32) (x_readFacts : Int32) (x_readMembers : Int32) (x_readLeeches : Int32) (x_first : Int32) (x_row : Nat → Int32) (v2 : Int32) : Option (Int32 × Int32 × Int32 × Int32 × Int32 × Int32 × Int32 × Int32 × (Nat → Int32)) :=
  (if v2 = 0 ∨ v2 = 1 then some (v2, x_doing, x_behind, x_clauses, x_readFacts, x_readMembers, x_readLeeches, x_first, x_row) else none)
def fX8_reads_100 (n : Nat) (r_57 : Int32 → Int32 → Int32 → Int32 → Int32 → Int32 → Int32 → (Nat → Int32) → Int32 → Option (Int32 × Int32 × Int32 × Int32 × Int32 × Int32 × Int32 × Int32 × (Nat → Int32))) (x_length : Int32) (x_text : Nat → Int32) (x_commonWord : Nat → Int32) (x_stripedWord : Nat → Int32) (x_greedyWord : Nat → Int32) (x_bishopWord : Nat → Int32) (x_muffWord : Nat → Int32) (x_clubWord : Nat → Int32) (x_factWord : Nat → Int32) (x_memberWord : Nat → Int32) (x_onWord : Nat → Int32) (x_doing : Int32) (x_behind : Int32) (x_clauses : Int32) (x_readFacts : Int32) (x_readMembers : Int32) (x_readLeeches : Int32) (x_first : Int32) (x_row : Nat → Int32) (t0 : Int32) : Option (Int32 × Int32 × Int32 × Int32 × Int32 × Int32 × Int32 × Int32 × (Nat → Int32)) :=
  (if t0 = 0 then r_57 x_doing x_behind x_clauses x_readFacts x_readMembers x_readLeeches x_first x_row t0 else (fX8_nextToken n x_length x_text x_first x_behind).bind fun z2 => (fX8_readsClause n x_text x_commonWord x_stripedWord x_greedyWord x_bishopWord x_muffWord x_clubWord x_factWord x_memberWord x_onWord x_length x_doing z2.1 z2.2 x_row x_readMembers x_readFacts x_readLeeches).bind fun z3 => r_57 x_doing z3.2.2.1 (x_clauses + 1) z3.2.2.2.2.2.1 z3.2.2.2.2.1 z3.2.2.2.2.2.2 z3.2.1 z3.2.2.2.1 z3.1)
def fX8_reads_99 (n : Nat) (r_57 : Int32 → Int32 → Int32 → Int32 → Int32 → Int32 → Int32 → (Nat → Int32) → Int32 → Option (Int32 × Int32 × Int32 × Int32 × Int32 × Int32 × Int32 × Int32 × (Nat → Int32))) (x_length : Int32) (x_text : Nat → Int32) (x_commonWord : Nat → Int32) (x_stripedWord : Nat → Int32) (x_greedyWord : Nat → Int32) (x_bishopWord : Nat → Int32) (x_muffWord : Nat → Int32) (x_clubWord : Nat → Int32) (x_factWord : Nat → Int32) (x_memberWord : Nat → Int32) (x_onWord : Nat → Int32) (x_doing : Int32) (x_behind : Int32) (x_clauses : Int32) (x_readFacts : Int32) (x_readMembers : Int32) (x_readLeeches : Int32) (x_first : Int32) (x_row : Nat → Int32) : Option (Int32 × Int32 × Int32 × Int32 × Int32 × Int32 × Int32 × Int32 × (Nat → Int32)) :=
  fX8_reads_100 n r_57 x_length x_text x_commonWord x_stripedWord x_greedyWord x_bishopWord x_muffWord x_clubWord x_factWord x_memberWord x_onWord x_doing x_behind x_clauses x_readFacts x_readMembers x_readLeeches x_first x_row 0
def fX8_reads_57 (n : Nat) (x_length : Int32) (x_text : Nat → Int32) (x_commonWord : Nat → Int32) (x_stripedWord : Nat → Int32) (x_greedyWord : Nat → Int32) (x_bishopWord : Nat → Int32) (x_muffWord : Nat → Int32) (x_clubWord : Nat → Int32) (x_factWord : Nat → Int32) (x_memberWord : Nat → Int32) (x_onWord : Nat → Int32) : Nat → Int32 → Int32 → Int32 → Int32 → Int32 → Int32 → Int32 → (Nat → Int32) → Int32 → Option (Int32 × Int32 × Int32 × Int32 × Int32 × Int32 × Int32 × Int32 × (Nat → Int32))
  | 0 => fun _ _ _ _ _ _ _ _ _ => none
  | k + 1 => fun x_doing x_behind x_clauses x_readFacts x_readMembers x_readLeeches x_first x_row v2 => (if v2 = 0 then fX8_reads_127 n x_length x_text x_commonWord x_stripedWord x_greedyWord x_bishopWord x_muffWord x_clubWord x_factWord x_memberWord x_onWord x_doing x_behind x_clauses x_readFacts x_readMembers x_readLeeches x_first x_row v2 else (if x_length ≤ x_first then fX8_reads_127 n x_length x_text x_commonWord x_stripedWord x_greedyWord x_bishopWord x_muffWord x_clubWord x_factWord x_memberWord x_onWord x_doing x_behind x_clauses x_readFacts x_readMembers x_readLeeches x_first x_row v2 else (if 20 ≤ x_clauses then fX8_reads_99 n (fX8_reads_57 n x_length x_text x_commonWord x_stripedWord x_greedyWord x_bishopWord x_muffWord x_clubWord x_factWord x_memberWord x_onWord k) x_length x_text x_commonWord x_stripedWord x_greedyWord x_bishopWord x_muffWord x_clubWord x_factWord x_memberWord x_onWord x_doing x_behind x_clauses x_readFacts x_readMembers x_readLeeches x_first x_row else (if x_first < 0 ∨ 200 ≤ x_first.toNatClampNeg then none else (if (x_text x_first.toNatClampNeg) = 59 then fX8_reads_100 n (fX8_reads_57 n x_length x_text x_commonWord x_stripedWord x_greedyWord x_bishopWord x_muffWord x_clubWord x_factWord x_memberWord x_onWord k) x_length x_text x_commonWord x_stripedWord x_greedyWord x_bishopWord x_muffWord x_clubWord x_factWord x_memberWord x_onWord x_doing x_behind x_clauses x_readFacts x_readMembers x_readLeeches x_first x_row 1 else fX8_reads_99 n (fX8_reads_57 n x_length x_text x_commonWord x_stripedWord x_greedyWord x_bishopWord x_muffWord x_clubWord x_factWord x_memberWord x_onWord k) x_length x_text x_commonWord x_stripedWord x_greedyWord x_bishopWord x_muffWord x_clubWord x_factWord x_memberWord x_onWord x_doing x_behind x_clauses x_readFacts x_readMembers x_readLeeches x_first x_row)))))
def fX8_reads (n : Nat) (x_length : Int32) (x_text : Nat → Int32) (x_commonWord : Nat → Int32) (x_stripedWord : Nat → Int32) (x_greedyWord : Nat → Int32) (x_bishopWord : Nat → Int32) (x_muffWord : Nat → Int32) (x_clubWord : Nat → Int32) (x_factWord : Nat → Int32) (x_memberWord : Nat → Int32) (x_onWord : Nat → Int32) (x_doing : Int32) (x_behind : Int32) (x_clauses : Int32) (x_readFacts : Int32) (x_readMembers : Int32) (x_readLeeches : Int32) (x_first : Int32) (x_row : Nat → Int32) (v1 : Int32) : Option (Int32 × Int32 × Int32 × Int32 × Int32 × Int32 × Int32 × Int32 × (Nat → Int32)) :=
  (if v1 = 0 ∨ v1 = 1 then (fX8_nextToken n x_length x_text x_first 0).bind fun z1 => (fX8_readsClause n x_text x_commonWord x_stripedWord x_greedyWord x_bishopWord x_muffWord x_clubWord x_factWord x_memberWord x_onWord x_length v1 z1.1 z1.2 x_row (x_row 64) (x_row 71) (x_row 65)).bind fun z2 => fX8_reads_57 n x_length x_text x_commonWord x_stripedWord x_greedyWord x_bishopWord x_muffWord x_clubWord x_factWord x_memberWord x_onWord n v1 z2.2.2.1 1 z2.2.2.2.2.2.1 z2.2.2.2.2.1 z2.2.2.2.2.2.2 z2.2.1 z2.2.2.2.1 z2.1 else none)

def fX8_fault_16 (n : Nat) (x_length : Int32) (x_text : Nat → Int32) (x_commonWord : Nat → Int32) (x_stripedWord : Nat → Int32) (x_greedyWord : Nat → Int32) (x_bishopWord : Nat → Int32) (x_muffWord : Nat → Int32) (x_clubWord : Nat → Int32) (x_factWord : Nat → Int32) (x_memberWord : Nat → Int32) (x_onWord : Nat → Int32) (x_doing : Int32) (x_behind : Int32) (x_clauses : Int32) (x_readFacts : Int32) (x_readMembers : Int32) (x_readLeeches : Int32) (x_first : Int32) (x_row : Nat → Int32) (t0 : Int32) : Option (Int32 × Int32 × Int32 × Int32 × Int32 × Int32 × Int32 × Int32 × (Nat → Int32)) :=
  some (t0, x_doing, x_behind, x_clauses, x_readFacts, x_readMembers, x_readLeeches, x_first, x_row)
def fX8_fault (n : Nat) (x_length : Int32) (x_text : Nat → Int32) (x_commonWord : Nat → Int32) (x_stripedWord : Nat → Int32) (x_greedyWord : Nat → Int32) (x_bishopWord : Nat → Int32) (x_muffWord : Nat → Int32) (x_clubWord : Nat → Int32) (x_factWord : Nat → Int32) (x_memberWord : Nat → Int32) (x_onWord : Nat → Int32) (x_doing : Int32) (x_behind : Int32) (x_clauses : Int32) (x_readFacts : Int32) (x_readMembers : Int32) (x_readLeeches : Int32) (x_first : Int32) (x_row : Nat → Int32) : Option (Int32 × Int32 × Int32 × Int32 × Int32 × Int32 × Int32 × Int32 × (Nat → Int32)) :=
  (fX8_reads n x_length x_text x_commonWord x_stripedWord x_greedyWord x_bishopWord x_muffWord x_clubWord x_factWord x_memberWord x_onWord x_doing x_behind x_clauses x_readFacts x_readMembers x_readLeeches x_first x_row 0).bind fun z1 => (if z1.1 = 0 then fX8_fault_16 n x_length x_text x_commonWord x_stripedWord x_greedyWord x_bishopWord x_muffWord x_clubWord x_factWord x_memberWord x_onWord z1.2.1 z1.2.2.1 z1.2.2.2.1 z1.2.2.2.2.1 z1.2.2.2.2.2.1 z1.2.2.2.2.2.2.1 z1.2.2.2.2.2.2.2.1 z1.2.2.2.2.2.2.2.2 z1.2.2.2.2.2.2.2.1 else fX8_fault_16 n x_length x_text x_commonWord x_stripedWord x_greedyWord x_bishopWord x_muffWord x_clubWord x_factWord x_memberWord x_onWord z1.2.1 z1.2.2.1 z1.2.2.2.1 z1.2.2.2.2.1 z1.2.2.2.2.2.1 z1.2.2.2.2.2.2.1 z1.2.2.2.2.2.2.2.1 z1.2.2.2.2.2.2.2.2 (-1))

def fX8_copyClub_2 (n : Nat) : Nat → (Nat → Int32) → Int32 → Int32 → Int32 → Option ((Nat → Int32))
  | 0 => fun _ _ _ _ => none
  | k + 1 => fun x_row v1 v2 v3 => (if 48 ≤ v3 then some x_row else (if (v1 + v3) < 0 ∨ 624 ≤ (v1 + v3).toNatClampNeg then none else (if (v2 + v3) < 0 ∨ 624 ≤ (v2 + v3).toNatClampNeg then none else (fX8_copyClub_2 n k) (upd x_row (v2 + v3).toNatClampNeg (x_row (v1 + v3).toNatClampNeg)) v1 v2 (v3 + 1))))
def fX8_copyClub (n : Nat) (x_row : Nat → Int32) (v1 : Int32) (v2 : Int32) : Option ((Nat → Int32)) :=
  fX8_copyClub_2 n n x_row v1 v2 0

def fX8_club (n : Nat) (x_text : Nat → Int32) (x_commonWord : Nat → Int32) (x_stripedWord : Nat → Int32) (x_greedyWord : Nat → Int32) (x_bishopWord : Nat → Int32) (x_muffWord : Nat → Int32) (x_clubWord : Nat → Int32) (x_factWord : Nat → Int32) (x_memberWord : Nat → Int32) (x_onWord : Nat → Int32) (x_doing : Int32) (x_behind : Int32) (x_clauses : Int32) (x_readFacts : Int32) (x_readMembers : Int32) (x_readLeeches : Int32) (x_first : Int32) (x_row : Nat → Int32) (x_length : Int32) (x_undos : Int32) (x_isKept : Nat → Int32) (x_seenMany : Int32) : Option (Int32 × Int32 × Int32 × Int32 × Int32 × Int32 × Int32 × Int32 × (Nat → Int32) × Int32 × Int32 × (Nat → Int32) × Int32) :=
  (fX8_reads n x_length x_text x_commonWord x_stripedWord x_greedyWord x_bishopWord x_muffWord x_clubWord x_factWord x_memberWord x_onWord x_doing x_behind x_clauses x_readFacts x_readMembers x_readLeeches x_first x_row 0).bind fun z1 => (if z1.1 = 0 then some ((-4), z1.2.1, z1.2.2.1, z1.2.2.2.1, z1.2.2.2.2.1, z1.2.2.2.2.2.1, z1.2.2.2.2.2.2.1, z1.2.2.2.2.2.2.2.1, z1.2.2.2.2.2.2.2.2, x_length, x_undos, x_isKept, x_seenMany) else (fX8_reads n x_length x_text x_commonWord x_stripedWord x_greedyWord x_bishopWord x_muffWord x_clubWord x_factWord x_memberWord x_onWord z1.2.1 z1.2.2.1 z1.2.2.2.1 z1.2.2.2.2.1 z1.2.2.2.2.2.1 z1.2.2.2.2.2.2.1 z1.2.2.2.2.2.2.2.1 z1.2.2.2.2.2.2.2.2 1).bind fun z3 => (fX8_copyClub n z3.2.2.2.2.2.2.2.2 48 0).bind fun z4 => some (z3.2.2.2.1, z3.2.1, z3.2.2.1, z3.2.2.2.1, z3.2.2.2.2.1, z3.2.2.2.2.2.1, z3.2.2.2.2.2.2.1, z3.2.2.2.2.2.2.2.1, z4, 0, 0, (upd (upd x_isKept 0 (vp_nar .boolean 0)) 1 (vp_nar .boolean 0)), 0))

def fX8_takes_19 (n : Nat) (t0 : Int32) : Option (Int32) :=
  some t0
def fX8_takes (n : Nat) (v0 : Int32) : Option (Int32) :=
  (if v0 = 1 then fX8_takes_19 n 2 else (if v0 = 2 then fX8_takes_19 n 3 else fX8_takes_19 n 1))

def fX8_room_39 (n : Nat) (t0 : Int32) : Option (Int32) :=
  some t0
def fX8_room (n : Nat) (v0 : Int32) : Option (Int32) :=
  (if v0 = 0 then fX8_room_39 n 3 else (if v0 = 1 then fX8_room_39 n 6 else (if v0 = 2 then fX8_room_39 n 9 else (if v0 = 3 then fX8_room_39 n 2 else fX8_room_39 n 99))))

def fX8_isFact (n : Nat) (x_row : Nat → Int32) (v1 : Int32) : Option (Int32) :=
  (fX8_in n v1.toInt64 0 (((x_row 23) - 1).toInt64)).bind fun z1 => (if z1 = 0 ∨ z1 = 1 then some z1 else none)

def fX8_isMember (n : Nat) (x_row : Nat → Int32) (v1 : Int32) : Option (Int32) :=
  (fX8_in n v1.toInt64 0 (((x_row 16) - 1).toInt64)).bind fun z1 => (if z1 = 0 ∨ z1 = 1 then some z1 else none)

def fX8_isLeech (n : Nat) (x_row : Nat → Int32) (v1 : Int32) : Option (Int32) :=
  (fX8_in n v1.toInt64 0 (((x_row 17) - 1).toInt64)).bind fun z1 => (if z1 = 0 ∨ z1 = 1 then some z1 else none)

def fX8_areFacts (n : Nat) (x_row : Nat → Int32) (v1 : Int32) : Option (Int32) :=
  (fX8_in n v1.toInt64 0 (((1 <<< ((x_row 23) &&& 31)) - 1).toInt64)).bind fun z1 => (if z1 = 0 ∨ z1 = 1 then some z1 else none)

def fX8_fact_155 (n : Nat) (r_117 : Int32 → Int32 → Int32 → Option (Int32)) (x_row : Nat → Int32) (v1 : Int32) (v4 : Int32) (t0 : Int32) (t1 : Int32) : Option (Int32) :=
  r_117 v1 (t0 ||| t1) (v4 + 1)
def fX8_fact_117 (n : Nat) (x_row : Nat → Int32) : Nat → Int32 → Int32 → Int32 → Option (Int32)
  | 0 => fun _ _ _ => none
  | k + 1 => fun v1 v3 v4 => (if (x_row 17) ≤ v4 then some v3 else (if (9 + v4) < 0 ∨ 624 ≤ (9 + v4).toNatClampNeg then none else (fX8_has n (x_row (9 + v4).toNatClampNeg) v1).bind fun z3 => (if z3 = 0 then fX8_fact_155 n (fX8_fact_117 n x_row k) x_row v1 v4 v3 0 else fX8_fact_155 n (fX8_fact_117 n x_row k) x_row v1 v4 v3 (1 <<< (v4 &&& 31)))))
def fX8_fact_104 (n : Nat) (r_67 : Int32 → Int32 → Int32 → Option (Int32)) (x_row : Nat → Int32) (v1 : Int32) (v4 : Int32) (t0 : Int32) (t1 : Int32) : Option (Int32) :=
  r_67 v1 (t0 ||| t1) (v4 + 1)
def fX8_fact_67 (n : Nat) (x_row : Nat → Int32) : Nat → Int32 → Int32 → Int32 → Option (Int32)
  | 0 => fun _ _ _ => none
  | k + 1 => fun v1 v3 v4 => (if (x_row 16) ≤ v4 then some v3 else (if (0 + v4) < 0 ∨ 624 ≤ (0 + v4).toNatClampNeg then none else (fX8_has n (x_row (0 + v4).toNatClampNeg) v1).bind fun z3 => (if z3 = 0 then fX8_fact_104 n (fX8_fact_67 n x_row k) x_row v1 v4 v3 0 else fX8_fact_104 n (fX8_fact_67 n x_row k) x_row v1 v4 v3 (1 <<< (v4 &&& 31)))))
def fX8_fact (n : Nat) (x_row : Nat → Int32) (v1 : Int32) (v2 : Int32) : Option (Int32) :=
  (fX8_isFact n x_row v1).bind fun z1 => (if z1 = 0 then some (-2) else (if v2 = 0 then (if (24 + v1) < 0 ∨ 624 ≤ (24 + v1).toNatClampNeg then none else some (x_row (24 + v1).toNatClampNeg)) else (if v2 = 1 then (if (36 + v1) < 0 ∨ 624 ≤ (36 + v1).toNatClampNeg then none else some (x_row (36 + v1).toNatClampNeg)) else (if v2 = 2 then fX8_fact_67 n x_row n v1 0 0 else (if v2 = 3 then fX8_fact_117 n x_row n v1 0 0 else some (-3))))))

def fX8_partOf_58 (n : Nat) (t0 : Int64) : Option (Int32) :=
  some t0.toInt32
def fX8_partOf_17 (n : Nat) : Nat → Int64 → Int64 → Int32 → Int64 → Int64 → Option (Int32)
  | 0 => fun _ _ _ _ _ => none
  | k + 1 => fun v0 v2 v4 v5 v7 => (if (lg_cmp v7 0) = 0 then (if v4 = 0 then (if v5 = 0 then none else fX8_partOf_58 n (v0 / v5)) else (if v5 = 0 then none else fX8_partOf_58 n (v2 / v5))) else (if v7 = 0 then none else (fX8_partOf_17 n k) v0 v2 v4 v7 (v5 - v5 / v7 * v7)))
def fX8_partOf_12 (n : Nat) (v0 : Int64) (v2 : Int64) (v4 : Int32) (t0 : Int64) : Option (Int32) :=
  fX8_partOf_17 n n v0 v2 v4 t0 v2
def fX8_partOf (n : Nat) (v0 : Int64) (v2 : Int64) (v4 : Int32) : Option (Int32) :=
  (if 0 ≤ (lg_cmp v0 0) then fX8_partOf_12 n v0 v2 v4 v0 else fX8_partOf_12 n v0 v2 v4 (-v0))

def fX8_clear_36 (n : Nat) (x_row : Nat → Int32) (t0 : Int32) : Option (Int32) :=
  some t0
def fX8_clear (n : Nat) (x_row : Nat → Int32) (v1 : Int32) (v2 : Int32) : Option (Int32) :=
  (if (x_row 23) = 0 then fX8_clear_36 n x_row 1 else (if (0 + v1) < 0 ∨ 624 ≤ (0 + v1).toNatClampNeg then none else (fX8_bits n (x_row (0 + v1).toNatClampNeg)).bind fun z3 => (fX8_partOf n (((x_row 23) - z3).toInt64) ((x_row 23).toInt64) v2).bind fun z4 => fX8_clear_36 n x_row z4))

def fX8_leechesOn_35 (n : Nat) (r_4 : Int32 → Int32 → Int32 → Option (Int32)) (x_row : Nat → Int32) (v1 : Int32) (v3 : Int32) (t0 : Int32) (t1 : Int32) : Option (Int32) :=
  r_4 v1 (t0 ||| t1) (v3 + 1)
def fX8_leechesOn_4 (n : Nat) (x_row : Nat → Int32) : Nat → Int32 → Int32 → Int32 → Option (Int32)
  | 0 => fun _ _ _ => none
  | k + 1 => fun v1 v2 v3 => (if (x_row 17) ≤ v3 then some v2 else (if (4 + v3) < 0 ∨ 624 ≤ (4 + v3).toNatClampNeg then none else (if (x_row (4 + v3).toNatClampNeg) = v1 then fX8_leechesOn_35 n (fX8_leechesOn_4 n x_row k) x_row v1 v3 v2 (1 <<< (v3 &&& 31)) else fX8_leechesOn_35 n (fX8_leechesOn_4 n x_row k) x_row v1 v3 v2 0)))
def fX8_leechesOn (n : Nat) (x_row : Nat → Int32) (v1 : Int32) : Option (Int32) :=
  fX8_leechesOn_4 n x_row n v1 0 0

def fX8_member (n : Nat) (x_row : Nat → Int32) (v1 : Int32) (v2 : Int32) : Option (Int32) :=
  (fX8_isMember n x_row v1).bind fun z1 => (if z1 = 0 then some (-2) else (if v2 = 0 then (if (0 + v1) < 0 ∨ 624 ≤ (0 + v1).toNatClampNeg then none else some (x_row (0 + v1).toNatClampNeg)) else (if v2 = 1 then (fX8_leechesOn n x_row v1).bind fun z6 => some z6 else (if v2 = 2 then (fX8_clear n x_row v1 0).bind fun z8 => some z8 else (if v2 = 3 then (fX8_clear n x_row v1 1).bind fun z10 => some z10 else some (-3))))))

def fX8_leech_62 (n : Nat) (x_row : Nat → Int32) (t0 : Int32) : Option (Int32) :=
  some t0
def fX8_leech (n : Nat) (x_row : Nat → Int32) (v1 : Int32) (v2 : Int32) : Option (Int32) :=
  (fX8_isLeech n x_row v1).bind fun z1 => (if z1 = 0 then some (-2) else (if v2 = 0 then (if (18 + v1) < 0 ∨ 624 ≤ (18 + v1).toNatClampNeg then none else fX8_leech_62 n x_row (x_row (18 + v1).toNatClampNeg)) else (if v2 = 1 then (if (4 + v1) < 0 ∨ 624 ≤ (4 + v1).toNatClampNeg then none else fX8_leech_62 n x_row (x_row (4 + v1).toNatClampNeg)) else (if v2 = 2 then (if (9 + v1) < 0 ∨ 624 ≤ (9 + v1).toNatClampNeg then none else fX8_leech_62 n x_row (x_row (9 + v1).toNatClampNeg)) else fX8_leech_62 n x_row (-3)))))

def fX8_as_92 (n : Nat) (x_row : Nat → Int32) (t0 : Int32) : Option (Int32) :=
  some t0
def fX8_as_76 (n : Nat) (x_row : Nat → Int32) (v3 : Int32) (t0 : Int32) : Option (Int32) :=
  (if t0 = 0 then fX8_as_92 n x_row (-4) else (fX8_room n v3).bind fun z2 => fX8_as_92 n x_row z2)
def fX8_as_71 (n : Nat) (x_row : Nat → Int32) (v3 : Int32) : Option (Int32) :=
  fX8_as_76 n x_row v3 1
def fX8_as_75 (n : Nat) (x_row : Nat → Int32) (v3 : Int32) : Option (Int32) :=
  fX8_as_76 n x_row v3 0
def fX8_as_61 (n : Nat) (x_row : Nat → Int32) (v2 : Int32) (v3 : Int32) : Option (Int32) :=
  (if v2 = 4 then (if v3 = 4 then fX8_as_71 n x_row v3 else fX8_as_75 n x_row v3) else fX8_as_75 n x_row v3)
def fX8_as (n : Nat) (x_row : Nat → Int32) (v1 : Int32) (v2 : Int32) : Option (Int32) :=
  (fX8_isLeech n x_row v1).bind fun z1 => (if z1 = 0 then some (-2) else (fX8_in n v2.toInt64 0 5).bind fun z3 => (if z3 = 0 then some (-3) else (if (18 + v1) < 0 ∨ 624 ≤ (18 + v1).toNatClampNeg then none else (if v2 = 0 then fX8_as_71 n x_row (x_row (18 + v1).toNatClampNeg) else (if v2 = ((x_row (18 + v1).toNatClampNeg) + 1) then fX8_as_71 n x_row (x_row (18 + v1).toNatClampNeg) else (if 3 ≤ (x_row (18 + v1).toNatClampNeg) then fX8_as_61 n x_row v2 (x_row (18 + v1).toNatClampNeg) else (if v2 ≤ 0 then fX8_as_61 n x_row v2 (x_row (18 + v1).toNatClampNeg) else (if v2 ≤ (x_row (18 + v1).toNatClampNeg) then fX8_as_71 n x_row (x_row (18 + v1).toNatClampNeg) else fX8_as_61 n x_row v2 (x_row (18 + v1).toNatClampNeg)))))))))

def fX8_lost_45 (n : Nat) (r_5 : Int32 → Int32 → Int32 → Option (Int32)) (x_row : Nat → Int32) (v2 : Int32) (v4 : Int32) (t0 : Int32) (t1 : Int32) : Option (Int32) :=
  r_5 v2 (t0 &&& t1) (v4 + 1)
def fX8_lost_5 (n : Nat) (x_row : Nat → Int32) : Nat → Int32 → Int32 → Int32 → Option (Int32)
  | 0 => fun _ _ _ => none
  | k + 1 => fun v2 v3 v4 => (if (x_row 23) ≤ v4 then some v3 else (if (36 + v4) < 0 ∨ 624 ≤ (36 + v4).toNatClampNeg then none else (fX8_has n (x_row (36 + v4).toNatClampNeg) v2).bind fun z3 => (if z3 = 0 then fX8_lost_45 n (fX8_lost_5 n x_row k) x_row v2 v4 v3 (-1) else fX8_lost_45 n (fX8_lost_5 n x_row k) x_row v2 v4 v3 ((1 <<< (v4 &&& 31)) ^^^ (-1)))))
def fX8_lost (n : Nat) (x_row : Nat → Int32) (v1 : Int32) (v2 : Int32) : Option (Int32) :=
  fX8_lost_5 n x_row n v2 v1 0

def fX8_nextFact_29 (n : Nat) (r_11 : Int32 → Int32 → Int32 → Option (Int32)) (v0 : Int32) (v1 : Int32) (t0 : Int32) (t1 : Int32) : Option (Int32) :=
  r_11 v0 v1 (t0 + t1)
def fX8_nextFact_11 (n : Nat) : Nat → Int32 → Int32 → Int32 → Option (Int32)
  | 0 => fun _ _ _ => none
  | k + 1 => fun v0 v1 v2 => (fX8_has n v0 v2).bind fun z1 => (if z1 = 0 then (if v1 = 0 then fX8_nextFact_29 n (fX8_nextFact_11 n k) v0 v1 v2 (-1) else fX8_nextFact_29 n (fX8_nextFact_11 n k) v0 v1 v2 1) else some v2)
def fX8_nextFact_10 (n : Nat) (v0 : Int32) (v1 : Int32) (t0 : Int32) : Option (Int32) :=
  fX8_nextFact_11 n n v0 v1 t0
def fX8_nextFact (n : Nat) (v0 : Int32) (v1 : Int32) : Option (Int32) :=
  (if v1 = 0 then fX8_nextFact_10 n v0 v1 11 else fX8_nextFact_10 n v0 v1 0)

def fX8_sucks_119 (n : Nat) (x_row : Nat → Int32) (x_isOff : Int32) (x_hasNow : Int32) (x_knowsNow : Int32) : Option (Int32 × Int32 × Int32) :=
  some (x_isOff, x_hasNow, x_knowsNow)
def fX8_sucks_110 (n : Nat) (r_25 : Int32 → Int32 → Int32 → Int32 → Int32 → Option (Int32 × Int32 × Int32)) (x_row : Nat → Int32) (x_isOff : Int32) (x_hasNow : Int32) (x_knowsNow : Int32) (v1 : Int32) (v2 : Int32) (t1 : Int32) : Option (Int32 × Int32 × Int32) :=
  (if t1 = 0 ∨ t1 = 1 then r_25 t1 x_hasNow x_knowsNow v1 (v2 + 1) else none)
def fX8_sucks_61 (n : Nat) (r_25 : Int32 → Int32 → Int32 → Int32 → Int32 → Option (Int32 × Int32 × Int32)) (x_row : Nat → Int32) (x_isOff : Int32) (x_hasNow : Int32) (x_knowsNow : Int32) (v1 : Int32) (v2 : Int32) (t0 : Int32) (t1 : Int32) : Option (Int32 × Int32 × Int32) :=
  (fX8_nextFact n t0 t1).bind fun z1 => (fX8_lost n x_row x_knowsNow z1).bind fun z2 => (fX8_bits n (x_hasNow ||| (1 <<< (z1 &&& 31)))).bind fun z3 => (fX8_room n v1).bind fun z4 => (if z3 < z4 then fX8_sucks_110 n r_25 x_row x_isOff (x_hasNow ||| (1 <<< (z1 &&& 31))) z2 v1 v2 0 else fX8_sucks_110 n r_25 x_row x_isOff (x_hasNow ||| (1 <<< (z1 &&& 31))) z2 v1 v2 1)
def fX8_sucks_25 (n : Nat) (x_row : Nat → Int32) : Nat → Int32 → Int32 → Int32 → Int32 → Int32 → Option (Int32 × Int32 × Int32)
  | 0 => fun _ _ _ _ _ => none
  | k + 1 => fun x_isOff x_hasNow x_knowsNow v1 v2 => (fX8_takes n v1).bind fun z1 => (if z1 ≤ v2 then fX8_sucks_119 n x_row x_isOff x_hasNow x_knowsNow else (if x_knowsNow = 0 then fX8_sucks_119 n x_row x_isOff x_hasNow x_knowsNow else (if x_isOff = 0 then (if v1 < 3 then fX8_sucks_61 n (fX8_sucks_25 n x_row k) x_row x_isOff x_hasNow x_knowsNow v1 v2 x_knowsNow 0 else fX8_sucks_61 n (fX8_sucks_25 n x_row k) x_row x_isOff x_hasNow x_knowsNow v1 v2 x_knowsNow 1) else fX8_sucks_119 n x_row x_isOff x_hasNow x_knowsNow)))
def fX8_sucks_20 (n : Nat) (x_row : Nat → Int32) (x_isOff : Int32) (x_hasNow : Int32) (x_knowsNow : Int32) (v1 : Int32) (t1 : Int32) : Option (Int32 × Int32 × Int32) :=
  (if t1 = 0 ∨ t1 = 1 then fX8_sucks_25 n x_row n t1 x_hasNow x_knowsNow v1 0 else none)
def fX8_sucks (n : Nat) (x_row : Nat → Int32) (x_isOff : Int32) (x_hasNow : Int32) (x_knowsNow : Int32) (v1 : Int32) : Option (Int32 × Int32 × Int32) :=
  (fX8_bits n x_hasNow).bind fun z1 => (fX8_room n v1).bind fun z2 => (if z1 < z2 then fX8_sucks_20 n x_row x_isOff x_hasNow x_knowsNow v1 0 else fX8_sucks_20 n x_row x_isOff x_hasNow x_knowsNow v1 1)

def fX8_passes_126 (n : Nat) (r_2 : (Nat → Int32) → Int32 → Int32 → Int32 → Int32 → Int32 → Option ((Nat → Int32) × Int32 × Int32 × Int32)) (x_row : Nat → Int32) (x_hasNow : Int32) (x_knowsNow : Int32) (x_isOff : Int32) (v1 : Int32) (v2 : Int32) : Option ((Nat → Int32) × Int32 × Int32 × Int32) :=
  r_2 x_row x_hasNow x_knowsNow x_isOff v1 (v2 + 1)
def fX8_passes_125 (n : Nat) (r_2 : (Nat → Int32) → Int32 → Int32 → Int32 → Int32 → Int32 → Option ((Nat → Int32) × Int32 × Int32 × Int32)) (x_row : Nat → Int32) (x_hasNow : Int32) (x_knowsNow : Int32) (x_isOff : Int32) (v1 : Int32) (v2 : Int32) (t1 : Int32) (t2 : Int32) : Option ((Nat → Int32) × Int32 × Int32 × Int32) :=
  (if t1 < 0 ∨ 624 ≤ t1.toNatClampNeg then none else fX8_passes_126 n r_2 (upd x_row t1.toNatClampNeg t2) x_hasNow x_knowsNow x_isOff v1 v2)
def fX8_passes_2 (n : Nat) : Nat → (Nat → Int32) → Int32 → Int32 → Int32 → Int32 → Int32 → Option ((Nat → Int32) × Int32 × Int32 × Int32)
  | 0 => fun _ _ _ _ _ _ => none
  | k + 1 => fun x_row x_hasNow x_knowsNow x_isOff v1 v2 => (if (v1 + 17) < 0 ∨ 624 ≤ (v1 + 17).toNatClampNeg then none else (if (x_row (v1 + 17).toNatClampNeg) ≤ v2 then (if (v1 + 15) < 0 ∨ 624 ≤ (v1 + 15).toNatClampNeg then none else (if (v1 + 15) < 0 ∨ 624 ≤ (v1 + 15).toNatClampNeg then none else some ((upd x_row (v1 + 15).toNatClampNeg ((x_row (v1 + 15).toNatClampNeg) + 1)), x_hasNow, x_knowsNow, x_isOff))) else (if ((v1 + 4) + v2) < 0 ∨ 624 ≤ ((v1 + 4) + v2).toNatClampNeg then none else (if (x_row ((v1 + 4) + v2).toNatClampNeg) = (-1) then fX8_passes_126 n (fX8_passes_2 n k) x_row x_hasNow x_knowsNow x_isOff v1 v2 else (if ((v1 + 9) + v2) < 0 ∨ 624 ≤ ((v1 + 9) + v2).toNatClampNeg then none else (if ((v1 + 0) + (x_row ((v1 + 4) + v2).toNatClampNeg)) < 0 ∨ 624 ≤ ((v1 + 0) + (x_row ((v1 + 4) + v2).toNatClampNeg)).toNatClampNeg then none else (if ((v1 + 18) + v2) < 0 ∨ 624 ≤ ((v1 + 18) + v2).toNatClampNeg then none else (fX8_sucks n x_row x_isOff (x_row ((v1 + 9) + v2).toNatClampNeg) (x_row ((v1 + 0) + (x_row ((v1 + 4) + v2).toNatClampNeg)).toNatClampNeg) (x_row ((v1 + 18) + v2).toNatClampNeg)).bind fun z10 => (if ((v1 + 9) + v2) < 0 ∨ 624 ≤ ((v1 + 9) + v2).toNatClampNeg then none else (if ((v1 + 0) + (x_row ((v1 + 4) + v2).toNatClampNeg)) < 0 ∨ 624 ≤ ((v1 + 0) + (x_row ((v1 + 4) + v2).toNatClampNeg)).toNatClampNeg then none else (if z10.1 = 0 then fX8_passes_125 n (fX8_passes_2 n k) (upd (upd x_row ((v1 + 9) + v2).toNatClampNeg z10.2.1) ((v1 + 0) + (x_row ((v1 + 4) + v2).toNatClampNeg)).toNatClampNeg z10.2.2) z10.2.1 z10.2.2 z10.1 v1 v2 ((v1 + 4) + v2) (x_row ((v1 + 4) + v2).toNatClampNeg) else fX8_passes_125 n (fX8_passes_2 n k) (upd (upd x_row ((v1 + 9) + v2).toNatClampNeg z10.2.1) ((v1 + 0) + (x_row ((v1 + 4) + v2).toNatClampNeg)).toNatClampNeg z10.2.2) z10.2.1 z10.2.2 z10.1 v1 v2 ((v1 + 4) + v2) (-1)))))))))))
def fX8_passes (n : Nat) (x_row : Nat → Int32) (x_hasNow : Int32) (x_knowsNow : Int32) (x_isOff : Int32) (v1 : Int32) : Option ((Nat → Int32) × Int32 × Int32 × Int32) :=
  fX8_passes_2 n n x_row x_hasNow x_knowsNow x_isOff v1 0

def fX8_keepPast_53 (n : Nat) (x_undos : Int32) (x_row : Nat → Int32) : Option (Int32 × (Nat → Int32)) :=
  (fX8_copyClub n x_row 0 (96 + (48 * x_undos))).bind fun z1 => some ((x_undos + 1), z1)
def fX8_keepPast_11 (n : Nat) : Nat → Int32 → (Nat → Int32) → Int32 → Option (Int32 × (Nat → Int32))
  | 0 => fun _ _ _ => none
  | k + 1 => fun x_undos x_row v1 => (if 336 ≤ v1 then fX8_keepPast_53 n (x_undos - 1) x_row else (if (144 + v1) < 0 ∨ 624 ≤ (144 + v1).toNatClampNeg then none else (if (96 + v1) < 0 ∨ 624 ≤ (96 + v1).toNatClampNeg then none else (fX8_keepPast_11 n k) x_undos (upd x_row (96 + v1).toNatClampNeg (x_row (144 + v1).toNatClampNeg)) (v1 + 1))))
def fX8_keepPast (n : Nat) (x_undos : Int32) (x_row : Nat → Int32) : Option (Int32 × (Nat → Int32)) :=
  (if x_undos = 8 then fX8_keepPast_11 n n x_undos x_row 0 else fX8_keepPast_53 n x_undos x_row)

def fX8_minute_39 (n : Nat) : Nat → Int32 → (Nat → Int32) → Int32 → Int32 → Int32 → Int32 → Int32 → Option (Int32 × Int32 × (Nat → Int32) × Int32 × Int32 × Int32)
  | 0 => fun _ _ _ _ _ _ _ => none
  | k + 1 => fun x_undos x_row x_hasNow x_knowsNow x_isOff v1 v2 => (if v1 ≤ v2 then some ((x_row 15), x_undos, x_row, x_hasNow, x_knowsNow, x_isOff) else (fX8_passes n x_row x_hasNow x_knowsNow x_isOff 0).bind fun z2 => (fX8_minute_39 n k) x_undos z2.1 z2.2.1 z2.2.2.1 z2.2.2.2 v1 (v2 + 1))
def fX8_minute (n : Nat) (x_undos : Int32) (x_row : Nat → Int32) (x_hasNow : Int32) (x_knowsNow : Int32) (x_isOff : Int32) (v1 : Int32) : Option (Int32 × Int32 × (Nat → Int32) × Int32 × Int32 × Int32) :=
  (fX8_in n v1.toInt64 1 12).bind fun z1 => (if z1 = 0 then some ((-3), x_undos, x_row, x_hasNow, x_knowsNow, x_isOff) else (if ((x_row 15) + v1) ≤ 999 then (fX8_keepPast n x_undos x_row).bind fun z4 => fX8_minute_39 n n z4.1 z4.2 x_hasNow x_knowsNow x_isOff v1 0 else some ((-5), x_undos, x_row, x_hasNow, x_knowsNow, x_isOff)))

def fX8_put_21 (n : Nat) (x_undos : Int32) (x_row : Nat → Int32) : Option (Int32 × Int32 × (Nat → Int32)) :=
  some ((-2), x_undos, x_row)
def fX8_put_24 (n : Nat) (x_undos : Int32) (x_row : Nat → Int32) (v1 : Int32) (v2 : Int32) : Option (Int32 × Int32 × (Nat → Int32)) :=
  (if (4 + v1) < 0 ∨ 624 ≤ (4 + v1).toNatClampNeg then none else (if (x_row (4 + v1).toNatClampNeg) = v2 then some ((-4), x_undos, x_row) else (fX8_keepPast n x_undos x_row).bind fun z3 => (if (4 + v1) < 0 ∨ 624 ≤ (4 + v1).toNatClampNeg then none else some ((x_row (4 + v1).toNatClampNeg), z3.1, (upd z3.2 (4 + v1).toNatClampNeg v2)))))
def fX8_put (n : Nat) (x_undos : Int32) (x_row : Nat → Int32) (v1 : Int32) (v2 : Int32) : Option (Int32 × Int32 × (Nat → Int32)) :=
  (fX8_isLeech n x_row v1).bind fun z1 => (if z1 = 0 then fX8_put_21 n x_undos x_row else (if v2 = (-1) then fX8_put_24 n x_undos x_row v1 v2 else (fX8_isMember n x_row v2).bind fun z4 => (if z4 = 0 then fX8_put_21 n x_undos x_row else fX8_put_24 n x_undos x_row v1 v2)))

def fX8_salt (n : Nat) (x_undos : Int32) (x_row : Nat → Int32) (v1 : Int32) : Option (Int32 × Int32 × (Nat → Int32)) :=
  (fX8_isLeech n x_row v1).bind fun z1 => (if z1 = 0 then some ((-2), x_undos, x_row) else (if (4 + v1) < 0 ∨ 624 ≤ (4 + v1).toNatClampNeg then none else (if (x_row (4 + v1).toNatClampNeg) = (-1) then (fX8_keepPast n x_undos x_row).bind fun z5 => (if (9 + v1) < 0 ∨ 624 ≤ (9 + v1).toNatClampNeg then none else (if (9 + v1) < 0 ∨ 624 ≤ (9 + v1).toNatClampNeg then none else some (((upd (upd z5.2 14 ((z5.2 14) ||| (z5.2 (9 + v1).toNatClampNeg))) (9 + v1).toNatClampNeg 0) 14), z5.1, (upd (upd z5.2 14 ((z5.2 14) ||| (z5.2 (9 + v1).toNatClampNeg))) (9 + v1).toNatClampNeg 0)))) else some ((-4), x_undos, x_row))))

def fX8_read_16 (n : Nat) (x_undos : Int32) (x_row : Nat → Int32) : Option (Int32 × Int32 × (Nat → Int32)) :=
  some ((-2), x_undos, x_row)
def fX8_read (n : Nat) (x_undos : Int32) (x_row : Nat → Int32) (v1 : Int32) (v2 : Int32) : Option (Int32 × Int32 × (Nat → Int32)) :=
  (fX8_isMember n x_row v1).bind fun z1 => (if z1 = 0 then fX8_read_16 n x_undos x_row else (fX8_isFact n x_row v2).bind fun z3 => (if z3 = 0 then fX8_read_16 n x_undos x_row else (if (0 + v1) < 0 ∨ 624 ≤ (0 + v1).toNatClampNeg then none else (fX8_has n (x_row (0 + v1).toNatClampNeg) v2).bind fun z6 => (if z6 = 0 then (fX8_keepPast n x_undos x_row).bind fun z8 => (if (36 + v2) < 0 ∨ 624 ≤ (36 + v2).toNatClampNeg then none else (if (0 + v1) < 0 ∨ 624 ≤ (0 + v1).toNatClampNeg then none else (if (0 + v1) < 0 ∨ 624 ≤ (0 + v1).toNatClampNeg then none else (if (0 + v1) < 0 ∨ 624 ≤ (0 + v1).toNatClampNeg then none else (fX8_bits n ((z8.2 (36 + v2).toNatClampNeg) &&& ((z8.2 (0 + v1).toNatClampNeg) ^^^ (-1)))).bind fun z13 => some (z13, z8.1, (upd z8.2 (0 + v1).toNatClampNeg ((z8.2 (0 + v1).toNatClampNeg) ||| ((z8.2 (36 + v2).toNatClampNeg) &&& ((z8.2 (0 + v1).toNatClampNeg) ^^^ (-1)))))))))) else some ((-4), x_undos, x_row)))))

def fX8_undo (n : Nat) (x_undos : Int32) (x_row : Nat → Int32) : Option (Int32 × Int32 × (Nat → Int32)) :=
  (if x_undos = 0 then some ((-4), x_undos, x_row) else (fX8_copyClub n x_row (96 + (48 * (x_undos - 1))) 0).bind fun z2 => some ((x_undos - 1), (x_undos - 1), z2))

def fX8_keep (n : Nat) (x_row : Nat → Int32) (x_isKept : Nat → Int32) (v1 : Int32) : Option (Int32 × (Nat → Int32) × (Nat → Int32)) :=
  (fX8_in n v1.toInt64 0 1).bind fun z1 => (if z1 = 0 then some ((-2), x_row, x_isKept) else (fX8_copyClub n x_row 0 (480 + (48 * v1))).bind fun z3 => (if v1 < 0 ∨ 2 ≤ v1.toNatClampNeg then none else some ((z3 15), z3, (upd x_isKept v1.toNatClampNeg (vp_nar .boolean 1)))))

def fX8_back (n : Nat) (x_isKept : Nat → Int32) (x_row : Nat → Int32) (x_undos : Int32) (v1 : Int32) : Option (Int32 × (Nat → Int32) × Int32) :=
  (fX8_in n v1.toInt64 0 1).bind fun z1 => (if z1 = 0 then some ((-2), x_row, x_undos) else (if v1 < 0 ∨ 2 ≤ v1.toNatClampNeg then none else (if (x_isKept v1.toNatClampNeg) = 0 then some ((-4), x_row, x_undos) else (fX8_copyClub n x_row (480 + (48 * v1)) 0).bind fun z5 => some ((z5 15), z5, 0))))

def fX8_layTried_10 (n : Nat) : Nat → (Nat → Int32) → Int32 → Int32 → Int32 → Int32 → Int32 → Option ((Nat → Int32) × Int32 × Int32 × Int32)
  | 0 => fun _ _ _ _ _ _ => none
  | k + 1 => fun x_row x_hasNow x_knowsNow x_isOff v1 v2 => (if v1 ≤ v2 then some (x_row, x_hasNow, x_knowsNow, x_isOff) else (fX8_passes n x_row x_hasNow x_knowsNow x_isOff 576).bind fun z2 => (fX8_layTried_10 n k) z2.1 z2.2.1 z2.2.2.1 z2.2.2.2 v1 (v2 + 1))
def fX8_layTried (n : Nat) (x_row : Nat → Int32) (x_hasNow : Int32) (x_knowsNow : Int32) (x_isOff : Int32) (v1 : Int32) : Option ((Nat → Int32) × Int32 × Int32 × Int32) :=
  (fX8_copyClub n x_row 0 576).bind fun z1 => fX8_layTried_10 n n z1 x_hasNow x_knowsNow x_isOff v1 0

def fX8_ahead (n : Nat) (x_row : Nat → Int32) (x_hasNow : Int32) (x_knowsNow : Int32) (x_isOff : Int32) (v1 : Int32) (v2 : Int32) : Option (Int32 × (Nat → Int32) × Int32 × Int32 × Int32) :=
  (fX8_isMember n x_row v1).bind fun z1 => (if z1 = 0 then some ((-2), x_row, x_hasNow, x_knowsNow, x_isOff) else (fX8_in n v2.toInt64 0 40).bind fun z3 => (if z3 = 0 then some ((-3), x_row, x_hasNow, x_knowsNow, x_isOff) else (fX8_layTried n x_row x_hasNow x_knowsNow x_isOff v2).bind fun z5 => (if (576 + v1) < 0 ∨ 624 ≤ (576 + v1).toNatClampNeg then none else some ((z5.1 (576 + v1).toNatClampNeg), z5.1, z5.2.1, z5.2.2.1, z5.2.2.2))))

def fX8_gone_16 (n : Nat) (x_row : Nat → Int32) (x_hasNow : Int32) (x_knowsNow : Int32) (x_isOff : Int32) : Option (Int32 × (Nat → Int32) × Int32 × Int32 × Int32) :=
  some ((-2), x_row, x_hasNow, x_knowsNow, x_isOff)
def fX8_gone_26 (n : Nat) : Nat → (Nat → Int32) → Int32 → Int32 → Int32 → Int32 → Int32 → Int32 → Option (Int32 × (Nat → Int32) × Int32 × Int32 × Int32)
  | 0 => fun _ _ _ _ _ _ _ => none
  | k + 1 => fun x_row x_hasNow x_knowsNow x_isOff v1 v2 v3 => (if 41 ≤ v3 then some ((-1), x_row, x_hasNow, x_knowsNow, x_isOff) else (if (576 + v1) < 0 ∨ 624 ≤ (576 + v1).toNatClampNeg then none else (fX8_has n (x_row (576 + v1).toNatClampNeg) v2).bind fun z3 => (if z3 = 0 then some (v3, x_row, x_hasNow, x_knowsNow, x_isOff) else (fX8_passes n x_row x_hasNow x_knowsNow x_isOff 576).bind fun z5 => (fX8_gone_26 n k) z5.1 z5.2.1 z5.2.2.1 z5.2.2.2 v1 v2 (v3 + 1))))
def fX8_gone (n : Nat) (x_row : Nat → Int32) (x_hasNow : Int32) (x_knowsNow : Int32) (x_isOff : Int32) (v1 : Int32) (v2 : Int32) : Option (Int32 × (Nat → Int32) × Int32 × Int32 × Int32) :=
  (fX8_isMember n x_row v1).bind fun z1 => (if z1 = 0 then fX8_gone_16 n x_row x_hasNow x_knowsNow x_isOff else (fX8_isFact n x_row v2).bind fun z3 => (if z3 = 0 then fX8_gone_16 n x_row x_hasNow x_knowsNow x_isOff else (fX8_layTried n x_row x_hasNow x_knowsNow x_isOff 0).bind fun z5 => fX8_gone_26 n n z5.1 z5.2.1 z5.2.2.1 z5.2.2.2 v1 v2 0))

def fX8_boy_45 (n : Nat) (r_4 : Int32 → Int32 → Option (Int32)) (x_row : Nat → Int32) (v2 : Int32) (t0 : Int32) (t1 : Int32) : Option (Int32) :=
  r_4 (t0 ||| t1) (v2 + 1)
def fX8_boy_4 (n : Nat) (x_row : Nat → Int32) : Nat → Int32 → Int32 → Option (Int32)
  | 0 => fun _ _ => none
  | k + 1 => fun v1 v2 => (if (x_row 23) ≤ v2 then some v1 else (if (36 + v2) < 0 ∨ 624 ≤ (36 + v2).toNatClampNeg then none else (if ((x_row (36 + v2).toNatClampNeg) &&& ((x_row 14) ^^^ (-1))) = 0 then fX8_boy_45 n (fX8_boy_4 n x_row k) x_row v2 v1 (1 <<< (v2 &&& 31)) else fX8_boy_45 n (fX8_boy_4 n x_row k) x_row v2 v1 0)))
def fX8_boy (n : Nat) (x_row : Nat → Int32) : Option (Int32) :=
  fX8_boy_4 n x_row n 0 0

def fX8_isSo_19 (n : Nat) (t0 : Int32) : Option (Int32) :=
  (if t0 = 0 ∨ t0 = 1 then some t0 else none)
def fX8_isSo_18 (n : Nat) : Option (Int32) :=
  fX8_isSo_19 n 0
def fX8_isSo (n : Nat) (v0 : Int32) (v1 : Int32) (v2 : Int32) : Option (Int32) :=
  (if (v0 &&& v1) = 0 then (if (v2 &&& (v0 ^^^ (-1))) = 0 then fX8_isSo_19 n 1 else fX8_isSo_18 n) else fX8_isSo_18 n)

def fX8_minutesOf_20 (n : Nat) (x_row : Nat → Int32) : Nat → Int32 → Int32 → Int32 → Int32 → Int32 → Int32 → Int32 → Option (Int32 × Int32 × Int32 × Int32)
  | 0 => fun _ _ _ _ _ _ _ => none
  | k + 1 => fun x_hasNow x_knowsNow x_isOff v2 v3 v4 v5 => (if 21 ≤ v5 then some (99999, x_hasNow, x_knowsNow, x_isOff) else (fX8_isSo n x_knowsNow v3 v4).bind fun z2 => (if z2 = 0 then (fX8_sucks n x_row x_isOff x_hasNow x_knowsNow v2).bind fun z4 => (fX8_minutesOf_20 n x_row k) z4.2.1 z4.2.2 z4.1 v2 v3 v4 (v5 + 1) else some (v5, x_hasNow, x_knowsNow, x_isOff)))
def fX8_minutesOf (n : Nat) (x_row : Nat → Int32) (x_hasNow : Int32) (x_knowsNow : Int32) (x_isOff : Int32) (v1 : Int32) (v2 : Int32) (v3 : Int32) (v4 : Int32) : Option (Int32 × Int32 × Int32 × Int32) :=
  (if (0 + v1) < 0 ∨ 624 ≤ (0 + v1).toNatClampNeg then none else fX8_minutesOf_20 n x_row n 0 (x_row (0 + v1).toNatClampNeg) x_isOff v2 v3 v4 0)

def fX8_soonest_24 (n : Nat) (x_row : Nat → Int32) (x_hasNow : Int32) (x_knowsNow : Int32) (x_isOff : Int32) : Option (Int32 × Int32 × Int32 × Int32) :=
  some ((-2), x_hasNow, x_knowsNow, x_isOff)
def fX8_soonest_99 (n : Nat) (r_52 : Int32 → Int32 → Int32 → Int32 → Int32 → Int32 → Int32 → Int32 → Int32 → Int32 → Option (Int32 × Int32 × Int32 × Int32)) (x_row : Nat → Int32) (x_hasNow : Int32) (x_knowsNow : Int32) (x_isOff : Int32) (v1 : Int32) (v2 : Int32) (v3 : Int32) (v4 : Int32) (v5 : Int32) (v7 : Int32) (t0 : Int32) : Option (Int32 × Int32 × Int32 × Int32) :=
  r_52 x_hasNow x_knowsNow x_isOff v1 v2 v3 v4 v5 t0 (v7 + 1)
def fX8_soonest_83 (n : Nat) (r_52 : Int32 → Int32 → Int32 → Int32 → Int32 → Int32 → Int32 → Int32 → Int32 → Int32 → Option (Int32 × Int32 × Int32 × Int32)) (x_row : Nat → Int32) (x_hasNow : Int32) (x_knowsNow : Int32) (x_isOff : Int32) (v1 : Int32) (v2 : Int32) (v3 : Int32) (v4 : Int32) (v6 : Int32) (v7 : Int32) (v8 : Int32) (t0 : Int32) : Option (Int32 × Int32 × Int32 × Int32) :=
  (if v6 ≤ v8 then fX8_soonest_99 n r_52 x_row x_hasNow x_knowsNow x_isOff v1 v2 v3 v4 t0 v7 v6 else fX8_soonest_99 n r_52 x_row x_hasNow x_knowsNow x_isOff v1 v2 v3 v4 t0 v7 v8)
def fX8_soonest_129 (n : Nat) (x_row : Nat → Int32) (x_hasNow : Int32) (x_knowsNow : Int32) (x_isOff : Int32) (t0 : Int32) : Option (Int32 × Int32 × Int32 × Int32) :=
  some (t0, x_hasNow, x_knowsNow, x_isOff)
def fX8_soonest_52 (n : Nat) (x_row : Nat → Int32) : Nat → Int32 → Int32 → Int32 → Int32 → Int32 → Int32 → Int32 → Int32 → Int32 → Int32 → Option (Int32 × Int32 × Int32 × Int32)
  | 0 => fun _ _ _ _ _ _ _ _ _ _ => none
  | k + 1 => fun x_hasNow x_knowsNow x_isOff v1 v2 v3 v4 v5 v6 v7 => (if 5 ≤ v7 then (if v5 = (-1) then fX8_soonest_129 n x_row x_hasNow x_knowsNow x_isOff (-1) else (if v4 = 0 then fX8_soonest_129 n x_row x_hasNow x_knowsNow x_isOff v6 else fX8_soonest_129 n x_row x_hasNow x_knowsNow x_isOff v5)) else (fX8_minutesOf n x_row x_hasNow x_knowsNow x_isOff v1 v7 v2 v3).bind fun z4 => (if v6 ≤ z4.1 then fX8_soonest_83 n (fX8_soonest_52 n x_row k) x_row z4.2.1 z4.2.2.1 z4.2.2.2 v1 v2 v3 v4 v6 v7 z4.1 v5 else fX8_soonest_83 n (fX8_soonest_52 n x_row k) x_row z4.2.1 z4.2.2.1 z4.2.2.2 v1 v2 v3 v4 v6 v7 z4.1 v7))
def fX8_soonest (n : Nat) (x_row : Nat → Int32) (x_hasNow : Int32) (x_knowsNow : Int32) (x_isOff : Int32) (v1 : Int32) (v2 : Int32) (v3 : Int32) (v4 : Int32) : Option (Int32 × Int32 × Int32 × Int32) :=
  (fX8_isMember n x_row v1).bind fun z1 => (if z1 = 0 then fX8_soonest_24 n x_row x_hasNow x_knowsNow x_isOff else (fX8_areFacts n x_row v2).bind fun z3 => (if z3 = 0 then fX8_soonest_24 n x_row x_hasNow x_knowsNow x_isOff else (fX8_areFacts n x_row v3).bind fun z5 => (if z5 = 0 then fX8_soonest_24 n x_row x_hasNow x_knowsNow x_isOff else (fX8_in n v4.toInt64 0 1).bind fun z7 => (if z7 = 0 then some ((-3), x_hasNow, x_knowsNow, x_isOff) else fX8_soonest_52 n x_row n x_hasNow x_knowsNow x_isOff v1 v2 v3 v4 (-1) 99999 0))))

def fX8_isSoBy_37 (n : Nat) (x_row : Nat → Int32) : Nat → Int32 → Int32 → Int32 → Int32 → Int32 → Int32 → Int32 → Int32 → Int32 → Option (Int32 × Int32 × Int32 × Int32)
  | 0 => fun _ _ _ _ _ _ _ _ _ => none
  | k + 1 => fun x_knowsNow x_hasNow x_isOff v2 v3 v4 v5 v6 v7 => (if v3 ≤ v7 then (fX8_isSo n x_knowsNow v4 v5).bind fun z2 => (if z2 = 0 ∨ z2 = 1 then some (z2, x_knowsNow, x_hasNow, x_isOff) else none) else (if v6 = 0 then none else (fX8_sucks n x_row x_isOff 0 x_knowsNow ((v2 / v6) - (v2 / v6) / 5 * 5)).bind fun z4 => (fX8_isSoBy_37 n x_row k) z4.2.2 z4.2.1 z4.1 v2 v3 v4 v5 (v6 / 5) (v7 + 1)))
def fX8_isSoBy_32 (n : Nat) (x_row : Nat → Int32) (x_knowsNow : Int32) (x_hasNow : Int32) (x_isOff : Int32) (v2 : Int32) (v3 : Int32) (v4 : Int32) (v5 : Int32) (t0 : Int32) : Option (Int32 × Int32 × Int32 × Int32) :=
  fX8_isSoBy_37 n x_row n x_knowsNow x_hasNow x_isOff v2 v3 v4 v5 t0 0
def fX8_isSoBy (n : Nat) (x_row : Nat → Int32) (x_knowsNow : Int32) (x_hasNow : Int32) (x_isOff : Int32) (v1 : Int32) (v2 : Int32) (v3 : Int32) (v4 : Int32) (v5 : Int32) : Option (Int32 × Int32 × Int32 × Int32) :=
  (if (0 + v1) < 0 ∨ 624 ≤ (0 + v1).toNatClampNeg then none else (if v3 = 3 then fX8_isSoBy_32 n x_row (x_row (0 + v1).toNatClampNeg) x_hasNow x_isOff v2 v3 v4 v5 25 else (if v3 = 2 then fX8_isSoBy_32 n x_row (x_row (0 + v1).toNatClampNeg) x_hasNow x_isOff v2 v3 v4 v5 5 else fX8_isSoBy_32 n x_row (x_row (0 + v1).toNatClampNeg) x_hasNow x_isOff v2 v3 v4 v5 1)))

def fX8_order_24 (n : Nat) (x_row : Nat → Int32) (x_knowsNow : Int32) (x_hasNow : Int32) (x_isOff : Int32) : Option (Int32 × Int32 × Int32 × Int32) :=
  some ((-2), x_knowsNow, x_hasNow, x_isOff)
def fX8_order_75 (n : Nat) (x_row : Nat → Int32) : Nat → Int32 → Int32 → Int32 → Int32 → Int32 → Int32 → Int32 → Int32 → Int32 → Option (Int32 × Int32 × Int32 × Int32)
  | 0 => fun _ _ _ _ _ _ _ _ _ => none
  | k + 1 => fun x_knowsNow x_hasNow x_isOff v5 v6 v7 v8 v9 v10 => (if v5 ≤ v10 then some (v7, x_knowsNow, x_hasNow, x_isOff) else (if v8 = 0 then none else (fX8_order_75 n x_row k) x_knowsNow x_hasNow x_isOff v5 v6 (v7 + (v9 * (1 + ((v6 / v8) - (v6 / v8) / 5 * 5)))) (v8 * 5) (v9 * 10) (v10 + 1)))
def fX8_order_42 (n : Nat) (r_33 : Int32 → Int32 → Int32 → Int32 → Int32 → Int32 → Int32 → Int32 → Option (Int32 × Int32 × Int32 × Int32)) (x_row : Nat → Int32) : Nat → Int32 → Int32 → Int32 → Int32 → Int32 → Int32 → Int32 → Int32 → Int32 → Option (Int32 × Int32 × Int32 × Int32)
  | 0 => fun _ _ _ _ _ _ _ _ _ => none
  | k + 1 => fun x_knowsNow x_hasNow x_isOff v1 v2 v3 v4 v5 v6 => (if v4 ≤ v6 then r_33 x_knowsNow x_hasNow x_isOff v1 v2 v3 (v4 * 5) (v5 + 1) else (fX8_isSoBy n x_row x_knowsNow x_hasNow x_isOff v1 v6 v5 v2 v3).bind fun z2 => (if z2.1 = 0 then (fX8_order_42 n r_33 x_row k) z2.2.1 z2.2.2.1 z2.2.2.2 v1 v2 v3 v4 v5 (v6 + 1) else fX8_order_75 n x_row n z2.2.1 z2.2.2.1 z2.2.2.2 v5 v6 0 1 1 0))
def fX8_order_33 (n : Nat) (x_row : Nat → Int32) : Nat → Int32 → Int32 → Int32 → Int32 → Int32 → Int32 → Int32 → Int32 → Option (Int32 × Int32 × Int32 × Int32)
  | 0 => fun _ _ _ _ _ _ _ _ => none
  | k + 1 => fun x_knowsNow x_hasNow x_isOff v1 v2 v3 v4 v5 => (if 4 ≤ v5 then some ((-1), x_knowsNow, x_hasNow, x_isOff) else fX8_order_42 n (fX8_order_33 n x_row k) x_row n x_knowsNow x_hasNow x_isOff v1 v2 v3 v4 v5 0)
def fX8_order (n : Nat) (x_row : Nat → Int32) (x_knowsNow : Int32) (x_hasNow : Int32) (x_isOff : Int32) (v1 : Int32) (v2 : Int32) (v3 : Int32) : Option (Int32 × Int32 × Int32 × Int32) :=
  (fX8_isMember n x_row v1).bind fun z1 => (if z1 = 0 then fX8_order_24 n x_row x_knowsNow x_hasNow x_isOff else (fX8_areFacts n x_row v2).bind fun z3 => (if z3 = 0 then fX8_order_24 n x_row x_knowsNow x_hasNow x_isOff else (fX8_areFacts n x_row v3).bind fun z5 => (if z5 = 0 then fX8_order_24 n x_row x_knowsNow x_hasNow x_isOff else fX8_order_33 n x_row n x_knowsNow x_hasNow x_isOff v1 v2 v3 1 0)))

def fX8_knownBySome_4 (n : Nat) (x_row : Nat → Int32) : Nat → Int32 → Int32 → Int32 → Option (Int32)
  | 0 => fun _ _ _ => none
  | k + 1 => fun v1 v2 v3 => (if (v1 + 16) < 0 ∨ 624 ≤ (v1 + 16).toNatClampNeg then none else (if (x_row (v1 + 16).toNatClampNeg) ≤ v3 then some v2 else (if ((v1 + 0) + v3) < 0 ∨ 624 ≤ ((v1 + 0) + v3).toNatClampNeg then none else (fX8_knownBySome_4 n x_row k) v1 (v2 ||| (x_row ((v1 + 0) + v3).toNatClampNeg)) (v3 + 1))))
def fX8_knownBySome (n : Nat) (x_row : Nat → Int32) (v1 : Int32) : Option (Int32) :=
  fX8_knownBySome_4 n x_row n v1 0 0

def fX8_knownByLine_61 (n : Nat) (r_10 : (Nat → Int32) → Int32 → Int32 → Int32 → Int32 → Int32 → Int32 → Option (Int32 × (Nat → Int32) × Int32 × Int32 × Int32)) (x_line : Nat → Int32) (x_row : Nat → Int32) (x_hasNow : Int32) (x_knowsNow : Int32) (x_isOff : Int32) (v1 : Int32) (v2 : Int32) (v3 : Int32) (t1 : Int32) (t2 : Int32) : Option (Int32 × (Nat → Int32) × Int32 × Int32 × Int32) :=
  (if t1 < 0 ∨ 624 ≤ t1.toNatClampNeg then none else r_10 (upd x_row t1.toNatClampNeg t2) x_hasNow x_knowsNow x_isOff v1 v2 (v3 + 1))
def fX8_knownByLine_132 (n : Nat) (r_93 : (Nat → Int32) → Int32 → Int32 → Int32 → Int32 → Int32 → Int32 → Option (Int32 × (Nat → Int32) × Int32 × Int32 × Int32)) (x_line : Nat → Int32) (x_row : Nat → Int32) (x_hasNow : Int32) (x_knowsNow : Int32) (x_isOff : Int32) (v1 : Int32) (v4 : Int32) (t0 : Int32) : Option (Int32 × (Nat → Int32) × Int32 × Int32 × Int32) :=
  r_93 x_row x_hasNow x_knowsNow x_isOff v1 t0 (v4 + 1)
def fX8_knownByLine_131 (n : Nat) (r_93 : (Nat → Int32) → Int32 → Int32 → Int32 → Int32 → Int32 → Int32 → Option (Int32 × (Nat → Int32) × Int32 × Int32 × Int32)) (x_line : Nat → Int32) (x_row : Nat → Int32) (x_hasNow : Int32) (x_knowsNow : Int32) (x_isOff : Int32) (v1 : Int32) (v4 : Int32) : Option (Int32 × (Nat → Int32) × Int32 × Int32 × Int32) :=
  fX8_knownByLine_132 n r_93 x_line x_row x_hasNow x_knowsNow x_isOff v1 v4 0
def fX8_knownByLine_157 (n : Nat) (x_line : Nat → Int32) (x_row : Nat → Int32) (x_hasNow : Int32) (x_knowsNow : Int32) (x_isOff : Int32) (t0 : Int32) : Option (Int32 × (Nat → Int32) × Int32 × Int32 × Int32) :=
  some (t0, x_row, x_hasNow, x_knowsNow, x_isOff)
def fX8_knownByLine_93 (n : Nat) (x_line : Nat → Int32) : Nat → (Nat → Int32) → Int32 → Int32 → Int32 → Int32 → Int32 → Int32 → Option (Int32 × (Nat → Int32) × Int32 × Int32 × Int32)
  | 0 => fun _ _ _ _ _ _ _ => none
  | k + 1 => fun x_row x_hasNow x_knowsNow x_isOff v1 v3 v4 => (if (x_row 16) ≤ v4 then (if v3 = 0 then fX8_knownByLine_157 n x_line x_row x_hasNow x_knowsNow x_isOff (-1) else (fX8_knownBySome n x_row 576).bind fun z3 => (fX8_bits n z3).bind fun z4 => fX8_knownByLine_157 n x_line x_row x_hasNow x_knowsNow x_isOff z4) else (if v3 = 0 then fX8_knownByLine_131 n (fX8_knownByLine_93 n x_line k) x_line x_row x_hasNow x_knowsNow x_isOff v1 v4 else (if (576 + v4) < 0 ∨ 624 ≤ (576 + v4).toNatClampNeg then none else (fX8_bits n (x_row (576 + v4).toNatClampNeg)).bind fun z7 => (if v1 < z7 then fX8_knownByLine_131 n (fX8_knownByLine_93 n x_line k) x_line x_row x_hasNow x_knowsNow x_isOff v1 v4 else fX8_knownByLine_132 n (fX8_knownByLine_93 n x_line k) x_line x_row x_hasNow x_knowsNow x_isOff v1 v4 1))))
def fX8_knownByLine_70 (n : Nat) (x_line : Nat → Int32) : Nat → (Nat → Int32) → Int32 → Int32 → Int32 → Int32 → Int32 → Int32 → Option (Int32 × (Nat → Int32) × Int32 × Int32 × Int32)
  | 0 => fun _ _ _ _ _ _ _ => none
  | k + 1 => fun x_row x_hasNow x_knowsNow x_isOff v1 v2 v3 => (if v2 ≤ v3 then fX8_knownByLine_93 n x_line n x_row x_hasNow x_knowsNow x_isOff v1 1 0 else (fX8_passes n x_row x_hasNow x_knowsNow x_isOff 576).bind fun z2 => (fX8_knownByLine_70 n x_line k) z2.1 z2.2.1 z2.2.2.1 z2.2.2.2 v1 v2 (v3 + 1))
def fX8_knownByLine_10 (n : Nat) (x_line : Nat → Int32) : Nat → (Nat → Int32) → Int32 → Int32 → Int32 → Int32 → Int32 → Int32 → Option (Int32 × (Nat → Int32) × Int32 × Int32 × Int32)
  | 0 => fun _ _ _ _ _ _ _ => none
  | k + 1 => fun x_row x_hasNow x_knowsNow x_isOff v1 v2 v3 => (if (x_row 17) ≤ v3 then fX8_knownByLine_70 n x_line n x_row x_hasNow x_knowsNow x_isOff v1 v2 0 else (if (4 + v3) < 0 ∨ 624 ≤ (4 + v3).toNatClampNeg then none else (if (x_row (4 + v3).toNatClampNeg) = (-1) then (if v3 < 0 ∨ 5 ≤ v3.toNatClampNeg then none else fX8_knownByLine_61 n (fX8_knownByLine_10 n x_line k) x_line x_row x_hasNow x_knowsNow x_isOff v1 v2 v3 (580 + v3) ((x_line v3.toNatClampNeg) - 1)) else (if (4 + v3) < 0 ∨ 624 ≤ (4 + v3).toNatClampNeg then none else fX8_knownByLine_61 n (fX8_knownByLine_10 n x_line k) x_line x_row x_hasNow x_knowsNow x_isOff v1 v2 v3 (580 + v3) (x_row (4 + v3).toNatClampNeg)))))
def fX8_knownByLine (n : Nat) (x_line : Nat → Int32) (x_row : Nat → Int32) (x_hasNow : Int32) (x_knowsNow : Int32) (x_isOff : Int32) (v1 : Int32) (v2 : Int32) : Option (Int32 × (Nat → Int32) × Int32 × Int32 × Int32) :=
  (fX8_copyClub n x_row 0 576).bind fun z1 => fX8_knownByLine_10 n x_line n z1 x_hasNow x_knowsNow x_isOff v1 v2 0

def fX8_nextLine_78 (n : Nat) (x_row : Nat → Int32) (x_line : Nat → Int32) (t0 : Int32) : Option (Int32 × (Nat → Int32)) :=
  (if t0 = 0 ∨ t0 = 1 then some (t0, x_line) else none)
def fX8_nextLine_69 (n : Nat) (x_row : Nat → Int32) (x_line : Nat → Int32) (v1 : Int32) : Option (Int32 × (Nat → Int32)) :=
  (if v1 < 0 then fX8_nextLine_78 n x_row x_line 0 else fX8_nextLine_78 n x_row x_line 1)
def fX8_nextLine_55 (n : Nat) (x_row : Nat → Int32) (x_line : Nat → Int32) (v1 : Int32) : Option (Int32 × (Nat → Int32)) :=
  (if v1 < 0 then fX8_nextLine_69 n x_row x_line v1 else (if v1 < 0 ∨ 5 ≤ v1.toNatClampNeg then none else (if v1 < 0 ∨ 5 ≤ v1.toNatClampNeg then none else fX8_nextLine_69 n x_row (upd x_line v1.toNatClampNeg ((x_line v1.toNatClampNeg) + 1)) v1)))
def fX8_nextLine_42 (n : Nat) (r_10 : (Nat → Int32) → Int32 → Option (Int32 × (Nat → Int32))) (x_row : Nat → Int32) (x_line : Nat → Int32) (v1 : Int32) : Option (Int32 × (Nat → Int32)) :=
  (if v1 < 0 ∨ 5 ≤ v1.toNatClampNeg then none else r_10 (upd x_line v1.toNatClampNeg 0) (v1 + (-1)))
def fX8_nextLine_10 (n : Nat) (x_row : Nat → Int32) : Nat → (Nat → Int32) → Int32 → Option (Int32 × (Nat → Int32))
  | 0 => fun _ _ => none
  | k + 1 => fun x_line v1 => (if v1 < 0 then fX8_nextLine_55 n x_row x_line v1 else (if (4 + v1) < 0 ∨ 624 ≤ (4 + v1).toNatClampNeg then none else (if (x_row (4 + v1).toNatClampNeg) = (-1) then (if v1 < 0 ∨ 5 ≤ v1.toNatClampNeg then none else (if (x_line v1.toNatClampNeg) = (x_row 16) then fX8_nextLine_42 n (fX8_nextLine_10 n x_row k) x_row x_line v1 else fX8_nextLine_55 n x_row x_line v1)) else fX8_nextLine_42 n (fX8_nextLine_10 n x_row k) x_row x_line v1)))
def fX8_nextLine (n : Nat) (x_row : Nat → Int32) (x_line : Nat → Int32) : Option (Int32 × (Nat → Int32)) :=
  fX8_nextLine_10 n x_row n x_line ((x_row 17) - 1)

def fX8_most_40 (n : Nat) (x_line : Nat → Int32) (x_row : Nat → Int32) (x_hasNow : Int32) (x_knowsNow : Int32) (x_isOff : Int32) (x_bestLine : Nat → Int32) : Option (Int32 × (Nat → Int32) × (Nat → Int32) × Int32 × Int32 × Int32 × (Nat → Int32)) :=
  some ((-3), x_line, x_row, x_hasNow, x_knowsNow, x_isOff, x_bestLine)
def fX8_most_125 (n : Nat) (r_72 : (Nat → Int32) → (Nat → Int32) → Int32 → Int32 → Int32 → (Nat → Int32) → Int32 → Int32 → Int32 → Int32 → Int32 → Option (Int32 × (Nat → Int32) × (Nat → Int32) × Int32 × Int32 × Int32 × (Nat → Int32))) (x_line : Nat → Int32) (x_row : Nat → Int32) (x_hasNow : Int32) (x_knowsNow : Int32) (x_isOff : Int32) (x_bestLine : Nat → Int32) (v1 : Int32) (v2 : Int32) (v3 : Int32) (v4 : Int32) : Option (Int32 × (Nat → Int32) × (Nat → Int32) × Int32 × Int32 × Int32 × (Nat → Int32)) :=
  (fX8_nextLine n x_row x_line).bind fun z1 => r_72 z1.2 x_row x_hasNow x_knowsNow x_isOff x_bestLine v1 v2 v3 v4 z1.1
def fX8_most_99 (n : Nat) (r_72 : (Nat → Int32) → (Nat → Int32) → Int32 → Int32 → Int32 → (Nat → Int32) → Int32 → Int32 → Int32 → Int32 → Int32 → Option (Int32 × (Nat → Int32) × (Nat → Int32) × Int32 × Int32 × Int32 × (Nat → Int32))) : Nat → (Nat → Int32) → (Nat → Int32) → Int32 → Int32 → Int32 → (Nat → Int32) → Int32 → Int32 → Int32 → Int32 → Int32 → Option (Int32 × (Nat → Int32) × (Nat → Int32) × Int32 × Int32 × Int32 × (Nat → Int32))
  | 0 => fun _ _ _ _ _ _ _ _ _ _ _ => none
  | k + 1 => fun x_line x_row x_hasNow x_knowsNow x_isOff x_bestLine v1 v2 v3 v4 v7 => (if 5 ≤ v7 then fX8_most_125 n r_72 x_line x_row x_hasNow x_knowsNow x_isOff x_bestLine v1 v2 v3 v4 else (if v7 < 0 ∨ 5 ≤ v7.toNatClampNeg then none else (if v7 < 0 ∨ 5 ≤ v7.toNatClampNeg then none else (fX8_most_99 n r_72 k) x_line x_row x_hasNow x_knowsNow x_isOff (upd x_bestLine v7.toNatClampNeg (x_line v7.toNatClampNeg)) v1 v2 v3 v4 (v7 + 1))))
def fX8_most_161 (n : Nat) (x_line : Nat → Int32) (x_row : Nat → Int32) (x_hasNow : Int32) (x_knowsNow : Int32) (x_isOff : Int32) (x_bestLine : Nat → Int32) (t0 : Int32) : Option (Int32 × (Nat → Int32) × (Nat → Int32) × Int32 × Int32 × Int32 × (Nat → Int32)) :=
  some (t0, x_line, x_row, x_hasNow, x_knowsNow, x_isOff, x_bestLine)
def fX8_most_72 (n : Nat) : Nat → (Nat → Int32) → (Nat → Int32) → Int32 → Int32 → Int32 → (Nat → Int32) → Int32 → Int32 → Int32 → Int32 → Int32 → Option (Int32 × (Nat → Int32) × (Nat → Int32) × Int32 × Int32 × Int32 × (Nat → Int32))
  | 0 => fun _ _ _ _ _ _ _ _ _ _ _ => none
  | k + 1 => fun x_line x_row x_hasNow x_knowsNow x_isOff x_bestLine v1 v2 v3 v4 v5 => (if v5 = 0 then (if 0 ≤ v4 then (if v3 = (-1) then fX8_most_161 n x_line x_row x_hasNow x_knowsNow x_isOff x_bestLine v4 else (if v3 < 0 ∨ 5 ≤ v3.toNatClampNeg then none else fX8_most_161 n x_line x_row x_hasNow x_knowsNow x_isOff x_bestLine ((x_bestLine v3.toNatClampNeg) - 1))) else fX8_most_161 n x_line x_row x_hasNow x_knowsNow x_isOff x_bestLine (-1)) else (fX8_knownByLine n x_line x_row x_hasNow x_knowsNow x_isOff v1 v2).bind fun z5 => (if z5.1 ≤ v4 then fX8_most_125 n (fX8_most_72 n k) x_line z5.2.1 z5.2.2.1 z5.2.2.2.1 z5.2.2.2.2 x_bestLine v1 v2 v3 v4 else fX8_most_99 n (fX8_most_72 n k) n x_line z5.2.1 z5.2.2.1 z5.2.2.2.1 z5.2.2.2.2 x_bestLine v1 v2 v3 z5.1 0))
def fX8_most_46 (n : Nat) : Nat → (Nat → Int32) → (Nat → Int32) → Int32 → Int32 → Int32 → (Nat → Int32) → Int32 → Int32 → Int32 → Int32 → Option (Int32 × (Nat → Int32) × (Nat → Int32) × Int32 × Int32 × Int32 × (Nat → Int32))
  | 0 => fun _ _ _ _ _ _ _ _ _ _ => none
  | k + 1 => fun x_line x_row x_hasNow x_knowsNow x_isOff x_bestLine v1 v2 v3 v4 => (if 5 ≤ v4 then fX8_most_72 n n x_line x_row x_hasNow x_knowsNow x_isOff x_bestLine v1 v2 v3 (-1) 1 else (if v4 < 0 ∨ 5 ≤ v4.toNatClampNeg then none else (fX8_most_46 n k) (upd x_line v4.toNatClampNeg 0) x_row x_hasNow x_knowsNow x_isOff x_bestLine v1 v2 v3 (v4 + 1)))
def fX8_most_16 (n : Nat) (x_line : Nat → Int32) (x_row : Nat → Int32) (x_hasNow : Int32) (x_knowsNow : Int32) (x_isOff : Int32) (x_bestLine : Nat → Int32) (v1 : Int32) (v2 : Int32) (v3 : Int32) : Option (Int32 × (Nat → Int32) × (Nat → Int32) × Int32 × Int32 × Int32 × (Nat → Int32)) :=
  (fX8_in n v1.toInt64 0 12).bind fun z1 => (if z1 = 0 then fX8_most_40 n x_line x_row x_hasNow x_knowsNow x_isOff x_bestLine else (fX8_in n v2.toInt64 0 10).bind fun z3 => (if z3 = 0 then fX8_most_40 n x_line x_row x_hasNow x_knowsNow x_isOff x_bestLine else fX8_most_46 n n x_line x_row x_hasNow x_knowsNow x_isOff x_bestLine v1 v2 v3 0))
def fX8_most (n : Nat) (x_line : Nat → Int32) (x_row : Nat → Int32) (x_hasNow : Int32) (x_knowsNow : Int32) (x_isOff : Int32) (x_bestLine : Nat → Int32) (v1 : Int32) (v2 : Int32) (v3 : Int32) : Option (Int32 × (Nat → Int32) × (Nat → Int32) × Int32 × Int32 × Int32 × (Nat → Int32)) :=
  (if v3 = (-1) then fX8_most_16 n x_line x_row x_hasNow x_knowsNow x_isOff x_bestLine v1 v2 v3 else (fX8_isLeech n x_row v3).bind fun z2 => (if z2 = 0 then some ((-2), x_line, x_row, x_hasNow, x_knowsNow, x_isOff, x_bestLine) else fX8_most_16 n x_line x_row x_hasNow x_knowsNow x_isOff x_bestLine v1 v2 v3))

def fX8_sound_33 (n : Nat) (x_row : Nat → Int32) : Option (Int32) :=
  some (-3)
def fX8_sound_56 (n : Nat) (x_row : Nat → Int32) : Nat → Int32 → Int32 → Int64 → Int64 → Int32 → Option (Int32)
  | 0 => fun _ _ _ _ _ => none
  | k + 1 => fun v2 v3 v4 v6 v8 => (if v8 ≤ 0 then (fX8_partOf n v4 v6 v3).bind fun z2 => some z2 else (fX8_sound_56 n x_row k) v2 v3 (v4 * v2.toInt64) (v6 * 5) (v8 + (-1)))
def fX8_sound (n : Nat) (x_row : Nat → Int32) (v1 : Int32) (v2 : Int32) (v3 : Int32) : Option (Int32) :=
  (fX8_isFact n x_row v1).bind fun z1 => (if z1 = 0 then some (-2) else (fX8_in n v2.toInt64 0 5).bind fun z3 => (if z3 = 0 then fX8_sound_33 n x_row else (fX8_in n v3.toInt64 0 1).bind fun z5 => (if z5 = 0 then fX8_sound_33 n x_row else (if (36 + v1) < 0 ∨ 624 ≤ (36 + v1).toNatClampNeg then none else (fX8_bits n (x_row (36 + v1).toNatClampNeg)).bind fun z8 => fX8_sound_56 n x_row n v2 v3 1 1 z8))))

def fX8_seen_16 (n : Nat) (x_row : Nat → Int32) (x_seenMember : Nat → Int32) (x_seenMinutes : Nat → Int32) (x_seenFact : Nat → Int32) (x_seenKnew : Nat → Int32) (x_seenMany : Int32) : Option (Int32 × (Nat → Int32) × (Nat → Int32) × (Nat → Int32) × (Nat → Int32) × Int32) :=
  some ((-2), x_seenMember, x_seenMinutes, x_seenFact, x_seenKnew, x_seenMany)
def fX8_seen_42 (n : Nat) (x_row : Nat → Int32) (x_seenMember : Nat → Int32) (x_seenMinutes : Nat → Int32) (x_seenFact : Nat → Int32) (x_seenKnew : Nat → Int32) (x_seenMany : Int32) : Option (Int32 × (Nat → Int32) × (Nat → Int32) × (Nat → Int32) × (Nat → Int32) × Int32) :=
  some ((-3), x_seenMember, x_seenMinutes, x_seenFact, x_seenKnew, x_seenMany)
def fX8_seen (n : Nat) (x_row : Nat → Int32) (x_seenMember : Nat → Int32) (x_seenMinutes : Nat → Int32) (x_seenFact : Nat → Int32) (x_seenKnew : Nat → Int32) (x_seenMany : Int32) (v1 : Int32) (v2 : Int32) (v3 : Int32) (v4 : Int32) : Option (Int32 × (Nat → Int32) × (Nat → Int32) × (Nat → Int32) × (Nat → Int32) × Int32) :=
  (fX8_isMember n x_row v1).bind fun z1 => (if z1 = 0 then fX8_seen_16 n x_row x_seenMember x_seenMinutes x_seenFact x_seenKnew x_seenMany else (fX8_isFact n x_row v3).bind fun z3 => (if z3 = 0 then fX8_seen_16 n x_row x_seenMember x_seenMinutes x_seenFact x_seenKnew x_seenMany else (fX8_in n v2.toInt64 1 6).bind fun z5 => (if z5 = 0 then fX8_seen_42 n x_row x_seenMember x_seenMinutes x_seenFact x_seenKnew x_seenMany else (fX8_in n v4.toInt64 0 1).bind fun z7 => (if z7 = 0 then fX8_seen_42 n x_row x_seenMember x_seenMinutes x_seenFact x_seenKnew x_seenMany else (if x_seenMany = 6 then some ((-5), x_seenMember, x_seenMinutes, x_seenFact, x_seenKnew, x_seenMany) else (if x_seenMany < 0 ∨ 6 ≤ x_seenMany.toNatClampNeg then none else (if x_seenMany < 0 ∨ 6 ≤ x_seenMany.toNatClampNeg then none else (if x_seenMany < 0 ∨ 6 ≤ x_seenMany.toNatClampNeg then none else (if x_seenMany < 0 ∨ 6 ≤ x_seenMany.toNatClampNeg then none else some ((x_seenMany + 1), (upd x_seenMember x_seenMany.toNatClampNeg v1), (upd x_seenMinutes x_seenMany.toNatClampNeg v2), (upd x_seenFact x_seenMany.toNatClampNeg v3), (upd x_seenKnew x_seenMany.toNatClampNeg v4), (x_seenMany + 1)))))))))))

def fX8_forget (n : Nat) (x_seenMany : Int32) : Option (Int32 × Int32) :=
  some (x_seenMany, 0)

def fX8_knowsBehind_20 (n : Nat) (x_row : Nat → Int32) : Nat → Int32 → Int32 → Int32 → Int32 → Int32 → Int32 → Option (Int32 × Int32 × Int32 × Int32)
  | 0 => fun _ _ _ _ _ _ => none
  | k + 1 => fun x_hasNow x_knowsNow x_isOff v2 v3 v4 => (if v3 ≤ v4 then some (x_knowsNow, x_hasNow, x_knowsNow, x_isOff) else (fX8_sucks n x_row x_isOff x_hasNow x_knowsNow v2).bind fun z2 => (fX8_knowsBehind_20 n x_row k) z2.2.1 z2.2.2 z2.1 v2 v3 (v4 + 1))
def fX8_knowsBehind (n : Nat) (x_row : Nat → Int32) (x_hasNow : Int32) (x_knowsNow : Int32) (x_isOff : Int32) (v1 : Int32) (v2 : Int32) (v3 : Int32) : Option (Int32 × Int32 × Int32 × Int32) :=
  (if (0 + v1) < 0 ∨ 624 ≤ (0 + v1).toNatClampNeg then none else fX8_knowsBehind_20 n x_row n 0 (x_row (0 + v1).toNatClampNeg) x_isOff v2 v3 0)

def fX8_kinds_80 (n : Nat) (r_4 : Int32 → Int32 → Int32 → Int32 → Int32 → Option (Int32 × Int32 × Int32 × Int32)) (r_14 : Int32 → Int32 → Int32 → Int32 → Int32 → Int32 → Int32 → Option (Int32 × Int32 × Int32 × Int32)) (x_seenMany : Int32) (x_seenMember : Nat → Int32) (x_seenMinutes : Nat → Int32) (x_row : Nat → Int32) (x_seenFact : Nat → Int32) (x_seenKnew : Nat → Int32) (x_hasNow : Int32) (x_knowsNow : Int32) (x_isOff : Int32) (v1 : Int32) (v2 : Int32) (v4 : Int32) (t0 : Int32) : Option (Int32 × Int32 × Int32 × Int32) :=
  r_14 x_hasNow x_knowsNow x_isOff v1 v2 t0 (v4 + 1)
def fX8_kinds_79 (n : Nat) (r_4 : Int32 → Int32 → Int32 → Int32 → Int32 → Option (Int32 × Int32 × Int32 × Int32)) (r_14 : Int32 → Int32 → Int32 → Int32 → Int32 → Int32 → Int32 → Option (Int32 × Int32 × Int32 × Int32)) (x_seenMany : Int32) (x_seenMember : Nat → Int32) (x_seenMinutes : Nat → Int32) (x_row : Nat → Int32) (x_seenFact : Nat → Int32) (x_seenKnew : Nat → Int32) (x_hasNow : Int32) (x_knowsNow : Int32) (x_isOff : Int32) (v1 : Int32) (v2 : Int32) (v4 : Int32) : Option (Int32 × Int32 × Int32 × Int32) :=
  fX8_kinds_80 n r_4 r_14 x_seenMany x_seenMember x_seenMinutes x_row x_seenFact x_seenKnew x_hasNow x_knowsNow x_isOff v1 v2 v4 0
def fX8_kinds_72 (n : Nat) (r_4 : Int32 → Int32 → Int32 → Int32 → Int32 → Option (Int32 × Int32 × Int32 × Int32)) (r_14 : Int32 → Int32 → Int32 → Int32 → Int32 → Int32 → Int32 → Option (Int32 × Int32 × Int32 × Int32)) (x_seenMany : Int32) (x_seenMember : Nat → Int32) (x_seenMinutes : Nat → Int32) (x_row : Nat → Int32) (x_seenFact : Nat → Int32) (x_seenKnew : Nat → Int32) (x_hasNow : Int32) (x_knowsNow : Int32) (x_isOff : Int32) (v1 : Int32) (v2 : Int32) (v4 : Int32) (t0 : Int32) (t1 : Int32) : Option (Int32 × Int32 × Int32 × Int32) :=
  (if t0 = t1 then fX8_kinds_80 n r_4 r_14 x_seenMany x_seenMember x_seenMinutes x_row x_seenFact x_seenKnew x_hasNow x_knowsNow x_isOff v1 v2 v4 1 else fX8_kinds_79 n r_4 r_14 x_seenMany x_seenMember x_seenMinutes x_row x_seenFact x_seenKnew x_hasNow x_knowsNow x_isOff v1 v2 v4)
def fX8_kinds_99 (n : Nat) (r_4 : Int32 → Int32 → Int32 → Int32 → Int32 → Option (Int32 × Int32 × Int32 × Int32)) (x_seenMany : Int32) (x_seenMember : Nat → Int32) (x_seenMinutes : Nat → Int32) (x_row : Nat → Int32) (x_seenFact : Nat → Int32) (x_seenKnew : Nat → Int32) (x_hasNow : Int32) (x_knowsNow : Int32) (x_isOff : Int32) (v2 : Int32) (t0 : Int32) (t1 : Int32) : Option (Int32 × Int32 × Int32 × Int32) :=
  r_4 x_hasNow x_knowsNow x_isOff (t0 ||| t1) (v2 + 1)
def fX8_kinds_14 (n : Nat) (r_4 : Int32 → Int32 → Int32 → Int32 → Int32 → Option (Int32 × Int32 × Int32 × Int32)) (x_seenMany : Int32) (x_seenMember : Nat → Int32) (x_seenMinutes : Nat → Int32) (x_row : Nat → Int32) (x_seenFact : Nat → Int32) (x_seenKnew : Nat → Int32) : Nat → Int32 → Int32 → Int32 → Int32 → Int32 → Int32 → Int32 → Option (Int32 × Int32 × Int32 × Int32)
  | 0 => fun _ _ _ _ _ _ _ => none
  | k + 1 => fun x_hasNow x_knowsNow x_isOff v1 v2 v3 v4 => (if x_seenMany ≤ v4 then (if v3 = 0 then fX8_kinds_99 n r_4 x_seenMany x_seenMember x_seenMinutes x_row x_seenFact x_seenKnew x_hasNow x_knowsNow x_isOff v2 v1 0 else fX8_kinds_99 n r_4 x_seenMany x_seenMember x_seenMinutes x_row x_seenFact x_seenKnew x_hasNow x_knowsNow x_isOff v2 v1 (1 <<< (v2 &&& 31))) else (if v3 = 0 then fX8_kinds_79 n r_4 (fX8_kinds_14 n r_4 x_seenMany x_seenMember x_seenMinutes x_row x_seenFact x_seenKnew k) x_seenMany x_seenMember x_seenMinutes x_row x_seenFact x_seenKnew x_hasNow x_knowsNow x_isOff v1 v2 v4 else (if v4 < 0 ∨ 6 ≤ v4.toNatClampNeg then none else (if v4 < 0 ∨ 6 ≤ v4.toNatClampNeg then none else (fX8_knowsBehind n x_row x_hasNow x_knowsNow x_isOff (x_seenMember v4.toNatClampNeg) v2 (x_seenMinutes v4.toNatClampNeg)).bind fun z6 => (if v4 < 0 ∨ 6 ≤ v4.toNatClampNeg then none else (fX8_has n z6.1 (x_seenFact v4.toNatClampNeg)).bind fun z8 => (if v4 < 0 ∨ 6 ≤ v4.toNatClampNeg then none else (if (x_seenKnew v4.toNatClampNeg) = 1 then fX8_kinds_72 n r_4 (fX8_kinds_14 n r_4 x_seenMany x_seenMember x_seenMinutes x_row x_seenFact x_seenKnew k) x_seenMany x_seenMember x_seenMinutes x_row x_seenFact x_seenKnew z6.2.1 z6.2.2.1 z6.2.2.2 v1 v2 v4 z8 1 else fX8_kinds_72 n r_4 (fX8_kinds_14 n r_4 x_seenMany x_seenMember x_seenMinutes x_row x_seenFact x_seenKnew k) x_seenMany x_seenMember x_seenMinutes x_row x_seenFact x_seenKnew z6.2.1 z6.2.2.1 z6.2.2.2 v1 v2 v4 z8 0)))))))
def fX8_kinds_4 (n : Nat) (x_seenMany : Int32) (x_seenMember : Nat → Int32) (x_seenMinutes : Nat → Int32) (x_row : Nat → Int32) (x_seenFact : Nat → Int32) (x_seenKnew : Nat → Int32) : Nat → Int32 → Int32 → Int32 → Int32 → Int32 → Option (Int32 × Int32 × Int32 × Int32)
  | 0 => fun _ _ _ _ _ => none
  | k + 1 => fun x_hasNow x_knowsNow x_isOff v1 v2 => (if 5 ≤ v2 then some (v1, x_hasNow, x_knowsNow, x_isOff) else fX8_kinds_14 n (fX8_kinds_4 n x_seenMany x_seenMember x_seenMinutes x_row x_seenFact x_seenKnew k) x_seenMany x_seenMember x_seenMinutes x_row x_seenFact x_seenKnew n x_hasNow x_knowsNow x_isOff v1 v2 1 0)
def fX8_kinds (n : Nat) (x_seenMany : Int32) (x_seenMember : Nat → Int32) (x_seenMinutes : Nat → Int32) (x_row : Nat → Int32) (x_seenFact : Nat → Int32) (x_seenKnew : Nat → Int32) (x_hasNow : Int32) (x_knowsNow : Int32) (x_isOff : Int32) : Option (Int32 × Int32 × Int32 × Int32) :=
  fX8_kinds_4 n x_seenMany x_seenMember x_seenMinutes x_row x_seenFact x_seenKnew n x_hasNow x_knowsNow x_isOff 0 0

def fX8_ask_99 (n : Nat) (r_43 : Int32 → Int32 → Int32 → Int32 → Int32 → Int32 → Int32 → Int32 → Int32 → Option (Int32 × Int32 × Int32 × Int32)) (r_61 : Int32 → Int32 → Int32 → Int32 → Int32 → Int32 → Int32 → Int32 → Int32 → Int32 → Int32 → Option (Int32 × Int32 × Int32 × Int32)) (x_row : Nat → Int32) (x_seenMany : Int32) (x_seenMember : Nat → Int32) (x_seenMinutes : Nat → Int32) (x_seenFact : Nat → Int32) (x_seenKnew : Nat → Int32) (x_hasNow : Int32) (x_knowsNow : Int32) (x_isOff : Int32) (v1 : Int32) (v2 : Int32) (v3 : Int32) (v4 : Int32) (v5 : Int32) (v6 : Int32) (v8 : Int32) (t0 : Int32) (t1 : Int32) : Option (Int32 × Int32 × Int32 × Int32) :=
  r_61 x_hasNow x_knowsNow x_isOff v1 v2 v3 v4 v5 v6 (t0 + t1) (v8 + 1)
def fX8_ask_98 (n : Nat) (r_43 : Int32 → Int32 → Int32 → Int32 → Int32 → Int32 → Int32 → Int32 → Int32 → Option (Int32 × Int32 × Int32 × Int32)) (r_61 : Int32 → Int32 → Int32 → Int32 → Int32 → Int32 → Int32 → Int32 → Int32 → Int32 → Int32 → Option (Int32 × Int32 × Int32 × Int32)) (x_row : Nat → Int32) (x_seenMany : Int32) (x_seenMember : Nat → Int32) (x_seenMinutes : Nat → Int32) (x_seenFact : Nat → Int32) (x_seenKnew : Nat → Int32) (x_hasNow : Int32) (x_knowsNow : Int32) (x_isOff : Int32) (v1 : Int32) (v2 : Int32) (v3 : Int32) (v4 : Int32) (v5 : Int32) (v6 : Int32) (v8 : Int32) (t0 : Int32) : Option (Int32 × Int32 × Int32 × Int32) :=
  fX8_ask_99 n r_43 r_61 x_row x_seenMany x_seenMember x_seenMinutes x_seenFact x_seenKnew x_hasNow x_knowsNow x_isOff v1 v2 v3 v4 v5 v6 v8 t0 0
def fX8_ask_164 (n : Nat) (r_43 : Int32 → Int32 → Int32 → Int32 → Int32 → Int32 → Int32 → Int32 → Int32 → Option (Int32 × Int32 × Int32 × Int32)) (x_row : Nat → Int32) (x_seenMany : Int32) (x_seenMember : Nat → Int32) (x_seenMinutes : Nat → Int32) (x_seenFact : Nat → Int32) (x_seenKnew : Nat → Int32) (x_hasNow : Int32) (x_knowsNow : Int32) (x_isOff : Int32) (v1 : Int32) (v2 : Int32) (v3 : Int32) (v4 : Int32) (v6 : Int32) (t0 : Int32) : Option (Int32 × Int32 × Int32 × Int32) :=
  r_43 x_hasNow x_knowsNow x_isOff v1 v2 v3 v4 t0 (v6 + 1)
def fX8_ask_148 (n : Nat) (r_43 : Int32 → Int32 → Int32 → Int32 → Int32 → Int32 → Int32 → Int32 → Int32 → Option (Int32 × Int32 × Int32 × Int32)) (x_row : Nat → Int32) (x_seenMany : Int32) (x_seenMember : Nat → Int32) (x_seenMinutes : Nat → Int32) (x_seenFact : Nat → Int32) (x_seenKnew : Nat → Int32) (x_hasNow : Int32) (x_knowsNow : Int32) (x_isOff : Int32) (v1 : Int32) (v2 : Int32) (v3 : Int32) (v5 : Int32) (v6 : Int32) (v8 : Int32) (t0 : Int32) : Option (Int32 × Int32 × Int32 × Int32) :=
  (if v5 ≤ v8 then fX8_ask_164 n r_43 x_row x_seenMany x_seenMember x_seenMinutes x_seenFact x_seenKnew x_hasNow x_knowsNow x_isOff v1 v2 v3 t0 v6 v5 else fX8_ask_164 n r_43 x_row x_seenMany x_seenMember x_seenMinutes x_seenFact x_seenKnew x_hasNow x_knowsNow x_isOff v1 v2 v3 t0 v6 v8)
def fX8_ask_132 (n : Nat) (r_43 : Int32 → Int32 → Int32 → Int32 → Int32 → Int32 → Int32 → Int32 → Int32 → Option (Int32 × Int32 × Int32 × Int32)) (x_row : Nat → Int32) (x_seenMany : Int32) (x_seenMember : Nat → Int32) (x_seenMinutes : Nat → Int32) (x_seenFact : Nat → Int32) (x_seenKnew : Nat → Int32) (x_hasNow : Int32) (x_knowsNow : Int32) (x_isOff : Int32) (v1 : Int32) (v2 : Int32) (v3 : Int32) (v4 : Int32) (v5 : Int32) (v6 : Int32) (t0 : Int32) : Option (Int32 × Int32 × Int32 × Int32) :=
  (if v5 ≤ t0 then fX8_ask_148 n r_43 x_row x_seenMany x_seenMember x_seenMinutes x_seenFact x_seenKnew x_hasNow x_knowsNow x_isOff v1 v2 v3 v5 v6 t0 v4 else fX8_ask_148 n r_43 x_row x_seenMany x_seenMember x_seenMinutes x_seenFact x_seenKnew x_hasNow x_knowsNow x_isOff v1 v2 v3 v5 v6 t0 v6)
def fX8_ask_61 (n : Nat) (r_43 : Int32 → Int32 → Int32 → Int32 → Int32 → Int32 → Int32 → Int32 → Int32 → Option (Int32 × Int32 × Int32 × Int32)) (x_row : Nat → Int32) (x_seenMany : Int32) (x_seenMember : Nat → Int32) (x_seenMinutes : Nat → Int32) (x_seenFact : Nat → Int32) (x_seenKnew : Nat → Int32) : Nat → Int32 → Int32 → Int32 → Int32 → Int32 → Int32 → Int32 → Int32 → Int32 → Int32 → Int32 → Option (Int32 × Int32 × Int32 × Int32)
  | 0 => fun _ _ _ _ _ _ _ _ _ _ _ => none
  | k + 1 => fun x_hasNow x_knowsNow x_isOff v1 v2 v3 v4 v5 v6 v7 v8 => (if 5 ≤ v8 then (fX8_bits n v3).bind fun z2 => (if v7 ≤ (z2 - v7) then (fX8_bits n v3).bind fun z4 => fX8_ask_132 n r_43 x_row x_seenMany x_seenMember x_seenMinutes x_seenFact x_seenKnew x_hasNow x_knowsNow x_isOff v1 v2 v3 v4 v5 v6 (z4 - v7) else fX8_ask_132 n r_43 x_row x_seenMany x_seenMember x_seenMinutes x_seenFact x_seenKnew x_hasNow x_knowsNow x_isOff v1 v2 v3 v4 v5 v6 v7) else (fX8_has n v3 v8).bind fun z5 => (if z5 = 0 then fX8_ask_98 n r_43 (fX8_ask_61 n r_43 x_row x_seenMany x_seenMember x_seenMinutes x_seenFact x_seenKnew k) x_row x_seenMany x_seenMember x_seenMinutes x_seenFact x_seenKnew x_hasNow x_knowsNow x_isOff v1 v2 v3 v4 v5 v6 v8 v7 else (fX8_knowsBehind n x_row x_hasNow x_knowsNow x_isOff v1 v8 v2).bind fun z7 => (fX8_has n z7.1 v6).bind fun z8 => (if z8 = 0 then fX8_ask_98 n r_43 (fX8_ask_61 n r_43 x_row x_seenMany x_seenMember x_seenMinutes x_seenFact x_seenKnew k) x_row x_seenMany x_seenMember x_seenMinutes x_seenFact x_seenKnew z7.2.1 z7.2.2.1 z7.2.2.2 v1 v2 v3 v4 v5 v6 v8 v7 else fX8_ask_99 n r_43 (fX8_ask_61 n r_43 x_row x_seenMany x_seenMember x_seenMinutes x_seenFact x_seenKnew k) x_row x_seenMany x_seenMember x_seenMinutes x_seenFact x_seenKnew z7.2.1 z7.2.2.1 z7.2.2.2 v1 v2 v3 v4 v5 v6 v8 v7 1)))
def fX8_ask_43 (n : Nat) (x_row : Nat → Int32) (x_seenMany : Int32) (x_seenMember : Nat → Int32) (x_seenMinutes : Nat → Int32) (x_seenFact : Nat → Int32) (x_seenKnew : Nat → Int32) : Nat → Int32 → Int32 → Int32 → Int32 → Int32 → Int32 → Int32 → Int32 → Int32 → Option (Int32 × Int32 × Int32 × Int32)
  | 0 => fun _ _ _ _ _ _ _ _ _ => none
  | k + 1 => fun x_hasNow x_knowsNow x_isOff v1 v2 v3 v4 v5 v6 => (if (x_row 23) ≤ v6 then some (v4, x_hasNow, x_knowsNow, x_isOff) else fX8_ask_61 n (fX8_ask_43 n x_row x_seenMany x_seenMember x_seenMinutes x_seenFact x_seenKnew k) x_row x_seenMany x_seenMember x_seenMinutes x_seenFact x_seenKnew n x_hasNow x_knowsNow x_isOff v1 v2 v3 v4 v5 v6 0 0)
def fX8_ask (n : Nat) (x_row : Nat → Int32) (x_seenMany : Int32) (x_seenMember : Nat → Int32) (x_seenMinutes : Nat → Int32) (x_seenFact : Nat → Int32) (x_seenKnew : Nat → Int32) (x_hasNow : Int32) (x_knowsNow : Int32) (x_isOff : Int32) (v1 : Int32) (v2 : Int32) : Option (Int32 × Int32 × Int32 × Int32) :=
  (fX8_isMember n x_row v1).bind fun z1 => (if z1 = 0 then some ((-2), x_hasNow, x_knowsNow, x_isOff) else (fX8_in n v2.toInt64 1 6).bind fun z3 => (if z3 = 0 then some ((-3), x_hasNow, x_knowsNow, x_isOff) else (fX8_kinds n x_seenMany x_seenMember x_seenMinutes x_row x_seenFact x_seenKnew x_hasNow x_knowsNow x_isOff).bind fun z5 => (fX8_bits n z5.1).bind fun z6 => fX8_ask_43 n x_row x_seenMany x_seenMember x_seenMinutes x_seenFact x_seenKnew n z5.2.1 z5.2.2.1 z5.2.2.2 v1 v2 z5.1 (-1) z6 0))

def fX8_isSlate (n : Nat) (v0 : Int32) : Option (Int32) :=
  (fX8_in n v0.toInt64 0 3).bind fun z1 => (if z1 = 0 ∨ z1 = 1 then some z1 else none)

def fX8_slate_28 (n : Nat) (x_sizes : Nat → Int32) (x_sorts : Nat → Int32) (x_places : Nat → Int64) (x_belows : Nat → Int32) : Option (Int32 × (Nat → Int32) × (Nat → Int32) × (Nat → Int64) × (Nat → Int32)) :=
  some ((-3), x_sizes, x_sorts, x_places, x_belows)
def fX8_slate_55 (n : Nat) : Nat → (Nat → Int32) → (Nat → Int32) → (Nat → Int64) → (Nat → Int32) → Int32 → Int32 → Int32 → Option (Int32 × (Nat → Int32) × (Nat → Int32) × (Nat → Int64) × (Nat → Int32))
  | 0 => fun _ _ _ _ _ _ _ => none
  | k + 1 => fun x_sizes x_sorts x_places x_belows v1 v3 v4 => (if 10 ≤ v4 then some (v3, x_sizes, x_sorts, x_places, x_belows) else (if ((10 * v1) + v4) < 0 ∨ 40 ≤ ((10 * v1) + v4).toNatClampNeg then none else (if ((10 * v1) + v4) < 0 ∨ 40 ≤ ((10 * v1) + v4).toNatClampNeg then none else (fX8_slate_55 n k) x_sizes x_sorts (vp_updL x_places ((10 * v1) + v4).toNatClampNeg 0) (upd x_belows ((10 * v1) + v4).toNatClampNeg 0) v1 v3 (v4 + 1))))
def fX8_slate (n : Nat) (x_sizes : Nat → Int32) (x_sorts : Nat → Int32) (x_places : Nat → Int64) (x_belows : Nat → Int32) (v1 : Int32) (v2 : Int32) (v3 : Int32) : Option (Int32 × (Nat → Int32) × (Nat → Int32) × (Nat → Int64) × (Nat → Int32)) :=
  (fX8_isSlate n v1).bind fun z1 => (if z1 = 0 then some ((-2), x_sizes, x_sorts, x_places, x_belows) else (fX8_in n v2.toInt64 0 2).bind fun z3 => (if z3 = 0 then fX8_slate_28 n x_sizes x_sorts x_places x_belows else (if v3 ≤ 10 then (if 0 ≤ v3 then (if v1 < 0 ∨ 4 ≤ v1.toNatClampNeg then none else (if v1 < 0 ∨ 4 ≤ v1.toNatClampNeg then none else fX8_slate_55 n n (upd x_sizes v1.toNatClampNeg v3) (upd x_sorts v1.toNatClampNeg v2) x_places x_belows v1 v3 0)) else some ((-16), x_sizes, x_sorts, x_places, x_belows)) else fX8_slate_28 n x_sizes x_sorts x_places x_belows)))

def fX8_noPlace_49 (n : Nat) (x_sizes : Nat → Int32) (x_sorts : Nat → Int32) (t0 : Int32) : Option (Int32) :=
  some t0
def fX8_noPlace (n : Nat) (x_sizes : Nat → Int32) (x_sorts : Nat → Int32) (v1 : Int32) (v2 : Int32) (v3 : Int32) : Option (Int32) :=
  (if v1 < 0 ∨ 4 ≤ v1.toNatClampNeg then none else (if 0 ≤ (x_sizes v1.toNatClampNeg) then (if v1 < 0 ∨ 4 ≤ v1.toNatClampNeg then none else (if (x_sorts v1.toNatClampNeg) = v2 then (if v1 < 0 ∨ 4 ≤ v1.toNatClampNeg then none else (fX8_in n v3.toInt64 0 (((x_sizes v1.toNatClampNeg) - 1).toInt64)).bind fun z6 => (if z6 = 0 then fX8_noPlace_49 n x_sizes x_sorts (-14) else fX8_noPlace_49 n x_sizes x_sorts 0)) else some (-12))) else some (-11)))

def fX8_layPart (n : Nat) (x_places : Nat → Int64) (x_belows : Nat → Int32) (v1 : Int32) (v2 : Int64) (v4 : Int64) : Option ((Nat → Int64) × (Nat → Int32)) :=
  (fX8_partOf n v2 v4 0).bind fun z1 => (if v1 < 0 ∨ 40 ≤ v1.toNatClampNeg then none else (fX8_partOf n v2 v4 1).bind fun z3 => (if v1 < 0 ∨ 40 ≤ v1.toNatClampNeg then none else some ((vp_updL x_places v1.toNatClampNeg z1.toInt64), (upd x_belows v1.toNatClampNeg z3))))

def fX8_chalk_55 (n : Nat) (x_sizes : Nat → Int32) (x_sorts : Nat → Int32) (x_places : Nat → Int64) (x_belows : Nat → Int32) : Option (Int32 × (Nat → Int64) × (Nat → Int32)) :=
  some ((-3), x_places, x_belows)
def fX8_chalk_131 (n : Nat) (x_sizes : Nat → Int32) (x_sorts : Nat → Int32) (x_places : Nat → Int64) (x_belows : Nat → Int32) : Option (Int32 × (Nat → Int64) × (Nat → Int32)) :=
  some (1, x_places, x_belows)
def fX8_chalk_130 (n : Nat) (x_sizes : Nat → Int32) (x_sorts : Nat → Int32) (x_places : Nat → Int64) (x_belows : Nat → Int32) (t1 : Int32) (t2 : Int64) : Option (Int32 × (Nat → Int64) × (Nat → Int32)) :=
  (if t1 < 0 ∨ 40 ≤ t1.toNatClampNeg then none else fX8_chalk_131 n x_sizes x_sorts (vp_updL x_places t1.toNatClampNeg t2) x_belows)
def fX8_chalk_58 (n : Nat) (x_sizes : Nat → Int32) (x_sorts : Nat → Int32) (x_places : Nat → Int64) (x_belows : Nat → Int32) (v1 : Int32) (v2 : Int32) (v3 : Int32) (v4 : Int32) (v5 : Int32) : Option (Int32 × (Nat → Int64) × (Nat → Int32)) :=
  (fX8_noPlace n x_sizes x_sorts v1 v2 v3).bind fun z1 => (if z1 = 0 then (if v2 = 2 then (fX8_layPart n x_places x_belows ((10 * v1) + v3) v4.toInt64 v5.toInt64).bind fun z5 => fX8_chalk_131 n x_sizes x_sorts z5.1 z5.2 else (if v2 = 0 then fX8_chalk_130 n x_sizes x_sorts x_places x_belows ((10 * v1) + v3) v4.toInt64 else fX8_chalk_130 n x_sizes x_sorts x_places x_belows ((10 * v1) + v3) ((v4.toInt64 * 1000000000) + v5.toInt64))) else some (z1, x_places, x_belows))
def fX8_chalk (n : Nat) (x_sizes : Nat → Int32) (x_sorts : Nat → Int32) (x_places : Nat → Int64) (x_belows : Nat → Int32) (v1 : Int32) (v2 : Int32) (v3 : Int32) (v4 : Int32) (v5 : Int32) : Option (Int32 × (Nat → Int64) × (Nat → Int32)) :=
  (fX8_isSlate n v1).bind fun z1 => (if z1 = 0 then some ((-2), x_places, x_belows) else (fX8_in n v2.toInt64 0 2).bind fun z3 => (if z3 = 0 then fX8_chalk_55 n x_sizes x_sorts x_places x_belows else (if v2 = 2 then (fX8_in n v4.toInt64 (-1000000) 1000000).bind fun z6 => (if z6 = 0 then fX8_chalk_55 n x_sizes x_sorts x_places x_belows else (fX8_in n v5.toInt64 1 1000000).bind fun z8 => (if z8 = 0 then fX8_chalk_55 n x_sizes x_sorts x_places x_belows else fX8_chalk_58 n x_sizes x_sorts x_places x_belows v1 v2 v3 v4 v5)) else fX8_chalk_58 n x_sizes x_sorts x_places x_belows v1 v2 v3 v4 v5)))

def fX8_show_33 (n : Nat) (x_sizes : Nat → Int32) (x_sorts : Nat → Int32) (x_places : Nat → Int64) (x_belows : Nat → Int32) : Option (Int32) :=
  some (-3)
def fX8_show_98 (n : Nat) (x_sizes : Nat → Int32) (x_sorts : Nat → Int32) (x_places : Nat → Int64) (x_belows : Nat → Int32) (t0 : Int64) : Option (Int32) :=
  some t0.toInt32
def fX8_show_140 (n : Nat) (x_sizes : Nat → Int32) (x_sorts : Nat → Int32) (x_places : Nat → Int64) (x_belows : Nat → Int32) (t0 : Int32) : Option (Int32) :=
  some t0
def fX8_show (n : Nat) (x_sizes : Nat → Int32) (x_sorts : Nat → Int32) (x_places : Nat → Int64) (x_belows : Nat → Int32) (v1 : Int32) (v2 : Int32) (v3 : Int32) (v4 : Int32) : Option (Int32) :=
  (fX8_isSlate n v1).bind fun z1 => (if z1 = 0 then some (-2) else (fX8_in n v2.toInt64 0 2).bind fun z3 => (if z3 = 0 then fX8_show_33 n x_sizes x_sorts x_places x_belows else (fX8_in n v4.toInt64 0 1).bind fun z5 => (if z5 = 0 then fX8_show_33 n x_sizes x_sorts x_places x_belows else (fX8_noPlace n x_sizes x_sorts v1 v2 v3).bind fun z7 => (if z7 = 0 then (if ((10 * v1) + v3) < 0 ∨ 40 ≤ ((10 * v1) + v3).toNatClampNeg then none else (if 2 ≤ v2 then (if ((10 * v1) + v3) < 0 ∨ 40 ≤ ((10 * v1) + v3).toNatClampNeg then none else (if (x_belows ((10 * v1) + v3).toNatClampNeg) = 0 then fX8_show_140 n x_sizes x_sorts x_places x_belows (-15) else (if v4 = 0 then fX8_show_140 n x_sizes x_sorts x_places x_belows (((x_places ((10 * v1) + v3).toNatClampNeg).toInt32) + 3000000) else fX8_show_140 n x_sizes x_sorts x_places x_belows (x_belows ((10 * v1) + v3).toNatClampNeg)))) else (if 0 ≤ (lg_cmp (x_places ((10 * v1) + v3).toNatClampNeg) 0) then fX8_show_98 n x_sizes x_sorts x_places x_belows ((x_places ((10 * v1) + v3).toNatClampNeg) - (x_places ((10 * v1) + v3).toNatClampNeg) / 1000003 * 1000003) else fX8_show_98 n x_sizes x_sorts x_places x_belows (((-(x_places ((10 * v1) + v3).toNatClampNeg)) - (-(x_places ((10 * v1) + v3).toNatClampNeg)) / 1000003 * 1000003) + 2000000)))) else some z7))))

def fX8_reckon_152 (n : Nat) (x_sizes : Nat → Int32) (x_sorts : Nat → Int32) (x_places : Nat → Int64) (x_belows : Nat → Int32) : Option (Int32 × (Nat → Int64) × (Nat → Int32)) :=
  some ((-15), x_places, x_belows)
def fX8_reckon_282 (n : Nat) (x_sizes : Nat → Int32) (x_sorts : Nat → Int32) (x_places : Nat → Int64) (x_belows : Nat → Int32) : Option (Int32 × (Nat → Int64) × (Nat → Int32)) :=
  some ((-4), x_places, x_belows)
def fX8_reckon_225 (n : Nat) (x_sizes : Nat → Int32) (x_sorts : Nat → Int32) : Nat → (Nat → Int64) → (Nat → Int32) → Int32 → Int32 → Int64 → Int64 → Int64 → Int64 → Int64 → Option (Int32 × (Nat → Int64) × (Nat → Int32))
  | 0 => fun _ _ _ _ _ _ _ _ _ => none
  | k + 1 => fun x_places x_belows v1 v2 v9 v13 v15 v17 v19 => (if (lg_cmp v19 0) = 0 then (if v17 = 0 then none else (fX8_in n (v15 / v17) (-1000000) 1000000).bind fun z3 => (if z3 = 0 then fX8_reckon_282 n x_sizes x_sorts x_places x_belows else (if v17 = 0 then none else (if (lg_cmp ((v9 * v13) / v17) 1000000) ≤ 0 then (if v17 = 0 then none else (if v17 = 0 then none else (fX8_layPart n x_places x_belows ((10 * v1) + v2) (v15 / v17) ((v9 * v13) / v17)).bind fun z9 => some (1, z9.1, z9.2))) else fX8_reckon_282 n x_sizes x_sorts x_places x_belows)))) else (if v19 = 0 then none else (fX8_reckon_225 n x_sizes x_sorts k) x_places x_belows v1 v2 v9 v13 v15 v19 (v17 - v17 / v19 * v19)))
def fX8_reckon_216 (n : Nat) (x_sizes : Nat → Int32) (x_sorts : Nat → Int32) (x_places : Nat → Int64) (x_belows : Nat → Int32) (v1 : Int32) (v2 : Int32) (v9 : Int64) (v13 : Int64) (v15 : Int64) (t0 : Int64) : Option (Int32 × (Nat → Int64) × (Nat → Int32)) :=
  fX8_reckon_225 n x_sizes x_sorts n x_places x_belows v1 v2 v9 v13 v15 t0 (v9 * v13)
def fX8_reckon_199 (n : Nat) (x_sizes : Nat → Int32) (x_sorts : Nat → Int32) (x_places : Nat → Int64) (x_belows : Nat → Int32) (v1 : Int32) (v2 : Int32) (v9 : Int64) (v13 : Int64) (t0 : Int64) : Option (Int32 × (Nat → Int64) × (Nat → Int32)) :=
  (if 0 ≤ (lg_cmp t0 0) then fX8_reckon_216 n x_sizes x_sorts x_places x_belows v1 v2 v9 v13 t0 t0 else fX8_reckon_216 n x_sizes x_sorts x_places x_belows v1 v2 v9 v13 t0 (-t0))
def fX8_reckon_72 (n : Nat) (x_sizes : Nat → Int32) (x_sorts : Nat → Int32) (x_places : Nat → Int64) (x_belows : Nat → Int32) (v1 : Int32) (v2 : Int32) (v3 : Int32) (v4 : Int32) (v5 : Int32) (t0 : Int32) : Option (Int32 × (Nat → Int64) × (Nat → Int32)) :=
  (if t0 = 0 then (if ((10 * v1) + v3) < 0 ∨ 40 ≤ ((10 * v1) + v3).toNatClampNeg then none else (if ((10 * v1) + v3) < 0 ∨ 40 ≤ ((10 * v1) + v3).toNatClampNeg then none else (if ((10 * v1) + v4) < 0 ∨ 40 ≤ ((10 * v1) + v4).toNatClampNeg then none else (if ((10 * v1) + v4) < 0 ∨ 40 ≤ ((10 * v1) + v4).toNatClampNeg then none else (if (lg_cmp ((x_belows ((10 * v1) + v3).toNatClampNeg).toInt64) 0) = 0 then fX8_reckon_152 n x_sizes x_sorts x_places x_belows else (if (lg_cmp ((x_belows ((10 * v1) + v4).toNatClampNeg).toInt64) 0) = 0 then fX8_reckon_152 n x_sizes x_sorts x_places x_belows else (if v5 = 0 then fX8_reckon_199 n x_sizes x_sorts x_places x_belows v1 v2 ((x_belows ((10 * v1) + v3).toNatClampNeg).toInt64) ((x_belows ((10 * v1) + v4).toNatClampNeg).toInt64) (((x_places ((10 * v1) + v3).toNatClampNeg) * ((x_belows ((10 * v1) + v4).toNatClampNeg).toInt64)) + ((x_places ((10 * v1) + v4).toNatClampNeg) * ((x_belows ((10 * v1) + v3).toNatClampNeg).toInt64))) else (if v5 = 1 then fX8_reckon_199 n x_sizes x_sorts x_places x_belows v1 v2 ((x_belows ((10 * v1) + v3).toNatClampNeg).toInt64) ((x_belows ((10 * v1) + v4).toNatClampNeg).toInt64) (((x_places ((10 * v1) + v3).toNatClampNeg) * ((x_belows ((10 * v1) + v4).toNatClampNeg).toInt64)) - ((x_places ((10 * v1) + v4).toNatClampNeg) * ((x_belows ((10 * v1) + v3).toNatClampNeg).toInt64))) else fX8_reckon_199 n x_sizes x_sorts x_places x_belows v1 v2 ((x_belows ((10 * v1) + v3).toNatClampNeg).toInt64) ((x_belows ((10 * v1) + v4).toNatClampNeg).toInt64) ((x_places ((10 * v1) + v3).toNatClampNeg) * (x_places ((10 * v1) + v4).toNatClampNeg)))))))))) else some (t0, x_places, x_belows))
def fX8_reckon_53 (n : Nat) (x_sizes : Nat → Int32) (x_sorts : Nat → Int32) (x_places : Nat → Int64) (x_belows : Nat → Int32) (v1 : Int32) (v2 : Int32) (v3 : Int32) (v4 : Int32) (v5 : Int32) (t0 : Int32) : Option (Int32 × (Nat → Int64) × (Nat → Int32)) :=
  (if t0 = 0 then (fX8_noPlace n x_sizes x_sorts v1 2 v2).bind fun z2 => fX8_reckon_72 n x_sizes x_sorts x_places x_belows v1 v2 v3 v4 v5 z2 else fX8_reckon_72 n x_sizes x_sorts x_places x_belows v1 v2 v3 v4 v5 t0)
def fX8_reckon (n : Nat) (x_sizes : Nat → Int32) (x_sorts : Nat → Int32) (x_places : Nat → Int64) (x_belows : Nat → Int32) (v1 : Int32) (v2 : Int32) (v3 : Int32) (v4 : Int32) (v5 : Int32) : Option (Int32 × (Nat → Int64) × (Nat → Int32)) :=
  (fX8_isSlate n v1).bind fun z1 => (if z1 = 0 then some ((-2), x_places, x_belows) else (fX8_in n v5.toInt64 0 2).bind fun z3 => (if z3 = 0 then some ((-3), x_places, x_belows) else (fX8_noPlace n x_sizes x_sorts v1 2 v3).bind fun z5 => (if z5 = 0 then (fX8_noPlace n x_sizes x_sorts v1 2 v4).bind fun z7 => fX8_reckon_53 n x_sizes x_sorts x_places x_belows v1 v2 v3 v4 v5 z7 else fX8_reckon_53 n x_sizes x_sorts x_places x_belows v1 v2 v3 v4 v5 z5)))

def fX8_isSpan_29 (n : Nat) (x_sizes : Nat → Int32) (t0 : Int32) : Option (Int32) :=
  (if t0 = 0 ∨ t0 = 1 then some t0 else none)
def fX8_isSpan_28 (n : Nat) (x_sizes : Nat → Int32) : Option (Int32) :=
  fX8_isSpan_29 n x_sizes 0
def fX8_isSpan (n : Nat) (x_sizes : Nat → Int32) (v1 : Int32) (v2 : Int32) (v3 : Int32) : Option (Int32) :=
  (if v2 < 0 then fX8_isSpan_28 n x_sizes else (if v3 < 0 then fX8_isSpan_28 n x_sizes else (if v1 < 0 ∨ 4 ≤ v1.toNatClampNeg then none else (if 0 < (lg_cmp (v2.toInt64 + v3.toInt64) ((x_sizes v1.toNatClampNeg).toInt64)) then fX8_isSpan_28 n x_sizes else fX8_isSpan_29 n x_sizes 1))))

def fX8_copy_14 (n : Nat) (x_sizes : Nat → Int32) (x_sorts : Nat → Int32) (x_moved : Nat → Int64) (x_movedBelow : Nat → Int32) (x_places : Nat → Int64) (x_belows : Nat → Int32) : Option (Int32 × (Nat → Int64) × (Nat → Int32) × (Nat → Int64) × (Nat → Int32)) :=
  some ((-2), x_moved, x_movedBelow, x_places, x_belows)
def fX8_copy_35 (n : Nat) (x_sizes : Nat → Int32) (x_sorts : Nat → Int32) (x_moved : Nat → Int64) (x_movedBelow : Nat → Int32) (x_places : Nat → Int64) (x_belows : Nat → Int32) : Option (Int32 × (Nat → Int64) × (Nat → Int32) × (Nat → Int64) × (Nat → Int32)) :=
  some ((-11), x_moved, x_movedBelow, x_places, x_belows)
def fX8_copy_79 (n : Nat) (x_sizes : Nat → Int32) (x_sorts : Nat → Int32) (x_moved : Nat → Int64) (x_movedBelow : Nat → Int32) (x_places : Nat → Int64) (x_belows : Nat → Int32) : Option (Int32 × (Nat → Int64) × (Nat → Int32) × (Nat → Int64) × (Nat → Int32)) :=
  some ((-14), x_moved, x_movedBelow, x_places, x_belows)
def fX8_copy_143 (n : Nat) (x_sizes : Nat → Int32) (x_sorts : Nat → Int32) : Nat → (Nat → Int64) → (Nat → Int32) → (Nat → Int64) → (Nat → Int32) → Int32 → Int32 → Int32 → Int32 → Option (Int32 × (Nat → Int64) × (Nat → Int32) × (Nat → Int64) × (Nat → Int32))
  | 0 => fun _ _ _ _ _ _ _ _ => none
  | k + 1 => fun x_moved x_movedBelow x_places x_belows v3 v4 v5 v6 => (if v5 ≤ v6 then some (v5, x_moved, x_movedBelow, x_places, x_belows) else (if v6 < 0 ∨ 10 ≤ v6.toNatClampNeg then none else (if (((10 * v3) + v4) + v6) < 0 ∨ 40 ≤ (((10 * v3) + v4) + v6).toNatClampNeg then none else (if v6 < 0 ∨ 10 ≤ v6.toNatClampNeg then none else (if (((10 * v3) + v4) + v6) < 0 ∨ 40 ≤ (((10 * v3) + v4) + v6).toNatClampNeg then none else (fX8_copy_143 n x_sizes x_sorts k) x_moved x_movedBelow (vp_updL x_places (((10 * v3) + v4) + v6).toNatClampNeg (x_moved v6.toNatClampNeg)) (upd x_belows (((10 * v3) + v4) + v6).toNatClampNeg (x_movedBelow v6.toNatClampNeg)) v3 v4 v5 (v6 + 1))))))
def fX8_copy_85 (n : Nat) (x_sizes : Nat → Int32) (x_sorts : Nat → Int32) : Nat → (Nat → Int64) → (Nat → Int32) → (Nat → Int64) → (Nat → Int32) → Int32 → Int32 → Int32 → Int32 → Int32 → Int32 → Option (Int32 × (Nat → Int64) × (Nat → Int32) × (Nat → Int64) × (Nat → Int32))
  | 0 => fun _ _ _ _ _ _ _ _ _ _ => none
  | k + 1 => fun x_moved x_movedBelow x_places x_belows v1 v2 v3 v4 v5 v6 => (if v5 ≤ v6 then fX8_copy_143 n x_sizes x_sorts n x_moved x_movedBelow x_places x_belows v3 v4 v5 0 else (if (((10 * v1) + v2) + v6) < 0 ∨ 40 ≤ (((10 * v1) + v2) + v6).toNatClampNeg then none else (if v6 < 0 ∨ 10 ≤ v6.toNatClampNeg then none else (if (((10 * v1) + v2) + v6) < 0 ∨ 40 ≤ (((10 * v1) + v2) + v6).toNatClampNeg then none else (if v6 < 0 ∨ 10 ≤ v6.toNatClampNeg then none else (fX8_copy_85 n x_sizes x_sorts k) (vp_updL x_moved v6.toNatClampNeg (x_places (((10 * v1) + v2) + v6).toNatClampNeg)) (upd x_movedBelow v6.toNatClampNeg (x_belows (((10 * v1) + v2) + v6).toNatClampNeg)) x_places x_belows v1 v2 v3 v4 v5 (v6 + 1))))))
def fX8_copy (n : Nat) (x_sizes : Nat → Int32) (x_sorts : Nat → Int32) (x_moved : Nat → Int64) (x_movedBelow : Nat → Int32) (x_places : Nat → Int64) (x_belows : Nat → Int32) (v1 : Int32) (v2 : Int32) (v3 : Int32) (v4 : Int32) (v5 : Int32) : Option (Int32 × (Nat → Int64) × (Nat → Int32) × (Nat → Int64) × (Nat → Int32)) :=
  (fX8_isSlate n v1).bind fun z1 => (if z1 = 0 then fX8_copy_14 n x_sizes x_sorts x_moved x_movedBelow x_places x_belows else (fX8_isSlate n v3).bind fun z3 => (if z3 = 0 then fX8_copy_14 n x_sizes x_sorts x_moved x_movedBelow x_places x_belows else (if v1 < 0 ∨ 4 ≤ v1.toNatClampNeg then none else (if (x_sizes v1.toNatClampNeg) < 0 then fX8_copy_35 n x_sizes x_sorts x_moved x_movedBelow x_places x_belows else (if v3 < 0 ∨ 4 ≤ v3.toNatClampNeg then none else (if 0 ≤ (x_sizes v3.toNatClampNeg) then (if v1 < 0 ∨ 4 ≤ v1.toNatClampNeg then none else (if v3 < 0 ∨ 4 ≤ v3.toNatClampNeg then none else (if (x_sorts v1.toNatClampNeg) = (x_sorts v3.toNatClampNeg) then (fX8_isSpan n x_sizes v1 v2 v5).bind fun z12 => (if z12 = 0 then fX8_copy_79 n x_sizes x_sorts x_moved x_movedBelow x_places x_belows else (fX8_isSpan n x_sizes v3 v4 v5).bind fun z14 => (if z14 = 0 then fX8_copy_79 n x_sizes x_sorts x_moved x_movedBelow x_places x_belows else fX8_copy_85 n x_sizes x_sorts n x_moved x_movedBelow x_places x_belows v1 v2 v3 v4 v5 0)) else some ((-13), x_moved, x_movedBelow, x_places, x_belows)))) else fX8_copy_35 n x_sizes x_sorts x_moved x_movedBelow x_places x_belows))))))

def fX8_drop (n : Nat) (x_sizes : Nat → Int32) (v1 : Int32) : Option (Int32 × (Nat → Int32)) :=
  (fX8_isSlate n v1).bind fun z1 => (if z1 = 0 then some ((-2), x_sizes) else (if v1 < 0 ∨ 4 ≤ v1.toNatClampNeg then none else (if 0 ≤ (x_sizes v1.toNatClampNeg) then (if v1 < 0 ∨ 4 ≤ v1.toNatClampNeg then none else (if v1 < 0 ∨ 4 ≤ v1.toNatClampNeg then none else some ((x_sizes v1.toNatClampNeg), (upd x_sizes v1.toNatClampNeg (-1))))) else some ((-11), x_sizes))))

def fX8_offOnes_35 (n : Nat) (r_4 : Int32 → Int32 → Option (Int32)) (x_row : Nat → Int32) (v2 : Int32) (t0 : Int32) (t1 : Int32) : Option (Int32) :=
  r_4 (t0 ||| t1) (v2 + 1)
def fX8_offOnes_4 (n : Nat) (x_row : Nat → Int32) : Nat → Int32 → Int32 → Option (Int32)
  | 0 => fun _ _ => none
  | k + 1 => fun v1 v2 => (if (x_row 17) ≤ v2 then some v1 else (if (4 + v2) < 0 ∨ 624 ≤ (4 + v2).toNatClampNeg then none else (if (x_row (4 + v2).toNatClampNeg) = (-1) then fX8_offOnes_35 n (fX8_offOnes_4 n x_row k) x_row v2 v1 (1 <<< (v2 &&& 31)) else fX8_offOnes_35 n (fX8_offOnes_4 n x_row k) x_row v2 v1 0)))
def fX8_offOnes (n : Nat) (x_row : Nat → Int32) : Option (Int32) :=
  fX8_offOnes_4 n x_row n 0 0

def fX8_slatesThere_24 (n : Nat) (r_4 : Int32 → Int32 → Option (Int32)) (x_sizes : Nat → Int32) (v2 : Int32) (t0 : Int32) (t1 : Int32) : Option (Int32) :=
  r_4 (t0 + t1) (v2 + 1)
def fX8_slatesThere_4 (n : Nat) (x_sizes : Nat → Int32) : Nat → Int32 → Int32 → Option (Int32)
  | 0 => fun _ _ => none
  | k + 1 => fun v1 v2 => (if 4 ≤ v2 then some v1 else (if v2 < 0 ∨ 4 ≤ v2.toNatClampNeg then none else (if 0 ≤ (x_sizes v2.toNatClampNeg) then fX8_slatesThere_24 n (fX8_slatesThere_4 n x_sizes k) x_sizes v2 v1 1 else fX8_slatesThere_24 n (fX8_slatesThere_4 n x_sizes k) x_sizes v2 v1 0)))
def fX8_slatesThere (n : Nat) (x_sizes : Nat → Int32) : Option (Int32) :=
  fX8_slatesThere_4 n x_sizes n 0 0

def fX8_count (n : Nat) (x_row : Nat → Int32) (x_seenMany : Int32) (x_sizes : Nat → Int32) (x_undos : Int32) (x_length : Int32) (v1 : Int32) : Option (Int32) :=
  (if v1 = 0 then some (x_row 23) else (if v1 = 1 then some (x_row 16) else (if v1 = 2 then some (x_row 17) else (if v1 = 3 then some (x_row 15) else (if v1 = 4 then some (x_row 14) else (if v1 = 5 then (fX8_offOnes n x_row).bind fun z7 => some z7 else (if v1 = 6 then (fX8_knownBySome n x_row 0).bind fun z9 => some z9 else (if v1 = 7 then some x_seenMany else (if v1 = 8 then (fX8_slatesThere n x_sizes).bind fun z12 => some z12 else (if v1 = 9 then some x_undos else (if v1 = 10 then some x_length else some (-3))))))))))))

