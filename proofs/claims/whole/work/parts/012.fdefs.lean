def fX4_within (p0 : Int32) (p1 : Int32) (p2 : Int32) : Int32 :=
  (if p0 < p1 then (0 : Int32) else (if p2 < p0 then (0 : Int32) else 1))
theorem zX4_within (p0 : Int32) (p1 : Int32) (p2 : Int32) : fX4_within p0 p1 p2 = 0 ∨ fX4_within p0 p1 p2 = 1 := by
  unfold fX4_within
  repeat' split
  all_goals first | exact Or.inl rfl | exact Or.inr rfl | exact if_z (Or.inr rfl) (Or.inl rfl) | exact if_z (Or.inl rfl) (Or.inr rfl)

def fX4_isPlace (p0 : Int32) : Int32 :=
  (fX4_within p0 0 9)
theorem zX4_isPlace (p0 : Int32) : fX4_isPlace p0 = 0 ∨ fX4_isPlace p0 = 1 := by
  unfold fX4_isPlace
  repeat' split
  all_goals first | exact Or.inl rfl | exact Or.inr rfl | exact if_z (Or.inr rfl) (Or.inl rfl) | exact if_z (Or.inl rfl) (Or.inr rfl) | exact zX4_within _ _ _

def fX4_hasBit (p0 : Int32) (p1 : Int32) : Int32 :=
  (if ((p0 >>> (p1 &&& 31)) &&& 1) = 1 then (1 : Int32) else 0)
theorem zX4_hasBit (p0 : Int32) (p1 : Int32) : fX4_hasBit p0 p1 = 0 ∨ fX4_hasBit p0 p1 = 1 := by
  unfold fX4_hasBit
  repeat' split
  all_goals first | exact Or.inl rfl | exact Or.inr rfl | exact if_z (Or.inr rfl) (Or.inl rfl) | exact if_z (Or.inl rfl) (Or.inr rfl)

def fX4_withBit (p0 : Int32) (p1 : Int32) (p2 : Int32) : Int32 :=
  (if p2 = 0 then (p0 &&& ((1 <<< (p1 &&& 31)) ^^^ (-1))) else (p0 ||| (1 <<< (p1 &&& 31))))

def fX4_firstPerson_L2 (p0 : Int32) : Nat → Nat → Int32
  | 0, k1 =>
    (-6)
  | r1 + 1, k1 =>
    if (fX4_hasBit p0 (nI k1)) = 0 then
      fX4_firstPerson_L2 p0 r1 (k1 + 1)
    else
      (nI k1)
def fX4_firstPerson (p0 : Int32) : Int32 :=
  fX4_firstPerson_L2 p0 (6) 0

def fX4_commonDivisor_L7  : Nat → Nat → Int32 → Int32 → Int32
  | 0, k1, x3_1, x2_1 =>
    x2_1
  | r1 + 1, k1, x3_1, x2_1 =>
    if x3_1 = 0 then
      x2_1
    else
      fX4_commonDivisor_L7 r1 (k1 + 1) (x2_1 - x2_1 / x3_1 * x3_1) x3_1
def fX4_commonDivisor (p0 : Int32) (p1 : Int32) : Int32 :=
  fX4_commonDivisor_L7 (1000) 0 p1 p0

def fX4_fraction (p0 : Int32) (p1 : Int32) (p2 : Int32) : Int64 :=
  if 1 ≤ (fX4_commonDivisor p0 p1) then
    ((if p2 = 0 then p0 else p1) / (fX4_commonDivisor p0 p1)).toInt64
  else
    0

def fJ6_bitCount_0f7a4_x1_x2_x3_x4  (x4 : Int32) : Int32 :=
  (x4 &&& 63)
def fJ6_bitCount_0f7a4_x1_x2_x3  (x3 : Int32) : Int32 :=
  fJ6_bitCount_0f7a4_x1_x2_x3_x4  ((x3 + (x3.toUInt32 >>> ((8 : Int32).toUInt32 &&& Int32.toUInt32 31)).toInt32) + ((x3 + (x3.toUInt32 >>> ((8 : Int32).toUInt32 &&& Int32.toUInt32 31)).toInt32).toUInt32 >>> ((16 : Int32).toUInt32 &&& Int32.toUInt32 31)).toInt32)
def fJ6_bitCount_0f7a4_x1_x2  (x2 : Int32) : Int32 :=
  fJ6_bitCount_0f7a4_x1_x2_x3  ((x2 + (x2.toUInt32 >>> ((4 : Int32).toUInt32 &&& Int32.toUInt32 31)).toInt32) &&& 252645135)
def fJ6_bitCount_0f7a4_x1  (x1 : Int32) : Int32 :=
  fJ6_bitCount_0f7a4_x1_x2  ((x1 &&& 858993459) + ((x1.toUInt32 >>> ((2 : Int32).toUInt32 &&& Int32.toUInt32 31)).toInt32 &&& 858993459))
def fJ6_bitCount_0f7a4 (p0 : Int32) : Int32 :=
  fJ6_bitCount_0f7a4_x1  (p0 - ((p0.toUInt32 >>> ((1 : Int32).toUInt32 &&& Int32.toUInt32 31)).toInt32 &&& 1431655765))

def fJ7_fill_53178_L5s (p0 : Int32) (k1 : Nat) (oz1 : (Nat → Int32)) : (Nat → Int32) :=
  (upd oz1 (nI k1).toNatClampNeg p0)
def fJ7_fill_53178_L5 (p0 : Int32) (ioz1 : (Nat → Int32)) : Nat → (Nat → Int32)
  | 0 => ioz1
  | k1 + 1 => fJ7_fill_53178_L5s p0 k1 (fJ7_fill_53178_L5 p0 ioz1 k1)
def fJ7_fill_53178 (nz : Nat) (oz : Nat → Int32) (p0 : Int32) : (Nat → Int32) :=
  (fJ7_fill_53178_L5 p0 oz (nz))

def fX0_isThere (oc : OV) (p0 : Int32) : Int32 :=
  (if (fX4_within p0 0 5) = 0 then (0 : Int32) else (if (fX4_hasBit (oc.1 2) p0) = 0 then (0 : Int32) else 1))
theorem zX0_isThere (oc : OV) (p0 : Int32) : fX0_isThere oc p0 = 0 ∨ fX0_isThere oc p0 = 1 := by
  unfold fX0_isThere
  repeat' split
  all_goals first | exact Or.inl rfl | exact Or.inr rfl | exact if_z (Or.inr rfl) (Or.inl rfl) | exact if_z (Or.inl rfl) (Or.inr rfl) | exact zX4_within _ _ _ | exact zX4_hasBit _ _

def fX0_umbrellas (oc : OV) : Int32 :=
  ((oc.1 2) &&& ((oc.1 3) ^^^ (-1)))

def fX0_openTimeAt (oc : OV) (p0 : Int32) (p1 : Int32) (p2 : Int32) : Int32 :=
  ((((if 0 ≤ (p0 - p2) then (p0 - p2) else 0 - (p0 - p2)) * (oc.1 0)) + (if (fX4_hasBit (oc.1 5) p0) = 0 then (0 : Int32) else (oc.1 1))) + p1)

def fX0_openTime (oc : OV) (p0 : Int32) (p1 : Int32) : Int32 :=
  (if (fX4_within p0 0 5) = 0 then ((-6) : Int32) else (fX0_openTimeAt oc ((oc.2 7) p0.toNatClampNeg) ((oc.2 8) p0.toNatClampNeg) p1))

def fX0_firstOf_L10s_x8_x9 (x8 : Int32) (x9 : Int32) : Int32 × Int32 :=
  (x9, x8)
def fX0_firstOf_L10s_x8 (oc : OV) (p1 : Int32) (k1 : Nat) (x4_1 : Int32) (x8 : Int32) : Int32 × Int32 :=
  fX0_firstOf_L10s_x8_x9 x8 (if (fX0_openTimeAt oc ((oc.2 7) (nI k1).toNatClampNeg) ((oc.2 8) (nI k1).toNatClampNeg) p1) < x4_1 then (fX0_openTimeAt oc ((oc.2 7) (nI k1).toNatClampNeg) ((oc.2 8) (nI k1).toNatClampNeg) p1) else x4_1)
def fX0_firstOf_L10s (oc : OV) (p0 : Int32) (p1 : Int32) (k1 : Nat) (x4_1 : Int32) (x3_1 : Int32) : Int32 × Int32 :=
  if (fX4_hasBit p0 (nI k1)) = 0 then
    (x4_1, x3_1)
  else
    fX0_firstOf_L10s_x8 oc p1 k1 x4_1 (if x4_1 ≤ (fX0_openTimeAt oc ((oc.2 7) (nI k1).toNatClampNeg) ((oc.2 8) (nI k1).toNatClampNeg) p1) then (if (fX0_openTimeAt oc ((oc.2 7) (nI k1).toNatClampNeg) ((oc.2 8) (nI k1).toNatClampNeg) p1) = x4_1 then (x3_1 ||| (1 <<< ((nI k1) &&& 31))) else x3_1) else (1 <<< ((nI k1) &&& 31)))
def fX0_firstOf_L10 (oc : OV) (p0 : Int32) (p1 : Int32) (ix4_1 : Int32) (ix3_1 : Int32) : Nat → Int32 × Int32
  | 0 => (ix4_1, ix3_1)
  | k1 + 1 => fX0_firstOf_L10s oc p0 p1 k1 (fX0_firstOf_L10 oc p0 p1 ix4_1 ix3_1 k1).1 (fX0_firstOf_L10 oc p0 p1 ix4_1 ix3_1 k1).2
def fX0_firstOf (oc : OV) (p0 : Int32) (p1 : Int32) : Int32 :=
  (fX0_firstOf_L10 oc p0 p1 1000 0 (6)).2

def fX0_rulers (oc : OV) (p0 : Int32) : Int32 :=
  (fX0_firstOf oc (fX0_umbrellas oc) p0)

def fX0_sprinkled_L7s (oc : OV) (p0 : Int32) (k1 : Nat) (x2_1 : Int32) : Int32 :=
  (if ((oc.2 7) (nI k1).toNatClampNeg) = p0 then x2_1 else (fX4_withBit x2_1 (nI k1) 0))
def fX0_sprinkled_L7 (oc : OV) (p0 : Int32) (ix2_1 : Int32) : Nat → Int32
  | 0 => ix2_1
  | k1 + 1 => fX0_sprinkled_L7s oc p0 k1 (fX0_sprinkled_L7 oc p0 ix2_1 k1)
def fX0_sprinkled (oc : OV) (p0 : Int32) : Int32 :=
  (fX0_firstOf oc (fX0_sprinkled_L7 oc p0 (fX0_umbrellas oc) (6)) p0)

def fX0_allWeights_L4s (oc : OV) (k1 : Nat) (x1_1 : Int32) : Int32 :=
  (x1_1 + ((oc.2 9) (nI k1).toNatClampNeg))
def fX0_allWeights_L4 (oc : OV) (ix1_1 : Int32) : Nat → Int32
  | 0 => ix1_1
  | k1 + 1 => fX0_allWeights_L4s oc k1 (fX0_allWeights_L4 oc ix1_1 k1)
def fX0_allWeights (oc : OV) : Int32 :=
  (fX0_allWeights_L4 oc 0 (10))

def fX0_allShares (oc : OV) : Int32 :=
  ((fX0_allWeights oc) * 60)

def fX0_shareOf_L4s_x4  (x4 : Int32) : Int32 :=
  x4
def fX0_shareOf_L4s (oc : OV) (p0 : Int32) (k1 : Nat) (x2_1 : Int32) : Int32 :=
  if (fJ6_bitCount_0f7a4 (fX0_firstOf oc (fX0_umbrellas oc) (nI k1))) ≤ 0 then
    x2_1
  else
    fX0_shareOf_L4s_x4  (x2_1 + ((((oc.2 9) (nI k1).toNatClampNeg) * (60 / (fJ6_bitCount_0f7a4 (fX0_firstOf oc (fX0_umbrellas oc) (nI k1))))) * (fJ6_bitCount_0f7a4 ((fX0_firstOf oc (fX0_umbrellas oc) (nI k1)) &&& p0))))
def fX0_shareOf_L4 (oc : OV) (p0 : Int32) (ix2_1 : Int32) : Nat → Int32
  | 0 => ix2_1
  | k1 + 1 => fX0_shareOf_L4s oc p0 k1 (fX0_shareOf_L4 oc p0 ix2_1 k1)
def fX0_shareOf (oc : OV) (p0 : Int32) : Int32 :=
  (fX0_shareOf_L4 oc p0 0 (10))

def fX0_fitsSights_L2 (oc : OV) (p0 : Int32) : Nat → Nat → Int32
  | 0, k1 =>
    if (oc.1 6) ≤ (nI k1) then
      1
    else
      1
  | r1 + 1, k1 =>
    if (oc.1 6) ≤ (nI k1) then
      1
    else
      let x12 : Int32 := (if ((oc.2 10) (nI k1).toNatClampNeg) = 0 then (if p0 = ((oc.2 11) (nI k1).toNatClampNeg) then (1 : Int32) else 0) else (if (fX4_hasBit p0 ((oc.2 11) (nI k1).toNatClampNeg)) = (if ((oc.2 10) (nI k1).toNatClampNeg) = 1 then (1 : Int32) else 0) then (1 : Int32) else 0))
      if x12 = 0 then
        0
      else
        fX0_fitsSights_L2 oc p0 r1 (k1 + 1)
def fX0_fitsSights (oc : OV) (p0 : Int32) : Int32 :=
  fX0_fitsSights_L2 oc p0 (6) 0

def fX0_put (oc : OV) (p0 : Int32) (p1 : Int32) (p2 : Int32) : OV :=
  if (fX4_within p0 0 5) = 0 then
    oc
  else
    (ua (ua oc 7 p0.toNatClampNeg p1) 8 p0.toNatClampNeg p2)

def fX0_addSight (oc : OV) (p0 : Int32) (p1 : Int32) : (Int32 × OV) :=
  if (fX4_within (oc.1 6) 0 5) = 0 then
    ((0 : Int32), oc)
  else
    ((1 : Int32), (us (ua (ua oc 10 (oc.1 6).toNatClampNeg p0) 11 (oc.1 6).toNatClampNeg p1) 6 ((oc.1 6) + 1)))

def fX0_copyFrom (ou : OV) (oc : OV) : OV :=
  (ub (ub (ub (ub (ub (us (us (us (us (us (us (us ou 0 (oc.1 0)) 1 (oc.1 1)) 2 (oc.1 2)) 3 (oc.1 3)) 4 (oc.1 4)) 5 (oc.1 5)) 6 (oc.1 6)) 7 (va_cpy (oc.2 7) (ou.2 7) (0 : Int32).toNatClampNeg (0 : Int32).toNatClampNeg (6 : Int32).toNatClampNeg)) 8 (va_cpy (oc.2 8) (ou.2 8) (0 : Int32).toNatClampNeg (0 : Int32).toNatClampNeg (6 : Int32).toNatClampNeg)) 9 (va_cpy (oc.2 9) (ou.2 9) (0 : Int32).toNatClampNeg (0 : Int32).toNatClampNeg (10 : Int32).toNatClampNeg)) 10 (va_cpy (oc.2 10) (ou.2 10) (0 : Int32).toNatClampNeg (0 : Int32).toNatClampNeg (6 : Int32).toNatClampNeg)) 11 (va_cpy (oc.2 11) (ou.2 11) (0 : Int32).toNatClampNeg (0 : Int32).toNatClampNeg (6 : Int32).toNatClampNeg))

def fX2_takesAnother (p0 : Int32) : Int32 :=
  (if p0 = 33 then (1 : Int32) else (if p0 = 45 then (1 : Int32) else (if p0 = 126 then (1 : Int32) else 0)))
theorem zX2_takesAnother (p0 : Int32) : fX2_takesAnother p0 = 0 ∨ fX2_takesAnother p0 = 1 := by
  unfold fX2_takesAnother
  repeat' split
  all_goals first | exact Or.inl rfl | exact Or.inr rfl | exact if_z (Or.inr rfl) (Or.inl rfl) | exact if_z (Or.inl rfl) (Or.inr rfl)

def fX2_canBegin (p0 : Int32) : Int32 :=
  (if (fX4_within p0 48 57) = 0 then (if p0 = 46 then (1 : Int32) else (if (fX2_takesAnother p0) = 0 then (0 : Int32) else 1)) else 1)
theorem zX2_canBegin (p0 : Int32) : fX2_canBegin p0 = 0 ∨ fX2_canBegin p0 = 1 := by
  unfold fX2_canBegin
  repeat' split
  all_goals first | exact Or.inl rfl | exact Or.inr rfl | exact if_z (Or.inr rfl) (Or.inl rfl) | exact if_z (Or.inl rfl) (Or.inr rfl) | exact zX4_within _ _ _ | exact zX2_takesAnother _

def fX2_canFollow (p0 : Int32) (p1 : Int32) : Int32 :=
  if p0 = 33 then
    (fX4_within p1 48 57)
  else
    if p0 = 45 then
      (fX4_within p1 49 57)
    else
      (fX4_within p1 65 70)
theorem zX2_canFollow (p0 : Int32) (p1 : Int32) : fX2_canFollow p0 p1 = 0 ∨ fX2_canFollow p0 p1 = 1 := by
  unfold fX2_canFollow
  repeat' split
  all_goals first | exact Or.inl rfl | exact Or.inr rfl | exact if_z (Or.inr rfl) (Or.inl rfl) | exact if_z (Or.inl rfl) (Or.inr rfl) | exact zX4_within _ _ _

def fX2_sign (og : OV) (p0 : Int32) : Int32 :=
  (if (fX4_within p0 0 39) = 0 then (0 : Int32) else ((og.2 0) p0.toNatClampNeg))

def fX2_write (og : OV) (p0 : Int32) : (Int32 × OV) :=
  if (fX4_within (og.1 1) 0 39) = 0 then
    ((0 : Int32), og)
  else
    ((1 : Int32), (us (ua og 0 (og.1 1).toNatClampNeg p0) 1 ((og.1 1) + 1)))

def fX2_firstFault_L4 (og : OV) : Nat → Nat → Int32 → Int32
  | 0, k1, x1_1 =>
    (if x1_1 = 0 then ((-6) : Int32) else (og.1 1))
  | r1 + 1, k1, x1_1 =>
    let x5 : Int32 := (if x1_1 = 0 then (fX2_canBegin (fX2_sign og (nI k1))) else (fX2_canFollow x1_1 (fX2_sign og (nI k1))))
    if x5 = 0 then
      (nI k1)
    else
      let x11 : Int32 := (if x1_1 = 0 then (if (fX2_takesAnother (fX2_sign og (nI k1))) = 0 then (0 : Int32) else (fX2_sign og (nI k1))) else 0)
      fX2_firstFault_L4 og r1 (k1 + 1) x11
def fX2_firstFault (og : OV) : Int32 :=
  fX2_firstFault_L4 og ((og.1 1).toNatClampNeg) 0 0

def fX2_parts_L4s (og : OV) (k1 : Nat) (x1_1 : Int32) : Int32 :=
  if (fX2_takesAnother (fX2_sign og (nI k1))) = 0 then
    (x1_1 + 1)
  else
    x1_1
def fX2_parts_L4 (og : OV) (ix1_1 : Int32) : Nat → Int32
  | 0 => ix1_1
  | k1 + 1 => fX2_parts_L4s og k1 (fX2_parts_L4 og ix1_1 k1)
def fX2_parts (og : OV) : Int32 :=
  (fX2_parts_L4 og 0 ((og.1 1).toNatClampNeg))

def fX1_begin (oy : OV) (od : OV) (oc : OV) : (OV × OV) :=
  ((fX0_copyFrom od oc), (ub (us (us oy 2 0) 3 0) 1 (fJ7_fill_53178 9 (oy.2 1) 0)))

def fX1_become (oy : OV) (p0 : Int32) : OV :=
  if p0 = (oy.1 2) then
    (us oy 2 p0)
  else
    if p0 = 0 then
      (us oy 2 p0)
    else
      (us (us oy 3 ((oy.1 3) + 1)) 2 p0)

def fX1_opened (oy : OV) (p0 : Int32) : OV :=
  if p0 = 0 then
    oy
  else
    (fX1_become oy p0)

def fX1_rain (oy : OV) (od : OV) (p0 : Int32) : OV :=
  (fX1_opened oy (fX0_firstOf od (fX0_umbrellas od) p0))

def fX1_breakUmbrella (oy : OV) (od : OV) (p0 : Int32) : (OV × OV) :=
  ((us od 3 (fX4_withBit (od.1 3) p0 1)), (fX1_become oy (fX4_withBit (oy.1 2) p0 0)))

def fX1_pass_L2s (p0 : Int32) (k1 : Nat) (oy1 : OV) : OV :=
  (ua oy1 1 (nI k1).toNatClampNeg (((oy1.2 1) (nI k1).toNatClampNeg) + (if (fX4_hasBit (oy1.1 2) (nI k1)) = 0 then (0 : Int32) else p0)))
def fX1_pass_L2 (p0 : Int32) (ioy1 : OV) : Nat → OV
  | 0 => ioy1
  | k1 + 1 => fX1_pass_L2s p0 k1 (fX1_pass_L2 p0 ioy1 k1)
def fX1_pass (oy : OV) (od : OV) (p0 : Int32) : OV :=
  (ua (ua (ua (fX1_pass_L2 p0 oy (6)) 1 ((6 : Int32).toNatClampNeg) ((((fX1_pass_L2 p0 oy (6)).2 1) (6 : Int32).toNatClampNeg) + (if (((fX1_pass_L2 p0 oy (6)).1 2) &&& ((od.1 4) ^^^ (-1))) = 0 then (0 : Int32) else p0))) 1 ((7 : Int32).toNatClampNeg) ((((ua (fX1_pass_L2 p0 oy (6)) 1 ((6 : Int32).toNatClampNeg) ((((fX1_pass_L2 p0 oy (6)).2 1) (6 : Int32).toNatClampNeg) + (if (((fX1_pass_L2 p0 oy (6)).1 2) &&& ((od.1 4) ^^^ (-1))) = 0 then (0 : Int32) else p0))).2 1) (7 : Int32).toNatClampNeg) + (if (((fX1_pass_L2 p0 oy (6)).1 2) &&& (od.1 4)) = 0 then (0 : Int32) else p0))) 1 ((8 : Int32).toNatClampNeg) ((((ua (ua (fX1_pass_L2 p0 oy (6)) 1 ((6 : Int32).toNatClampNeg) ((((fX1_pass_L2 p0 oy (6)).2 1) (6 : Int32).toNatClampNeg) + (if (((fX1_pass_L2 p0 oy (6)).1 2) &&& ((od.1 4) ^^^ (-1))) = 0 then (0 : Int32) else p0))) 1 ((7 : Int32).toNatClampNeg) ((((ua (fX1_pass_L2 p0 oy (6)) 1 ((6 : Int32).toNatClampNeg) ((((fX1_pass_L2 p0 oy (6)).2 1) (6 : Int32).toNatClampNeg) + (if (((fX1_pass_L2 p0 oy (6)).1 2) &&& ((od.1 4) ^^^ (-1))) = 0 then (0 : Int32) else p0))).2 1) (7 : Int32).toNatClampNeg) + (if (((fX1_pass_L2 p0 oy (6)).1 2) &&& (od.1 4)) = 0 then (0 : Int32) else p0))).2 1) (8 : Int32).toNatClampNeg) + (if ((fX1_pass_L2 p0 oy (6)).1 2) = 0 then p0 else 0)))

def fX1_yearsOf (oy : OV) (p0 : Int32) : Int32 :=
  (if (fX4_within p0 0 8) = 0 then (0 : Int32) else ((oy.2 1) p0.toNatClampNeg))

def fX1_happen (oy : OV) (od : OV) (p0 : Int32) (p1 : Int32) : (OV × OV) :=
  if p0 = 33 then
    (od, (fX1_opened oy (fX0_sprinkled od (p1 - 48))))
  else
    if p0 = 45 then
      (od, (fX1_pass (fX1_become oy 0) od (p1 - 48)))
    else
      if p0 = 126 then
        ((fX1_breakUmbrella oy od (p1 - 65)).1, (fX1_breakUmbrella oy od (p1 - 65)).2)
      else
        if p1 = 46 then
          (od, (fX1_pass oy od 1))
        else
          (od, (fX1_rain oy od (p1 - 48)))

def fX1_play_L14 (og : OV) (p0 : Int32) : Nat → Nat → Int32 → Int32 → OV → OV → (OV × OV)
  | 0, k1, x5_1, x4_1, od1, oy1 =>
    (od1, oy1)
  | r1 + 1, k1, x5_1, x4_1, od1, oy1 =>
    if p0 ≤ x5_1 then
      (od1, oy1)
    else
      if (fX2_takesAnother (fX2_sign og (nI k1))) = 0 then
        fX1_play_L14 og p0 r1 (k1 + 1) (x5_1 + 1) 0 ((fX1_happen oy1 od1 x4_1 (fX2_sign og (nI k1))).1) ((fX1_happen oy1 od1 x4_1 (fX2_sign og (nI k1))).2)
      else
        fX1_play_L14 og p0 r1 (k1 + 1) x5_1 (fX2_sign og (nI k1)) od1 oy1
def fX1_play (oy : OV) (od : OV) (oc : OV) (og : OV) (p0 : Int32) : (OV × OV) :=
  fX1_play_L14 og p0 ((og.1 1).toNatClampNeg) 0 0 0 ((fX1_begin oy od oc).1) ((fX1_begin oy od oc).2)

def fX3_pair (p0 : Int32) (p1 : Int32) (p2 : Int32) : Int32 :=
  ((((p0 * 10) + p1) * 10) + p2)

def fX3_keep (ow : OV) (p0 : Int32) (p1 : Int32) (p2 : Int32) : OV :=
  (ua (ua ow 3 p0.toNatClampNeg p1) 4 p2.toNatClampNeg (if ((ow.2 4) p2.toNatClampNeg) < p1 then p1 else ((ow.2 4) p2.toNatClampNeg)))

def fX3_fillTimes_L13s (oc : OV) (p0 : Int32) (p1 : Int32) (k1 : Nat) (k3 : Nat) (ow3 : OV) : OV :=
  (ua ow3 2 (fX3_pair p1 (nI k1) (nI k3)).toNatClampNeg (fX0_openTimeAt oc (nI k1) p0 (nI k3)))
def fX3_fillTimes_L13 (oc : OV) (p0 : Int32) (p1 : Int32) (k1 : Nat) (iow3 : OV) : Nat → OV
  | 0 => iow3
  | k3 + 1 => fX3_fillTimes_L13s oc p0 p1 k1 k3 (fX3_fillTimes_L13 oc p0 p1 k1 iow3 k3)
def fX3_fillTimes_L3s (oc : OV) (p0 : Int32) (p1 : Int32) (k1 : Nat) (ow1 : OV) : OV :=
  (fX3_fillTimes_L13 oc p0 p1 k1 ow1 (10))
def fX3_fillTimes_L3 (oc : OV) (p0 : Int32) (p1 : Int32) (iow1 : OV) : Nat → OV
  | 0 => iow1
  | k1 + 1 => fX3_fillTimes_L3s oc p0 p1 k1 (fX3_fillTimes_L3 oc p0 p1 iow1 k1)
def fX3_fillTimes (ow : OV) (oc : OV) (p0 : Int32) (p1 : Int32) : OV :=
  (fX3_fillTimes_L3 oc p0 p1 ow (10))

def fX3_fillSlots_L19 (oc : OV) : Nat → Nat → Int32 → OV → OV
  | 0, k1, x2_1, ow1 =>
    ow1
  | r1 + 1, k1, x2_1, ow1 =>
    if x2_1 < 0 then
      ow1
    else
      if (fX0_isThere oc (dn 5 k1)) = 0 then
        fX3_fillSlots_L19 oc r1 (k1 + 1) x2_1 ow1
      else
        if (fX4_hasBit (oc.1 3) (dn 5 k1)) = 0 then
          fX3_fillSlots_L19 oc r1 (k1 + 1) (x2_1 + (-1)) (us (fX3_fillTimes ow1 oc ((oc.2 8) (dn 5 k1).toNatClampNeg) x2_1) 0 (((fX3_fillTimes ow1 oc ((oc.2 8) (dn 5 k1).toNatClampNeg) x2_1).1 0) * 10))
        else
          fX3_fillSlots_L19 oc r1 (k1 + 1) (x2_1 + (-1)) (us ow1 0 ((ow1.1 0) * 10))
def fX3_fillSlots (ow : OV) (oc : OV) : OV :=
  fX3_fillSlots_L19 oc (6) 0 2 (us (ub ow 2 (fJ7_fill_53178 300 (ow.2 2) 1000)) 0 1)

def fX3_weighRow_L56s_x3_x10_x15_x18_x21 (x15 : Int32) (x18 : Int32) (x21 : Int32) : Int32 × Int32 × Int32 :=
  (x21, x18, x15)
def fX3_weighRow_L56s_x3_x10_x15_x18 (ow : OV) (p0 : Int32) (k1 : Nat) (x10_1 : Int32) (x3 : Int32) (x10 : Int32) (x15 : Int32) (x18 : Int32) : Int32 × Int32 × Int32 :=
  fX3_weighRow_L56s_x3_x10_x15_x18_x21 x15 x18 (x10_1 + (if ((ow.2 2) ((fX3_pair 2 (p0 - p0 / 10 * 10) 0) + (nI k1)).toNatClampNeg) = x3 then (((ow.2 1) (nI k1).toNatClampNeg) * (60 / x10)) else 0))
def fX3_weighRow_L56s_x3_x10_x15 (ow : OV) (p0 : Int32) (k1 : Nat) (x10_1 : Int32) (x9_1 : Int32) (x3 : Int32) (x10 : Int32) (x15 : Int32) : Int32 × Int32 × Int32 :=
  fX3_weighRow_L56s_x3_x10_x15_x18 ow p0 k1 x10_1 x3 x10 x15 (x9_1 + (if ((ow.2 2) ((fX3_pair 1 ((p0 / 10) - (p0 / 10) / 10 * 10) 0) + (nI k1)).toNatClampNeg) = x3 then (((ow.2 1) (nI k1).toNatClampNeg) * (60 / x10)) else 0))
def fX3_weighRow_L56s_x3_x10 (ow : OV) (p0 : Int32) (k1 : Nat) (x10_1 : Int32) (x9_1 : Int32) (x8_1 : Int32) (x3 : Int32) (x10 : Int32) : Int32 × Int32 × Int32 :=
  if x3 = 1000 then
    (x10_1, x9_1, x8_1)
  else
    if 1 ≤ x10 then
      fX3_weighRow_L56s_x3_x10_x15 ow p0 k1 x10_1 x9_1 x3 x10 (x8_1 + (if ((ow.2 2) ((fX3_pair 0 (p0 / 100) 0) + (nI k1)).toNatClampNeg) = x3 then (((ow.2 1) (nI k1).toNatClampNeg) * (60 / x10)) else 0))
    else
      (x10_1, x9_1, x8_1)
def fX3_weighRow_L56s_x3 (ow : OV) (p0 : Int32) (k1 : Nat) (x10_1 : Int32) (x9_1 : Int32) (x8_1 : Int32) (x3 : Int32) : Int32 × Int32 × Int32 :=
  fX3_weighRow_L56s_x3_x10 ow p0 k1 x10_1 x9_1 x8_1 x3 (((if ((ow.2 2) ((fX3_pair 0 (p0 / 100) 0) + (nI k1)).toNatClampNeg) = x3 then (1 : Int32) else 0) + (if ((ow.2 2) ((fX3_pair 1 ((p0 / 10) - (p0 / 10) / 10 * 10) 0) + (nI k1)).toNatClampNeg) = x3 then (1 : Int32) else 0)) + (if ((ow.2 2) ((fX3_pair 2 (p0 - p0 / 10 * 10) 0) + (nI k1)).toNatClampNeg) = x3 then (1 : Int32) else 0))
def fX3_weighRow_L56s (ow : OV) (p0 : Int32) (k1 : Nat) (x10_1 : Int32) (x9_1 : Int32) (x8_1 : Int32) : Int32 × Int32 × Int32 :=
  fX3_weighRow_L56s_x3 ow p0 k1 x10_1 x9_1 x8_1 (if (if ((ow.2 2) ((fX3_pair 2 (p0 - p0 / 10 * 10) 0) + (nI k1)).toNatClampNeg) < ((ow.2 2) ((fX3_pair 1 ((p0 / 10) - (p0 / 10) / 10 * 10) 0) + (nI k1)).toNatClampNeg) then ((ow.2 2) ((fX3_pair 2 (p0 - p0 / 10 * 10) 0) + (nI k1)).toNatClampNeg) else ((ow.2 2) ((fX3_pair 1 ((p0 / 10) - (p0 / 10) / 10 * 10) 0) + (nI k1)).toNatClampNeg)) < ((ow.2 2) ((fX3_pair 0 (p0 / 100) 0) + (nI k1)).toNatClampNeg) then (if ((ow.2 2) ((fX3_pair 2 (p0 - p0 / 10 * 10) 0) + (nI k1)).toNatClampNeg) < ((ow.2 2) ((fX3_pair 1 ((p0 / 10) - (p0 / 10) / 10 * 10) 0) + (nI k1)).toNatClampNeg) then ((ow.2 2) ((fX3_pair 2 (p0 - p0 / 10 * 10) 0) + (nI k1)).toNatClampNeg) else ((ow.2 2) ((fX3_pair 1 ((p0 / 10) - (p0 / 10) / 10 * 10) 0) + (nI k1)).toNatClampNeg)) else ((ow.2 2) ((fX3_pair 0 (p0 / 100) 0) + (nI k1)).toNatClampNeg))
def fX3_weighRow_L56 (ow : OV) (p0 : Int32) (ix10_1 : Int32) (ix9_1 : Int32) (ix8_1 : Int32) : Nat → Int32 × Int32 × Int32
  | 0 => (ix10_1, ix9_1, ix8_1)
  | k1 + 1 => fX3_weighRow_L56s ow p0 k1 (fX3_weighRow_L56 ow p0 ix10_1 ix9_1 ix8_1 k1).1 (fX3_weighRow_L56 ow p0 ix10_1 ix9_1 ix8_1 k1).2.1 (fX3_weighRow_L56 ow p0 ix10_1 ix9_1 ix8_1 k1).2.2
def fX3_weighRow (ow : OV) (p0 : Int32) : OV :=
  (fX3_keep (fX3_keep (fX3_keep ow p0 ((fX3_weighRow_L56 ow p0 0 0 0 (10)).2.2) (fX3_pair 0 ((p0 / 10) - (p0 / 10) / 10 * 10) (p0 - p0 / 10 * 10))) (1000 + p0) ((fX3_weighRow_L56 ow p0 0 0 0 (10)).2.1) (fX3_pair 1 (p0 / 100) (p0 - p0 / 10 * 10))) (2000 + p0) ((fX3_weighRow_L56 ow p0 0 0 0 (10)).1) (fX3_pair 2 (p0 / 100) ((p0 / 10) - (p0 / 10) / 10 * 10)))

def fX3_isRest (ow : OV) (p0 : Int32) : Int32 :=
  (if ((ow.2 3) p0.toNatClampNeg) = ((ow.2 4) (fX3_pair 0 ((p0 / 10) - (p0 / 10) / 10 * 10) (p0 - p0 / 10 * 10)).toNatClampNeg) then (if ((ow.2 3) (1000 + p0).toNatClampNeg) = ((ow.2 4) (fX3_pair 1 (p0 / 100) (p0 - p0 / 10 * 10)).toNatClampNeg) then (if ((ow.2 3) (2000 + p0).toNatClampNeg) = ((ow.2 4) (fX3_pair 2 (p0 / 100) ((p0 / 10) - (p0 / 10) / 10 * 10)).toNatClampNeg) then (1 : Int32) else 0) else 0) else 0)
theorem zX3_isRest (ow : OV) (p0 : Int32) : fX3_isRest ow p0 = 0 ∨ fX3_isRest ow p0 = 1 := by
  unfold fX3_isRest
  repeat' split
  all_goals first | exact Or.inl rfl | exact Or.inr rfl | exact if_z (Or.inr rfl) (Or.inl rfl) | exact if_z (Or.inl rfl) (Or.inr rfl)

def fX3_weigh_L30  : Nat → Nat → OV → OV
  | 0, k1, ow1 =>
    if (ow1.1 0) ≤ (nI k1) then
      ow1
    else
      ow1
  | r1 + 1, k1, ow1 =>
    if (ow1.1 0) ≤ (nI k1) then
      ow1
    else
      fX3_weigh_L30 r1 (k1 + 1) (fX3_weighRow ow1 (nI k1))
def fX3_weigh (ow : OV) (oc : OV) : OV :=
  fX3_weigh_L30 (1000) 0 (fX3_fillSlots (ub (ub ow 1 (va_cpy (oc.2 9) (ow.2 1) (0 : Int32).toNatClampNeg (0 : Int32).toNatClampNeg (10 : Int32).toNatClampNeg)) 4 (fJ7_fill_53178 300 (ow.2 4) 0)) oc)

def fX3_howMany_L4 (ow : OV) : Nat → Nat → Int32 → Int32
  | 0, k1, x1_1 =>
    if (ow.1 0) ≤ (nI k1) then
      x1_1
    else
      x1_1
  | r1 + 1, k1, x1_1 =>
    if (ow.1 0) ≤ (nI k1) then
      x1_1
    else
      fX3_howMany_L4 ow r1 (k1 + 1) (x1_1 + (if (fX3_isRest ow (nI k1)) = 0 then (0 : Int32) else 1))
def fX3_howMany (ow : OV) : Int32 :=
  fX3_howMany_L4 ow (1000) 0 0

def fX3_row_L4 (ow : OV) (p0 : Int32) : Nat → Nat → Int32 → Int32
  | 0, k1, x2_1 =>
    if (ow.1 0) ≤ (nI k1) then
      (-6)
    else
      (-6)
  | r1 + 1, k1, x2_1 =>
    if (ow.1 0) ≤ (nI k1) then
      (-6)
    else
      if (fX3_isRest ow (nI k1)) = 0 then
        fX3_row_L4 ow p0 r1 (k1 + 1) x2_1
      else
        if x2_1 = p0 then
          (nI k1)
        else
          fX3_row_L4 ow p0 r1 (k1 + 1) (x2_1 + 1)
def fX3_row (ow : OV) (p0 : Int32) : Int32 :=
  fX3_row_L4 ow p0 (1000) 0 0

def fX4_stand (oc : OV) (p0 : Int32) (p1 : Int32) (p2 : Int32) (p3 : Int32) (p4 : Int32) : (Int32 × OV) :=
  if (fX4_within p0 0 5) = 0 then
    (((-1) : Int32), oc)
  else
    if (fX4_isPlace p1) = 0 then
      (((-1) : Int32), oc)
    else
      if (fX4_within p2 0 9) = 0 then
        (((-2) : Int32), oc)
      else
        if (fX4_within p3 0 1) = 0 then
          (((-2) : Int32), oc)
        else
          ((fJ6_bitCount_0f7a4 (fX4_withBit ((fX0_put oc p0 p1 p2).1 2) p0 1)), (us (us (us (fX0_put oc p0 p1 p2) 2 (fX4_withBit ((fX0_put oc p0 p1 p2).1 2) p0 1)) 4 (fX4_withBit ((fX0_put oc p0 p1 p2).1 4) p0 (if p3 = 1 then (1 : Int32) else 0))) 3 (fX4_withBit ((fX0_put oc p0 p1 p2).1 3) p0 p4)))

def fX4_leave (oc : OV) (p0 : Int32) : (Int32 × OV) :=
  if (fX0_isThere oc p0) = 0 then
    (((-1) : Int32), oc)
  else
    ((fJ6_bitCount_0f7a4 (fX4_withBit (oc.1 2) p0 0)), (us oc 2 (fX4_withBit (oc.1 2) p0 0)))

def fX4_table (oc : OV) (p0 : Int32) (p1 : Int32) : (Int32 × OV) :=
  if (fX4_isPlace p0) = 0 then
    (((-1) : Int32), oc)
  else
    ((1 : Int32), (us oc 5 (fX4_withBit (oc.1 5) p0 p1)))

def fX4_set (oc : OV) (p0 : Int32) (p1 : Int32) : (Int32 × OV) :=
  if p0 = 0 then
    if (fX4_within p1 1 9) = 0 then
      if p0 = 1 then
        if (fX4_within p1 0 9) = 0 then
          (((-2) : Int32), oc)
        else
          ((oc.1 1), (us oc 1 p1))
      else
        (((-2) : Int32), oc)
    else
      ((oc.1 0), (us oc 0 p1))
  else
    if p0 = 1 then
      if (fX4_within p1 0 9) = 0 then
        (((-2) : Int32), oc)
      else
        ((oc.1 1), (us oc 1 p1))
    else
      (((-2) : Int32), oc)

def fX4_say (og : OV) (p0 : Int32) : (Int32 × OV) :=
  if (fX4_within p0 33 126) = 0 then
    (((-2) : Int32), og)
  else
    ((if (fX2_write og p0).1 = 0 then ((-4) : Int32) else ((fX2_write og p0).2.1 1)), (fX2_write og p0).2)

def fX4_wipe (og : OV) : (Int32 × OV) :=
  ((og.1 1), (us og 1 0))

def fX4_fault (og : OV) : Int32 :=
  (fX2_firstFault og)

def fX4_rules (oc : OV) (p0 : Int32) (p1 : Int32) : Int32 :=
  if (fX4_isPlace p0) = 0 then
    (-1)
  else
    if (fX4_within p1 0 1) = 0 then
      (-2)
    else
      if (fX0_rulers oc p0) = 0 then
        (-6)
      else
        (if p1 = 0 then (fX0_rulers oc p0) else (fX0_openTime oc (fX4_firstPerson (fX0_rulers oc p0)) p0))

def fX4_opens (oc : OV) (p0 : Int32) (p1 : Int32) : Int32 :=
  if (fX0_isThere oc p0) = 0 then
    (-1)
  else
    if (fX4_isPlace p1) = 0 then
      (-1)
    else
      (if (fX4_hasBit (oc.1 3) p0) = 0 then (fX0_openTime oc p0 p1) else (-6))

def fX4_never_L10s (oc : OV) (k1 : Nat) (x1_1 : Int32) : Int32 :=
  (x1_1 &&& ((fX0_rulers oc (nI k1)) ^^^ (-1)))
def fX4_never_L10 (oc : OV) (ix1_1 : Int32) : Nat → Int32
  | 0 => ix1_1
  | k1 + 1 => fX4_never_L10s oc k1 (fX4_never_L10 oc ix1_1 k1)
def fX4_never (oc : OV) : Int32 :=
  (fX4_never_L10 oc (oc.1 2) (10))

def fX4_reign (oc : OV) (og : OV) (oy : OV) (od : OV) (p0 : Int32) : (Int32 × OV × OV) :=
  if (fX2_firstFault og) = (-6) then
    if (fX4_within p0 (-1) (fX2_parts og)) = 0 then
      (((-2) : Int32), od, oy)
    else
      ((if ((fX1_play oy od oc og (if p0 = (-1) then (fX2_parts og) else p0)).2.1 2) = 0 then ((-6) : Int32) else ((fX1_play oy od oc og (if p0 = (-1) then (fX2_parts og) else p0)).2.1 2)), (fX1_play oy od oc og (if p0 = (-1) then (fX2_parts og) else p0)).1, (fX1_play oy od oc og (if p0 = (-1) then (fX2_parts og) else p0)).2)
  else
    (((-5) : Int32), od, oy)

def fX4_years (oc : OV) (og : OV) (oy : OV) (od : OV) (p0 : Int32) : (Int32 × OV × OV) :=
  if (fX2_firstFault og) = (-6) then
    if (fX4_within p0 0 9) = 0 then
      (((-2) : Int32), od, oy)
    else
      ((if p0 = 9 then ((fX1_play oy od oc og (fX2_parts og)).2.1 3) else (fX1_yearsOf ((fX1_play oy od oc og (fX2_parts og)).2) p0)), (fX1_play oy od oc og (fX2_parts og)).1, (fX1_play oy od oc og (fX2_parts og)).2)
  else
    (((-5) : Int32), od, oy)

def fX4_weight (oc : OV) (p0 : Int32) (p1 : Int32) : (Int32 × OV) :=
  if (fX4_isPlace p0) = 0 then
    (((-1) : Int32), oc)
  else
    if (fX4_within p1 0 9) = 0 then
      (((-2) : Int32), oc)
    else
      if 1 ≤ (((fX0_allWeights oc) - ((oc.2 9) p0.toNatClampNeg)) + p1) then
        (((oc.2 9) p0.toNatClampNeg), (ua oc 9 p0.toNatClampNeg p1))
      else
        (((-2) : Int32), oc)

def fX4_chance_x7 (oc : OV) (p1 : Int32) (x7 : Int32) : Int64 :=
  (fX4_fraction (fX0_shareOf oc x7) (fX0_allShares oc) p1)
def fX4_chance_x14 (oc : OV) (p1 : Int32) (x14 : Int32) : Int64 :=
  (fX4_fraction (fX0_shareOf oc x14) (fX0_allShares oc) p1)
def fX4_chance_x21 (oc : OV) (p1 : Int32) (x21 : Int32) : Int64 :=
  (fX4_fraction (fX0_shareOf oc x21) (fX0_allShares oc) p1)
def fX4_chance (oc : OV) (p0 : Int32) (p1 : Int32) : Int64 :=
  if p0 = 6 then
    if (fX4_within p1 0 1) = 0 then
      (-1000000000000000002)
    else
      fX4_chance_x7 oc p1 (if p0 = 6 then ((oc.1 4) ^^^ (-1)) else (if p0 = 7 then (oc.1 4) else (1 <<< (p0 &&& 31))))
  else
    if p0 = 7 then
      if (fX4_within p1 0 1) = 0 then
        (-1000000000000000002)
      else
        fX4_chance_x14 oc p1 (if p0 = 6 then ((oc.1 4) ^^^ (-1)) else (if p0 = 7 then (oc.1 4) else (1 <<< (p0 &&& 31))))
    else
      if (fX0_isThere oc p0) = 0 then
        (-1000000000000000001)
      else
        if (fX4_within p1 0 1) = 0 then
          (-1000000000000000002)
        else
          fX4_chance_x21 oc p1 (if p0 = 6 then ((oc.1 4) ^^^ (-1)) else (if p0 = 7 then (oc.1 4) else (1 <<< (p0 &&& 31))))

def fX4_trialShare (oc : OV) (ou : OV) (p0 : Int32) (p1 : Int32) (p2 : Int32) : (Int32 × OV) :=
  ((fX0_shareOf (fX0_put (fX0_copyFrom ou oc) p0 p1 p2) (1 <<< (p0 &&& 31))), (fX0_put (fX0_copyFrom ou oc) p0 p1 p2))

def fX4_bestPlace_L7s (oc : OV) (p0 : Int32) (k1 : Nat) (x3_1 : Int32) (x2_1 : Int32) (ou1 : OV) : Int32 × Int32 × OV :=
  if (fX4_trialShare oc ou1 p0 (nI k1) ((oc.2 8) p0.toNatClampNeg)).1 ≤ x3_1 then
    (x3_1, x2_1, (fX4_trialShare oc ou1 p0 (nI k1) ((oc.2 8) p0.toNatClampNeg)).2)
  else
    ((fX4_trialShare oc ou1 p0 (nI k1) ((oc.2 8) p0.toNatClampNeg)).1, (nI k1), (fX4_trialShare oc ou1 p0 (nI k1) ((oc.2 8) p0.toNatClampNeg)).2)
def fX4_bestPlace_L7 (oc : OV) (p0 : Int32) (ix3_1 : Int32) (ix2_1 : Int32) (iou1 : OV) : Nat → Int32 × Int32 × OV
  | 0 => (ix3_1, ix2_1, iou1)
  | k1 + 1 => fX4_bestPlace_L7s oc p0 k1 (fX4_bestPlace_L7 oc p0 ix3_1 ix2_1 iou1 k1).1 (fX4_bestPlace_L7 oc p0 ix3_1 ix2_1 iou1 k1).2.1 (fX4_bestPlace_L7 oc p0 ix3_1 ix2_1 iou1 k1).2.2
def fX4_bestPlace (oc : OV) (ou : OV) (p0 : Int32) : (Int32 × OV) :=
  ((fX4_bestPlace_L7 oc p0 (-1) 0 ou (10)).2.1, (fX4_bestPlace_L7 oc p0 (-1) 0 ou (10)).2.2)

def fX4_best (oc : OV) (ou : OV) (p0 : Int32) : (Int32 × OV) :=
  if (fX0_isThere oc p0) = 0 then
    (((-1) : Int32), ou)
  else
    ((fX4_bestPlace oc ou p0).1, (fX4_bestPlace oc ou p0).2)

def fX4_bestChance_x3 (oc : OV) (ou : OV) (p0 : Int32) (p1 : Int32) (x3 : Int32) : (Int64 × OV) :=
  ((fX4_fraction x3 (fX0_allShares oc) p1), (fX4_trialShare oc ((fX4_bestPlace oc ou p0).2) p0 ((fX4_bestPlace oc ou p0).1) ((oc.2 8) p0.toNatClampNeg)).2)
def fX4_bestChance (oc : OV) (ou : OV) (p0 : Int32) (p1 : Int32) : (Int64 × OV) :=
  if (fX0_isThere oc p0) = 0 then
    (((-1000000000000000001) : Int64), ou)
  else
    if (fX4_within p1 0 1) = 0 then
      (((-1000000000000000002) : Int64), ou)
    else
      fX4_bestChance_x3 oc ou p0 p1 ((fX4_trialShare oc ((fX4_bestPlace oc ou p0).2) p0 ((fX4_bestPlace oc ou p0).1) ((oc.2 8) p0.toNatClampNeg)).1)

def fX4_rests (oc : OV) (ow : OV) (p0 : Int32) : (Int32 × OV) :=
  if (fJ6_bitCount_0f7a4 (oc.1 2)) ≤ 3 then
    ((if p0 = (-1) then (fX3_howMany (fX3_weigh ow oc)) else (fX3_row (fX3_weigh ow oc) p0)), (fX3_weigh ow oc))
  else
    (((-4) : Int32), ow)

def fX4_coup (oc : OV) (p0 : Int32) : Int32 :=
  if (fX0_isThere oc p0) = 0 then
    (-1)
  else
    (if (fX0_sprinkled oc ((oc.2 7) p0.toNatClampNeg)) = (1 <<< (p0 &&& 31)) then ((oc.2 7) p0.toNatClampNeg) else (-6))

def fX4_quick_L50 (oc : OV) (p0 : Int32) (p1 : Int32) (p2 : Int32) : Nat → Nat → OV → (Int32 × OV)
  | 0, k4, ou4 =>
    (((-6) : Int32), ou4)
  | r4 + 1, k4, ou4 =>
    if ((fX4_trialShare oc ou4 p0 ((oc.2 7) p0.toNatClampNeg) (dn 9 k4)).1 * p2) < (p1 * (fX0_allShares oc)) then
      fX4_quick_L50 oc p0 p1 p2 r4 (k4 + 1) ((fX4_trialShare oc ou4 p0 ((oc.2 7) p0.toNatClampNeg) (dn 9 k4)).2)
    else
      ((dn 9 k4), (fX4_trialShare oc ou4 p0 ((oc.2 7) p0.toNatClampNeg) (dn 9 k4)).2)
def fX4_quick (oc : OV) (ou : OV) (p0 : Int32) (p1 : Int32) (p2 : Int32) : (Int32 × OV) :=
  if (fX0_isThere oc p0) = 0 then
    (((-1) : Int32), ou)
  else
    if (fX4_within p2 1 100) = 0 then
      (((-2) : Int32), ou)
    else
      if (fX4_within p1 0 p2) = 0 then
        (((-2) : Int32), ou)
      else
        fX4_quick_L50 oc p0 p1 p2 (10) 0 ou

def fX4_seen (oc : OV) (p0 : Int32) (p1 : Int32) : (Int32 × OV) :=
  if (fX4_within p0 1 2) = 0 then
    if (fX4_within p0 0 2) = 0 then
      (((-2) : Int32), oc)
    else
      if p0 = 0 then
        if (fX4_within p1 0 63) = 0 then
          (((-2) : Int32), oc)
        else
          ((if (fX0_addSight oc p0 p1).1 = 0 then ((-4) : Int32) else ((fX0_addSight oc p0 p1).2.1 6)), (fX0_addSight oc p0 p1).2)
      else
        ((if (fX0_addSight oc p0 p1).1 = 0 then ((-4) : Int32) else ((fX0_addSight oc p0 p1).2.1 6)), (fX0_addSight oc p0 p1).2)
  else
    if (fX4_within p1 0 5) = 0 then
      (((-1) : Int32), oc)
    else
      if (fX4_within p0 0 2) = 0 then
        (((-2) : Int32), oc)
      else
        if p0 = 0 then
          if (fX4_within p1 0 63) = 0 then
            (((-2) : Int32), oc)
          else
            ((if (fX0_addSight oc p0 p1).1 = 0 then ((-4) : Int32) else ((fX0_addSight oc p0 p1).2.1 6)), (fX0_addSight oc p0 p1).2)
        else
          ((if (fX0_addSight oc p0 p1).1 = 0 then ((-4) : Int32) else ((fX0_addSight oc p0 p1).2.1 6)), (fX0_addSight oc p0 p1).2)

def fX4_forget (oc : OV) : (Int32 × OV) :=
  ((oc.1 6), (us oc 6 0))

def fX4_fits_L4s (oc : OV) (k1 : Nat) (x1_1 : Int32) : Int32 :=
  (fX4_withBit x1_1 (nI k1) (fX0_fitsSights oc (fX0_rulers oc (nI k1))))
def fX4_fits_L4 (oc : OV) (ix1_1 : Int32) : Nat → Int32
  | 0 => ix1_1
  | k1 + 1 => fX4_fits_L4s oc k1 (fX4_fits_L4 oc ix1_1 k1)
def fX4_fits (oc : OV) : Int32 :=
  (fX4_fits_L4 oc 0 (10))

def fX4_year_L51s (oc : OV) (oy : OV) (od : OV) (k4 : Nat) (x4_4 : Int32) (oy4 : OV) : Int32 × OV :=
  ((((75 * x4_4) + 74) - ((75 * x4_4) + 74) / 65537 * 65537), (fX1_pass (fX1_rain oy4 ((fX1_begin oy od oc).1) ((((75 * x4_4) + 74) - ((75 * x4_4) + 74) / 65537 * 65537) - (((75 * x4_4) + 74) - ((75 * x4_4) + 74) / 65537 * 65537) / 10 * 10)) ((fX1_begin oy od oc).1) 1))
def fX4_year_L51 (oc : OV) (oy : OV) (od : OV) (ix4_4 : Int32) (ioy4 : OV) : Nat → Int32 × OV
  | 0 => (ix4_4, ioy4)
  | k4 + 1 => fX4_year_L51s oc oy od k4 (fX4_year_L51 oc oy od ix4_4 ioy4 k4).1 (fX4_year_L51 oc oy od ix4_4 ioy4 k4).2
def fX4_year (oc : OV) (oy : OV) (od : OV) (p0 : Int32) (p1 : Int32) (p2 : Int32) : (Int32 × OV × OV) :=
  if (fX4_within p0 0 9999) = 0 then
    (((-2) : Int32), od, oy)
  else
    if (fX4_within p1 1 99) = 0 then
      (((-2) : Int32), od, oy)
    else
      if (fX4_within p2 0 7) = 0 then
        (((-2) : Int32), od, oy)
      else
        if p2 = 7 then
          (((fX4_year_L51 oc oy od p0 ((fX1_begin oy od oc).2) ((p1.toNatClampNeg))).2.1 3), (fX1_begin oy od oc).1, (fX4_year_L51 oc oy od p0 ((fX1_begin oy od oc).2) ((p1.toNatClampNeg))).2)
        else
          ((fX1_yearsOf ((fX4_year_L51 oc oy od p0 ((fX1_begin oy od oc).2) ((p1.toNatClampNeg))).2) (if p2 = 6 then (8 : Int32) else p2)), (fX1_begin oy od oc).1, (fX4_year_L51 oc oy od p0 ((fX1_begin oy od oc).2) ((p1.toNatClampNeg))).2)

def fX4_toldOfPerson (oc : OV) (p0 : Int32) (p1 : Int32) : Int32 :=
  if (fX0_isThere oc p0) = 0 then
    (-2)
  else
    if p1 = 0 then
      ((oc.2 7) p0.toNatClampNeg)
    else
      if p1 = 1 then
        ((oc.2 8) p0.toNatClampNeg)
      else
        if p1 = 2 then
          (if (fX4_hasBit (oc.1 4) p0) = 0 then (0 : Int32) else 1)
        else
          if p1 = 3 then
            (if (fX4_hasBit (oc.1 3) p0) = 0 then (0 : Int32) else 1)
          else
            (-2)

def fX4_told (oc : OV) (og : OV) (p0 : Int32) : Int32 :=
  if p0 = 0 then
    (og.1 1)
  else
    if p0 = 1 then
      (oc.1 2)
    else
      if p0 = 2 then
        (oc.1 0)
      else
        if p0 = 3 then
          (oc.1 1)
        else
          if p0 = 4 then
            (oc.1 5)
          else
            if p0 = 5 then
              (oc.1 6)
            else
              if (fX4_within p0 10 19) = 0 then
                (if 20 ≤ p0 then (fX4_toldOfPerson oc ((p0 - 20) / 10) ((p0 - 20) - (p0 - 20) / 10 * 10)) else (-2))
              else
                ((oc.2 9) (p0 - 10).toNatClampNeg)

def fX5_in (p0 : Int64) (p1 : Int64) (p2 : Int64) : Int32 :=
  (if (lg_cmp p0 p1) < 0 then (0 : Int32) else (if 0 < (lg_cmp p0 p2) then (0 : Int32) else 1))
theorem zX5_in (p0 : Int64) (p1 : Int64) (p2 : Int64) : fX5_in p0 p1 p2 = 0 ∨ fX5_in p0 p1 p2 = 1 := by
  unfold fX5_in
  repeat' split
  all_goals first | exact Or.inl rfl | exact Or.inr rfl | exact if_z (Or.inr rfl) (Or.inl rfl) | exact if_z (Or.inl rfl) (Or.inr rfl)

def fX5_ones_L4  : Nat → Nat → Int32 → Int32 → Int32
  | 0, k1, x2_1, x1_1 =>
    x1_1
  | r1 + 1, k1, x2_1, x1_1 =>
    if x2_1 = 0 then
      x1_1
    else
      fX5_ones_L4 r1 (k1 + 1) (x2_1 &&& (x2_1 - 1)) (x1_1 + 1)
def fX5_ones (p0 : Int32) : Int32 :=
  fX5_ones_L4 (64) 0 p0 0

def fX5_isPerson (p0 : Int32) : Int32 :=
  (fX5_in p0.toInt64 0 5)
theorem zX5_isPerson (p0 : Int32) : fX5_isPerson p0 = 0 ∨ fX5_isPerson p0 = 1 := by
  unfold fX5_isPerson
  repeat' split
  all_goals first | exact Or.inl rfl | exact Or.inr rfl | exact if_z (Or.inr rfl) (Or.inl rfl) | exact if_z (Or.inl rfl) (Or.inr rfl) | exact zX5_in _ _ _

def fX5_isPlace (p0 : Int32) : Int32 :=
  (fX5_in p0.toInt64 0 9)
theorem zX5_isPlace (p0 : Int32) : fX5_isPlace p0 = 0 ∨ fX5_isPlace p0 = 1 := by
  unfold fX5_isPlace
  repeat' split
  all_goals first | exact Or.inl rfl | exact Or.inr rfl | exact if_z (Or.inr rfl) (Or.inl rfl) | exact if_z (Or.inl rfl) (Or.inr rfl) | exact zX5_in _ _ _

def fX5_isThere (om : OV) (p0 : Int32) : Int32 :=
  (if (fX5_isPerson p0) = 0 then (0 : Int32) else (if (((om.1 0) >>> (p0 &&& 31)) &&& 1) = 1 then (1 : Int32) else 0))
theorem zX5_isThere (om : OV) (p0 : Int32) : fX5_isThere om p0 = 0 ∨ fX5_isThere om p0 = 1 := by
  unfold fX5_isThere
  repeat' split
  all_goals first | exact Or.inl rfl | exact Or.inr rfl | exact if_z (Or.inr rfl) (Or.inl rfl) | exact if_z (Or.inl rfl) (Or.inr rfl) | exact zX5_isPerson _

def fX5_table (om : OV) (p0 : Int32) (p1 : Int32) : (Int32 × OV) :=
  if (fX5_isPlace p0) = 0 then
    (((-1) : Int32), om)
  else
    ((1 : Int32), (us om 5 (if p1 = 0 then ((om.1 5) &&& ((1 <<< (p0 &&& 31)) ^^^ (-1))) else ((om.1 5) ||| (1 <<< (p0 &&& 31))))))

def fX5_set (om : OV) (p0 : Int32) (p1 : Int32) : (Int32 × OV) :=
  if (fX5_in p0.toInt64 0 1) = 0 then
    (((-2) : Int32), om)
  else
    if (fX5_in p1.toInt64 (if p0 = 0 then (1 : Int64) else 0) 9) = 0 then
      (((-2) : Int32), om)
    else
      ((if p0 = 0 then (om.1 6) else (om.1 7)), (us (us om 6 (if p0 = 0 then p1 else (om.1 6))) 7 (if p0 = 1 then p1 else (om.1 7))))

def fX5_say (om : OV) (p0 : Int32) : (Int32 × OV) :=
  if (fX5_in p0.toInt64 33 126) = 0 then
    (((-2) : Int32), om)
  else
    if (om.1 13) = 40 then
      (((-4) : Int32), om)
    else
      (((om.1 13) + 1), (us (ua om 12 (om.1 13).toNatClampNeg p0) 13 ((om.1 13) + 1)))

def fX5_wipe (om : OV) : (Int32 × OV) :=
  ((om.1 13), (us om 13 0))

def fX5_canStand (p0 : Int32) (p1 : Int32) : Int32 :=
  if p1 = 0 then
    (if (fX5_in p0.toInt64 48 57) = 0 then (if p0 = 33 then (1 : Int32) else (if p0 = 45 then (1 : Int32) else (if p0 = 46 then (1 : Int32) else (if p0 = 126 then (1 : Int32) else 0)))) else 1)
  else
    (if p1 = 126 then (fX5_in p0.toInt64 65 70) else (if (fX5_in p0.toInt64 48 57) = 0 then (0 : Int32) else (if p1 = 33 then (1 : Int32) else (if p0 = 48 then (0 : Int32) else 1))))
theorem zX5_canStand (p0 : Int32) (p1 : Int32) : fX5_canStand p0 p1 = 0 ∨ fX5_canStand p0 p1 = 1 := by
  unfold fX5_canStand
  repeat' split
  all_goals first | exact Or.inl rfl | exact Or.inr rfl | exact if_z (Or.inr rfl) (Or.inl rfl) | exact if_z (Or.inl rfl) (Or.inr rfl) | exact zX5_in _ _ _

def fX5_isOpening (p0 : Int32) (p1 : Int32) : Int32 :=
  (if p1 = 0 then (if p0 = 33 then (1 : Int32) else (if p0 = 45 then (1 : Int32) else (if p0 = 126 then (1 : Int32) else 0))) else 0)
theorem zX5_isOpening (p0 : Int32) (p1 : Int32) : fX5_isOpening p0 p1 = 0 ∨ fX5_isOpening p0 p1 = 1 := by
  unfold fX5_isOpening
  repeat' split
  all_goals first | exact Or.inl rfl | exact Or.inr rfl | exact if_z (Or.inr rfl) (Or.inl rfl) | exact if_z (Or.inl rfl) (Or.inr rfl)

def fX5_fault_L4 (om : OV) : Nat → Nat → Int32 → Int32
  | 0, k1, x1_1 =>
    (if x1_1 = 0 then ((-6) : Int32) else (om.1 13))
  | r1 + 1, k1, x1_1 =>
    if (fX5_canStand ((om.2 12) (nI k1).toNatClampNeg) x1_1) = 0 then
      (nI k1)
    else
      let x6 : Int32 := (if (fX5_isOpening ((om.2 12) (nI k1).toNatClampNeg) x1_1) = 0 then (0 : Int32) else ((om.2 12) (nI k1).toNatClampNeg))
      fX5_fault_L4 om r1 (k1 + 1) x6
def fX5_fault (om : OV) : Int32 :=
  fX5_fault_L4 om ((om.1 13).toNatClampNeg) 0 0

def fX5_opensAt_x5 (om : OV) (p0 : Int32) (x5 : Int32) : Int32 :=
  ((((om.1 6) * x5) + ((om.2 2) p0.toNatClampNeg)) + (if (((om.1 5) >>> (((om.2 1) p0.toNatClampNeg) &&& 31)) &&& 1) = 1 then (om.1 7) else 0))
def fX5_opensAt (om : OV) (p0 : Int32) (p1 : Int32) : Int32 :=
  if (fX5_isThere om p0) = 0 then
    1000
  else
    if (((om.1 4) >>> (p0 &&& 31)) &&& 1) = 1 then
      1000
    else
      fX5_opensAt_x5 om p0 (if ((om.2 1) p0.toNatClampNeg) ≤ p1 then (p1 - ((om.2 1) p0.toNatClampNeg)) else (((om.2 1) p0.toNatClampNeg) - p1))

def fX5_firstAt_L6s (om : OV) (p0 : Int32) (k1 : Nat) (x2_1 : Int32) : Int32 :=
  (if x2_1 ≤ (fX5_opensAt om (nI k1) p0) then x2_1 else (fX5_opensAt om (nI k1) p0))
def fX5_firstAt_L6 (om : OV) (p0 : Int32) (ix2_1 : Int32) : Nat → Int32
  | 0 => ix2_1
  | k1 + 1 => fX5_firstAt_L6s om p0 k1 (fX5_firstAt_L6 om p0 ix2_1 k1)
def fX5_firstAt (om : OV) (p0 : Int32) : Int32 :=
  (fX5_firstAt_L6 om p0 1000 (6))

def fX5_rulersBy_L11 (om : OV) (p0 : Int32) : Nat → Nat → Int32 → Int32
  | 0, k1, x3_1 =>
    x3_1
  | r1 + 1, k1, x3_1 =>
    if 1000 ≤ (fX5_firstAt om p0) then
      x3_1
    else
      let x6 : Int32 := (x3_1 ||| (if (fX5_opensAt om (nI k1) p0) = (fX5_firstAt om p0) then (1 <<< ((nI k1) &&& 31)) else 0))
      fX5_rulersBy_L11 om p0 r1 (k1 + 1) x6
def fX5_rulersBy (om : OV) (p0 : Int32) : Int32 :=
  fX5_rulersBy_L11 om p0 (6) 0 0

def fX5_sprinkledBy_L6s_x7  (x7 : Int32) : Int32 :=
  x7
def fX5_sprinkledBy_L6s (om : OV) (p0 : Int32) (k1 : Nat) (x2_1 : Int32) : Int32 :=
  fX5_sprinkledBy_L6s_x7  (if x2_1 ≤ (if ((om.2 1) (nI k1).toNatClampNeg) = p0 then (fX5_opensAt om (nI k1) p0) else 1000) then x2_1 else (if ((om.2 1) (nI k1).toNatClampNeg) = p0 then (fX5_opensAt om (nI k1) p0) else 1000))
def fX5_sprinkledBy_L6 (om : OV) (p0 : Int32) (ix2_1 : Int32) : Nat → Int32
  | 0 => ix2_1
  | k1 + 1 => fX5_sprinkledBy_L6s om p0 k1 (fX5_sprinkledBy_L6 om p0 ix2_1 k1)
def fX5_sprinkledBy_L60 (om : OV) (p0 : Int32) : Nat → Nat → Int32 → Int32
  | 0, k9, x3_9 =>
    x3_9
  | r9 + 1, k9, x3_9 =>
    if 1000 ≤ (fX5_sprinkledBy_L6 om p0 1000 (6)) then
      x3_9
    else
      let x16 : Int32 := (x3_9 ||| (if ((om.2 1) (nI k9).toNatClampNeg) = p0 then (if (fX5_opensAt om (nI k9) p0) = (fX5_sprinkledBy_L6 om p0 1000 (6)) then (1 <<< ((nI k9) &&& 31)) else 0) else 0))
      fX5_sprinkledBy_L60 om p0 r9 (k9 + 1) x16
def fX5_sprinkledBy (om : OV) (p0 : Int32) : Int32 :=
  fX5_sprinkledBy_L60 om p0 (6) 0 0

def fX5_rules (om : OV) (p0 : Int32) (p1 : Int32) : Int32 :=
  if (fX5_isPlace p0) = 0 then
    (-1)
  else
    if (fX5_in p1.toInt64 0 1) = 0 then
      (-2)
    else
      (if (fX5_firstAt om p0) = 1000 then ((-6) : Int32) else (if p1 = 0 then (fX5_rulersBy om p0) else (fX5_firstAt om p0)))

def fX5_opens (om : OV) (p0 : Int32) (p1 : Int32) : Int32 :=
  if (fX5_isThere om p0) = 0 then
    (-1)
  else
    if (fX5_isPlace p1) = 0 then
      (-1)
    else
      (if (fX5_opensAt om p0 p1) = 1000 then ((-6) : Int32) else (fX5_opensAt om p0 p1))

def fX5_never_L4s (om : OV) (k1 : Nat) (x1_1 : Int32) : Int32 :=
  (x1_1 ||| (fX5_rulersBy om (nI k1)))
def fX5_never_L4 (om : OV) (ix1_1 : Int32) : Nat → Int32
  | 0 => ix1_1
  | k1 + 1 => fX5_never_L4s om k1 (fX5_never_L4 om ix1_1 k1)
def fX5_never (om : OV) : Int32 :=
  ((om.1 0) &&& ((fX5_never_L4 om 0 (10)) ^^^ (-1)))

def fX5_rule (om : OV) (p0 : Int32) : OV :=
  (us (us om 15 ((om.1 15) + (if p0 = 0 then (0 : Int32) else (if p0 = (om.1 16) then (0 : Int32) else 1)))) 16 p0)

def fX5_goYears_L4s_x9 (p0 : Int32) (k1 : Nat) (om1 : OV) (x9 : Int32) : Int32 × OV :=
  (x9, (ua om1 14 (nI k1).toNatClampNeg (((om1.2 14) (nI k1).toNatClampNeg) + (if (if (((om1.1 16) >>> ((nI k1) &&& 31)) &&& 1) = 1 then (1 : Int32) else 0) = 0 then (0 : Int32) else p0))))
def fX5_goYears_L4s (p0 : Int32) (k1 : Nat) (x2_1 : Int32) (om1 : OV) : Int32 × OV :=
  fX5_goYears_L4s_x9 p0 k1 om1 (x2_1 ||| (if (if (((om1.1 16) >>> ((nI k1) &&& 31)) &&& 1) = 1 then (1 : Int32) else 0) = 0 then (0 : Int32) else (1 <<< (((om1.2 3) (nI k1).toNatClampNeg) &&& 31))))
def fX5_goYears_L4 (p0 : Int32) (ix2_1 : Int32) (iom1 : OV) : Nat → Int32 × OV
  | 0 => (ix2_1, iom1)
  | k1 + 1 => fX5_goYears_L4s p0 k1 (fX5_goYears_L4 p0 ix2_1 iom1 k1).1 (fX5_goYears_L4 p0 ix2_1 iom1 k1).2
def fX5_goYears (om : OV) (p0 : Int32) : OV :=
  (ua (ua (ua (fX5_goYears_L4 p0 0 om (6)).2 14 ((6 : Int32).toNatClampNeg) ((((fX5_goYears_L4 p0 0 om (6)).2.2 14) (6 : Int32).toNatClampNeg) + (if ((fX5_goYears_L4 p0 0 om (6)).1 &&& 1) = 1 then p0 else 0))) 14 ((7 : Int32).toNatClampNeg) ((((ua (fX5_goYears_L4 p0 0 om (6)).2 14 ((6 : Int32).toNatClampNeg) ((((fX5_goYears_L4 p0 0 om (6)).2.2 14) (6 : Int32).toNatClampNeg) + (if ((fX5_goYears_L4 p0 0 om (6)).1 &&& 1) = 1 then p0 else 0))).2 14) (7 : Int32).toNatClampNeg) + (if (fX5_goYears_L4 p0 0 om (6)).1 ≤ 1 then (0 : Int32) else p0))) 14 ((8 : Int32).toNatClampNeg) ((((ua (ua (fX5_goYears_L4 p0 0 om (6)).2 14 ((6 : Int32).toNatClampNeg) ((((fX5_goYears_L4 p0 0 om (6)).2.2 14) (6 : Int32).toNatClampNeg) + (if ((fX5_goYears_L4 p0 0 om (6)).1 &&& 1) = 1 then p0 else 0))) 14 ((7 : Int32).toNatClampNeg) ((((ua (fX5_goYears_L4 p0 0 om (6)).2 14 ((6 : Int32).toNatClampNeg) ((((fX5_goYears_L4 p0 0 om (6)).2.2 14) (6 : Int32).toNatClampNeg) + (if ((fX5_goYears_L4 p0 0 om (6)).1 &&& 1) = 1 then p0 else 0))).2 14) (7 : Int32).toNatClampNeg) + (if (fX5_goYears_L4 p0 0 om (6)).1 ≤ 1 then (0 : Int32) else p0))).2 14) (8 : Int32).toNatClampNeg) + (if ((fX5_goYears_L4 p0 0 om (6)).2.1 16) = 0 then p0 else 0)))

def fX5_happen (om : OV) (p0 : Int32) (p1 : Int32) : OV :=
  if p0 = 0 then
    if p1 = 46 then
      (fX5_goYears om 1)
    else
      if p0 = 45 then
        (fX5_goYears (fX5_rule om 0) (p1 - 48))
      else
        if p0 = 126 then
          if (fX5_isThere om (p1 - 65)) = 0 then
            om
          else
            (fX5_rule (us om 4 ((om.1 4) ||| (1 <<< ((p1 - 65) &&& 31)))) ((om.1 16) &&& ((1 <<< ((p1 - 65) &&& 31)) ^^^ (-1))))
        else
          (fX5_rule om (if (if p0 = 0 then (fX5_rulersBy om (p1 - 48)) else (fX5_sprinkledBy om (p1 - 48))) = 0 then (om.1 16) else (if p0 = 0 then (fX5_rulersBy om (p1 - 48)) else (fX5_sprinkledBy om (p1 - 48)))))
  else
    if p0 = 45 then
      (fX5_goYears (fX5_rule om 0) (p1 - 48))
    else
      if p0 = 126 then
        if (fX5_isThere om (p1 - 65)) = 0 then
          om
        else
          (fX5_rule (us om 4 ((om.1 4) ||| (1 <<< ((p1 - 65) &&& 31)))) ((om.1 16) &&& ((1 <<< ((p1 - 65) &&& 31)) ^^^ (-1))))
      else
        (fX5_rule om (if (if p0 = 0 then (fX5_rulersBy om (p1 - 48)) else (fX5_sprinkledBy om (p1 - 48))) = 0 then (om.1 16) else (if p0 = 0 then (fX5_rulersBy om (p1 - 48)) else (fX5_sprinkledBy om (p1 - 48)))))

def fX5_goParts_L2s  (k1 : Nat) (om1 : OV) : OV :=
  (ua om1 14 (nI k1).toNatClampNeg 0)
def fX5_goParts_L2  (iom1 : OV) : Nat → OV
  | 0 => iom1
  | k1 + 1 => fX5_goParts_L2s  k1 (fX5_goParts_L2 iom1 k1)
def fX5_goParts_L44s (p0 : Int32) (k4 : Nat) (x4_4 : Int32) (x3_4 : Int32) (om4 : OV) : Int32 × Int32 × OV :=
  if (fX5_isOpening ((om4.2 12) (nI k4).toNatClampNeg) x3_4) = 0 then
    if p0 < 0 then
      ((x4_4 + 1), 0, (fX5_happen om4 x3_4 ((om4.2 12) (nI k4).toNatClampNeg)))
    else
      if p0 ≤ x4_4 then
        ((x4_4 + 1), 0, om4)
      else
        ((x4_4 + 1), 0, (fX5_happen om4 x3_4 ((om4.2 12) (nI k4).toNatClampNeg)))
  else
    (x4_4, ((om4.2 12) (nI k4).toNatClampNeg), om4)
def fX5_goParts_L44 (p0 : Int32) (ix4_4 : Int32) (ix3_4 : Int32) (iom4 : OV) : Nat → Int32 × Int32 × OV
  | 0 => (ix4_4, ix3_4, iom4)
  | k4 + 1 => fX5_goParts_L44s p0 k4 (fX5_goParts_L44 p0 ix4_4 ix3_4 iom4 k4).1 (fX5_goParts_L44 p0 ix4_4 ix3_4 iom4 k4).2.1 (fX5_goParts_L44 p0 ix4_4 ix3_4 iom4 k4).2.2
def fX5_goParts (om : OV) (p0 : Int32) : (Int32 × OV) :=
  ((fX5_goParts_L44 p0 0 0 (us (us (fX5_goParts_L2 om (9)) 15 0) 16 0) ((om.1 13).toNatClampNeg)).1, (us (fX5_goParts_L44 p0 0 0 (us (us (fX5_goParts_L2 om (9)) 15 0) 16 0) ((om.1 13).toNatClampNeg)).2.2 4 ((fX5_goParts_L2 om (9)).1 4)))

def fX5_reign (om : OV) (p0 : Int32) : (Int32 × OV) :=
  if (fX5_fault om) < 0 then
    if (fX5_in p0.toInt64 (-1) ((fX5_goParts om p0).1.toInt64)) = 0 then
      (((-2) : Int32), (fX5_goParts om p0).2)
    else
      ((if ((fX5_goParts om p0).2.1 16) = 0 then ((-6) : Int32) else ((fX5_goParts om p0).2.1 16)), (fX5_goParts om p0).2)
  else
    (((-5) : Int32), om)

def fX5_years (om : OV) (p0 : Int32) : (Int32 × OV) :=
  if (fX5_fault om) < 0 then
    if (fX5_in p0.toInt64 0 9) = 0 then
      (((-2) : Int32), om)
    else
      ((if p0 = 9 then ((fX5_goParts om (-1)).2.1 15) else (((fX5_goParts om (-1)).2.2 14) p0.toNatClampNeg)), (fX5_goParts om (-1)).2)
  else
    (((-5) : Int32), om)

def fX5_stand (om : OV) (p0 : Int32) (p1 : Int32) (p2 : Int32) (p3 : Int32) (p4 : Int32) : (Int32 × OV) :=
  if (fX5_isPerson p0) = 0 then
    (((-1) : Int32), om)
  else
    if (fX5_isPlace p1) = 0 then
      (((-1) : Int32), om)
    else
      if (fX5_in p2.toInt64 0 9) = 0 then
        (((-2) : Int32), om)
      else
        if (fX5_in p3.toInt64 0 1) = 0 then
          (((-2) : Int32), om)
        else
          ((fX5_ones ((om.1 0) ||| (1 <<< (p0 &&& 31)))), (us (us (ua (ua (ua om 1 p0.toNatClampNeg p1) 2 p0.toNatClampNeg p2) 3 p0.toNatClampNeg p3) 4 (if p4 = 0 then ((om.1 4) &&& ((1 <<< (p0 &&& 31)) ^^^ (-1))) else ((om.1 4) ||| (1 <<< (p0 &&& 31))))) 0 ((om.1 0) ||| (1 <<< (p0 &&& 31)))))

def fX5_leave (om : OV) (p0 : Int32) : (Int32 × OV) :=
  if (fX5_isThere om p0) = 0 then
    (((-1) : Int32), om)
  else
    ((fX5_ones ((om.1 0) &&& ((1 <<< (p0 &&& 31)) ^^^ (-1)))), (us om 0 ((om.1 0) &&& ((1 <<< (p0 &&& 31)) ^^^ (-1)))))

def fX5_weights_L4s (om : OV) (k1 : Nat) (x1_1 : Int32) : Int32 :=
  (x1_1 + ((om.2 8) (nI k1).toNatClampNeg))
def fX5_weights_L4 (om : OV) (ix1_1 : Int32) : Nat → Int32
  | 0 => ix1_1
  | k1 + 1 => fX5_weights_L4s om k1 (fX5_weights_L4 om ix1_1 k1)
def fX5_weights (om : OV) : Int32 :=
  (fX5_weights_L4 om 0 (10))

def fX5_weight (om : OV) (p0 : Int32) (p1 : Int32) : (Int32 × OV) :=
  if (fX5_isPlace p0) = 0 then
    (((-1) : Int32), om)
  else
    if (fX5_in p1.toInt64 0 9) = 0 then
      (((-2) : Int32), om)
    else
      if 1 ≤ (((fX5_weights om) - ((om.2 8) p0.toNatClampNeg)) + p1) then
        (((om.2 8) p0.toNatClampNeg), (ua om 8 p0.toNatClampNeg p1))
      else
        (((-2) : Int32), om)

def fX5_sixtieths_L23s_x11_x14  (x14 : Int32) : Int32 :=
  x14
def fX5_sixtieths_L23s_x11 (om : OV) (k1 : Nat) (k3 : Nat) (x5_3 : Int32) (x11 : Int32) : Int32 :=
  fX5_sixtieths_L23s_x11_x14  (x5_3 + (if x11 = 0 then (0 : Int32) else (((fX5_rulersBy om (nI k1)) >>> ((nI k3) &&& 31)) &&& 1)))
def fX5_sixtieths_L23s (om : OV) (p0 : Int32) (k1 : Nat) (k3 : Nat) (x5_3 : Int32) : Int32 :=
  fX5_sixtieths_L23s_x11 om k1 k3 x5_3 (if 6 ≤ p0 then (if ((om.2 3) (nI k3).toNatClampNeg) = (p0 - 6) then (1 : Int32) else 0) else (if (nI k3) = p0 then (1 : Int32) else 0))
def fX5_sixtieths_L23 (om : OV) (p0 : Int32) (k1 : Nat) (ix5_3 : Int32) : Nat → Int32
  | 0 => ix5_3
  | k3 + 1 => fX5_sixtieths_L23s om p0 k1 k3 (fX5_sixtieths_L23 om p0 k1 ix5_3 k3)
def fX5_sixtieths_L4s_x18  (x18 : Int32) : Int32 :=
  x18
def fX5_sixtieths_L4s (om : OV) (p0 : Int32) (k1 : Nat) (x2_1 : Int32) : Int32 :=
  fX5_sixtieths_L4s_x18  (x2_1 + (if (fX5_rulersBy om (nI k1)) = 0 then (0 : Int32) else ((((om.2 8) (nI k1).toNatClampNeg) * (fX5_sixtieths_L23 om p0 k1 0 (6))) * (60 / (fX5_ones (fX5_rulersBy om (nI k1)))))))
def fX5_sixtieths_L4 (om : OV) (p0 : Int32) (ix2_1 : Int32) : Nat → Int32
  | 0 => ix2_1
  | k1 + 1 => fX5_sixtieths_L4s om p0 k1 (fX5_sixtieths_L4 om p0 ix2_1 k1)
def fX5_sixtieths (om : OV) (p0 : Int32) : Int32 :=
  (fX5_sixtieths_L4 om p0 0 (10))

def fX5_lowest_L6 (p0 : Int64) (p1 : Int64) (p2 : Int32) : Nat → Nat → Int64 → Int64 → Int64
  | 0, k1, x7_1, x5_1 =>
    (if p2 = 0 then (p0 / x5_1) else (p1 / x5_1))
  | r1 + 1, k1, x7_1, x5_1 =>
    if (lg_cmp x7_1 0) = 0 then
      (if p2 = 0 then (p0 / x5_1) else (p1 / x5_1))
    else
      fX5_lowest_L6 p0 p1 p2 r1 (k1 + 1) (x5_1 - x5_1 / x7_1 * x7_1) x7_1
def fX5_lowest (p0 : Int64) (p1 : Int64) (p2 : Int32) : Int64 :=
  fX5_lowest_L6 p0 p1 p2 (40000) 0 p0 p1

def fX5_chance (om : OV) (p0 : Int32) (p1 : Int32) : Int64 :=
  if (fX5_isThere om p0) = 0 then
    if (fX5_in p0.toInt64 6 7) = 0 then
      (-1000000000000000001)
    else
      (if (fX5_in p1.toInt64 0 1) = 0 then ((-1000000000000000002) : Int64) else (fX5_lowest ((fX5_sixtieths om p0).toInt64) ((60 * (fX5_weights om)).toInt64) p1))
  else
    (if (fX5_in p1.toInt64 0 1) = 0 then ((-1000000000000000002) : Int64) else (fX5_lowest ((fX5_sixtieths om p0).toInt64) ((60 * (fX5_weights om)).toInt64) p1))

def fX5_findStand_L20s (p0 : Int32) (k1 : Nat) (om1 : OV) : OV :=
  (us (us (ua om1 1 p0.toNatClampNeg (nI k1)) 17 (if (fX5_sixtieths (ua om1 1 p0.toNatClampNeg (nI k1)) p0) ≤ (om1.1 18) then (om1.1 17) else (nI k1))) 18 (if (fX5_sixtieths (ua om1 1 p0.toNatClampNeg (nI k1)) p0) ≤ (om1.1 18) then (om1.1 18) else (fX5_sixtieths (ua om1 1 p0.toNatClampNeg (nI k1)) p0)))
def fX5_findStand_L20 (p0 : Int32) (iom1 : OV) : Nat → OV
  | 0 => iom1
  | k1 + 1 => fX5_findStand_L20s p0 k1 (fX5_findStand_L20 p0 iom1 k1)
def fX5_findStand (om : OV) (p0 : Int32) : OV :=
  (ua (fX5_findStand_L20 p0 (us (us om 17 (-6)) 18 (-1)) (10)) 1 p0.toNatClampNeg ((om.2 1) p0.toNatClampNeg))

def fX5_best (om : OV) (p0 : Int32) : (Int32 × OV) :=
  if (fX5_isThere om p0) = 0 then
    (((-1) : Int32), om)
  else
    (((fX5_findStand om p0).1 17), (fX5_findStand om p0))

def fX5_bestChance (om : OV) (p0 : Int32) (p1 : Int32) : (Int64 × OV) :=
  if (fX5_isThere om p0) = 0 then
    (((-1000000000000000001) : Int64), om)
  else
    if (fX5_in p1.toInt64 0 1) = 0 then
      (((-1000000000000000002) : Int64), om)
    else
      ((fX5_lowest (((fX5_findStand om p0).1 18).toInt64) ((60 * (fX5_weights (fX5_findStand om p0))).toInt64) p1), (fX5_findStand om p0))

def fX5_keepPlaces_L2s  (k1 : Nat) (om1 : OV) : OV :=
  (ua om1 19 (nI k1).toNatClampNeg ((om1.2 1) (nI k1).toNatClampNeg))
def fX5_keepPlaces_L2  (iom1 : OV) : Nat → OV
  | 0 => iom1
  | k1 + 1 => fX5_keepPlaces_L2s  k1 (fX5_keepPlaces_L2 iom1 k1)
def fX5_keepPlaces (om : OV) : OV :=
  (fX5_keepPlaces_L2 om (6))

def fX5_putPlaces_L2s  (k1 : Nat) (om1 : OV) : OV :=
  (ua om1 1 (nI k1).toNatClampNeg ((om1.2 19) (nI k1).toNatClampNeg))
def fX5_putPlaces_L2  (iom1 : OV) : Nat → OV
  | 0 => iom1
  | k1 + 1 => fX5_putPlaces_L2s  k1 (fX5_putPlaces_L2 iom1 k1)
def fX5_putPlaces (om : OV) : OV :=
  (fX5_putPlaces_L2 om (6))

def fX5_layPlaces_L4s  (k1 : Nat) (x2_1 : Int32) (om1 : OV) : Int32 × OV :=
  if (fX5_isThere om1 (dn 5 k1)) = 0 then
    (x2_1, om1)
  else
    ((x2_1 / 10), (ua om1 1 (dn 5 k1).toNatClampNeg (x2_1 - x2_1 / 10 * 10)))
def fX5_layPlaces_L4  (ix2_1 : Int32) (iom1 : OV) : Nat → Int32 × OV
  | 0 => (ix2_1, iom1)
  | k1 + 1 => fX5_layPlaces_L4s  k1 (fX5_layPlaces_L4 ix2_1 iom1 k1).1 (fX5_layPlaces_L4 ix2_1 iom1 k1).2
def fX5_layPlaces (om : OV) (p0 : Int32) : OV :=
  (fX5_layPlaces_L4 p0 om (6)).2

def fX5_areAtRest_L2  : Nat → Nat → OV → (Int32 × OV)
  | 0, k1, om1 =>
    ((1 : Int32), om1)
  | r1 + 1, k1, om1 =>
    if (fX5_isThere om1 (nI k1)) = 0 then
      fX5_areAtRest_L2 r1 (k1 + 1) om1
    else
      if ((fX5_findStand om1 (nI k1)).1 18) ≤ (fX5_sixtieths om1 (nI k1)) then
        fX5_areAtRest_L2 r1 (k1 + 1) (fX5_findStand om1 (nI k1))
      else
        ((0 : Int32), (fX5_findStand om1 (nI k1)))
def fX5_areAtRest (om : OV) : (Int32 × OV) :=
  fX5_areAtRest_L2 (6) 0 om

def fX5_coup_L12 (om : OV) (p0 : Int32) : Nat → Nat → Int32
  | 0, k2 =>
    (-6)
  | r2 + 1, k2 =>
    if (fX5_sprinkledBy om (nI k2)) = (1 <<< (p0 &&& 31)) then
      (nI k2)
    else
      fX5_coup_L12 om p0 r2 (k2 + 1)
def fX5_coup (om : OV) (p0 : Int32) : Int32 :=
  if (fX5_isThere om p0) = 0 then
    (-1)
  else
    fX5_coup_L12 om p0 (10) 0

def fX5_quick_L51s_x8 (p0 : Int32) (k4 : Nat) (om4 : OV) (x8 : Int32) : Int32 × OV :=
  (x8, (ua om4 2 p0.toNatClampNeg (nI k4)))
def fX5_quick_L51s (p0 : Int32) (p1 : Int32) (p2 : Int32) (k4 : Nat) (x5_4 : Int32) (om4 : OV) : Int32 × OV :=
  fX5_quick_L51s_x8 p0 k4 om4 (if ((fX5_sixtieths (ua om4 2 p0.toNatClampNeg (nI k4)) p0) * p2) < ((p1 * 60) * (fX5_weights (ua om4 2 p0.toNatClampNeg (nI k4)))) then x5_4 else (nI k4))
def fX5_quick_L51 (p0 : Int32) (p1 : Int32) (p2 : Int32) (ix5_4 : Int32) (iom4 : OV) : Nat → Int32 × OV
  | 0 => (ix5_4, iom4)
  | k4 + 1 => fX5_quick_L51s p0 p1 p2 k4 (fX5_quick_L51 p0 p1 p2 ix5_4 iom4 k4).1 (fX5_quick_L51 p0 p1 p2 ix5_4 iom4 k4).2
def fX5_quick (om : OV) (p0 : Int32) (p1 : Int32) (p2 : Int32) : (Int32 × OV) :=
  if (fX5_isThere om p0) = 0 then
    (((-1) : Int32), om)
  else
    if (fX5_in p2.toInt64 1 100) = 0 then
      (((-2) : Int32), om)
    else
      if (fX5_in p1.toInt64 0 p2.toInt64) = 0 then
        (((-2) : Int32), om)
      else
        ((fX5_quick_L51 p0 p1 p2 (-6) om (10)).1, (ua (fX5_quick_L51 p0 p1 p2 (-6) om (10)).2 2 p0.toNatClampNeg ((om.2 2) p0.toNatClampNeg)))

def fX5_seen (om : OV) (p0 : Int32) (p1 : Int32) : (Int32 × OV) :=
  if (fX5_in p0.toInt64 1 2) = 0 then
    if (fX5_in p0.toInt64 0 2) = 0 then
      (((-2) : Int32), om)
    else
      if p0 = 0 then
        if (fX5_in p1.toInt64 0 63) = 0 then
          (((-2) : Int32), om)
        else
          if (om.1 11) = 6 then
            (((-4) : Int32), om)
          else
            (((om.1 11) + 1), (us (ua (ua om 9 (om.1 11).toNatClampNeg p0) 10 (om.1 11).toNatClampNeg p1) 11 ((om.1 11) + 1)))
      else
        if (om.1 11) = 6 then
          (((-4) : Int32), om)
        else
          (((om.1 11) + 1), (us (ua (ua om 9 (om.1 11).toNatClampNeg p0) 10 (om.1 11).toNatClampNeg p1) 11 ((om.1 11) + 1)))
  else
    if (fX5_isPerson p1) = 0 then
      (((-1) : Int32), om)
    else
      if (fX5_in p0.toInt64 0 2) = 0 then
        (((-2) : Int32), om)
      else
        if p0 = 0 then
          if (fX5_in p1.toInt64 0 63) = 0 then
            (((-2) : Int32), om)
          else
            if (om.1 11) = 6 then
              (((-4) : Int32), om)
            else
              (((om.1 11) + 1), (us (ua (ua om 9 (om.1 11).toNatClampNeg p0) 10 (om.1 11).toNatClampNeg p1) 11 ((om.1 11) + 1)))
        else
          if (om.1 11) = 6 then
            (((-4) : Int32), om)
          else
            (((om.1 11) + 1), (us (ua (ua om 9 (om.1 11).toNatClampNeg p0) 10 (om.1 11).toNatClampNeg p1) 11 ((om.1 11) + 1)))

def fX5_forget (om : OV) : (Int32 × OV) :=
  ((om.1 11), (us om 11 0))

def fX5_holds (om : OV) (p0 : Int32) (p1 : Int32) : Int32 :=
  (if ((om.2 9) p0.toNatClampNeg) = 0 then (if p1 = ((om.2 10) p0.toNatClampNeg) then (1 : Int32) else 0) else (if ((p1 >>> (((om.2 10) p0.toNatClampNeg) &&& 31)) &&& 1) = (if ((om.2 9) p0.toNatClampNeg) = 1 then (1 : Int32) else 0) then (1 : Int32) else 0))
theorem zX5_holds (om : OV) (p0 : Int32) (p1 : Int32) : fX5_holds om p0 p1 = 0 ∨ fX5_holds om p0 p1 = 1 := by
  unfold fX5_holds
  repeat' split
  all_goals first | exact Or.inl rfl | exact Or.inr rfl | exact if_z (Or.inr rfl) (Or.inl rfl) | exact if_z (Or.inl rfl) (Or.inr rfl)

def fX5_fits_L22s_x9  (x9 : Int32) : Int32 :=
  x9
def fX5_fits_L22s (om : OV) (k1 : Nat) (k3 : Nat) (x4_3 : Int32) : Int32 :=
  fX5_fits_L22s_x9  (if x4_3 = 0 then (0 : Int32) else (if (fX5_holds om (nI k3) (fX5_rulersBy om (nI k1))) = 0 then (0 : Int32) else 1))
def fX5_fits_L22 (om : OV) (k1 : Nat) (ix4_3 : Int32) : Nat → Int32
  | 0 => ix4_3
  | k3 + 1 => fX5_fits_L22s om k1 k3 (fX5_fits_L22 om k1 ix4_3 k3)
def fX5_fits_L4s_x13  (x13 : Int32) : Int32 :=
  x13
def fX5_fits_L4s (om : OV) (k1 : Nat) (x1_1 : Int32) : Int32 :=
  fX5_fits_L4s_x13  (x1_1 ||| (if (fX5_fits_L22 om k1 1 ((om.1 11).toNatClampNeg)) = 0 then (0 : Int32) else (1 <<< ((nI k1) &&& 31))))
def fX5_fits_L4 (om : OV) (ix1_1 : Int32) : Nat → Int32
  | 0 => ix1_1
  | k1 + 1 => fX5_fits_L4s om k1 (fX5_fits_L4 om ix1_1 k1)
def fX5_fits (om : OV) : Int32 :=
  (fX5_fits_L4 om 0 (10))

def fX5_year_L58s_x6_x13 (x4_4 : Int32) (om4 : OV) (x6 : Int32) (x13 : Int32) : Int32 × Int32 × OV :=
  (x13, (((75 * x4_4.toInt64) + 74) - ((75 * x4_4.toInt64) + 74) / 65537 * 65537).toInt32, (fX5_rule om4 (if x6 = 0 then (om4.1 16) else x6)))
def fX5_year_L58s_x6 (p2 : Int32) (x5_4 : Int32) (x4_4 : Int32) (om4 : OV) (x6 : Int32) : Int32 × Int32 × OV :=
  fX5_year_L58s_x6_x13 x4_4 om4 x6 (x5_4 + (if 6 ≤ p2 then (if ((fX5_rule om4 (if x6 = 0 then (om4.1 16) else x6)).1 16) = 0 then (1 : Int32) else 0) else ((((fX5_rule om4 (if x6 = 0 then (om4.1 16) else x6)).1 16) >>> (p2 &&& 31)) &&& 1)))
def fX5_year_L58s (p2 : Int32) (k4 : Nat) (x5_4 : Int32) (x4_4 : Int32) (om4 : OV) : Int32 × Int32 × OV :=
  fX5_year_L58s_x6 p2 x5_4 x4_4 om4 (fX5_rulersBy om4 ((((75 * x4_4.toInt64) + 74) - ((75 * x4_4.toInt64) + 74) / 65537 * 65537).toInt32 - (((75 * x4_4.toInt64) + 74) - ((75 * x4_4.toInt64) + 74) / 65537 * 65537).toInt32 / 10 * 10))
def fX5_year_L58 (p2 : Int32) (ix5_4 : Int32) (ix4_4 : Int32) (iom4 : OV) : Nat → Int32 × Int32 × OV
  | 0 => (ix5_4, ix4_4, iom4)
  | k4 + 1 => fX5_year_L58s p2 k4 (fX5_year_L58 p2 ix5_4 ix4_4 iom4 k4).1 (fX5_year_L58 p2 ix5_4 ix4_4 iom4 k4).2.1 (fX5_year_L58 p2 ix5_4 ix4_4 iom4 k4).2.2
def fX5_year (om : OV) (p0 : Int32) (p1 : Int32) (p2 : Int32) : (Int32 × OV) :=
  if (fX5_in p0.toInt64 0 9999) = 0 then
    (((-2) : Int32), om)
  else
    if (fX5_in p1.toInt64 1 99) = 0 then
      (((-2) : Int32), om)
    else
      if (fX5_in p2.toInt64 0 7) = 0 then
        (((-2) : Int32), om)
      else
        ((if p2 = 7 then ((fX5_year_L58 p2 0 p0 (us (us om 15 0) 16 0) ((p1.toNatClampNeg))).2.2.1 15) else (fX5_year_L58 p2 0 p0 (us (us om 15 0) 16 0) ((p1.toNatClampNeg))).1), (fX5_year_L58 p2 0 p0 (us (us om 15 0) 16 0) ((p1.toNatClampNeg))).2.2)

def fX5_told_is9 (om : OV) (p0 : Int32) (is9 : Int32) : Int32 :=
  (if is9 = 0 then ((-2) : Int32) else (if (p0 - p0 / 10 * 10) = 0 then ((om.2 1) ((p0 / 10) - 2).toNatClampNeg) else (if (p0 - p0 / 10 * 10) = 1 then ((om.2 2) ((p0 / 10) - 2).toNatClampNeg) else (if (p0 - p0 / 10 * 10) = 2 then ((om.2 3) ((p0 / 10) - 2).toNatClampNeg) else (((om.1 4) >>> (((p0 / 10) - 2) &&& 31)) &&& 1)))))
def fX5_told (om : OV) (p0 : Int32) : Int32 :=
  if (fX5_in p0.toInt64 10 19) = 0 then
    if (fX5_in p0.toInt64 20 79) = 0 then
      if p0 = 0 then
        (om.1 13)
      else
        if p0 = 1 then
          (om.1 0)
        else
          if p0 = 2 then
            (om.1 6)
          else
            if p0 = 3 then
              (om.1 7)
            else
              if p0 = 4 then
                (om.1 5)
              else
                if p0 = 5 then
                  (om.1 11)
                else
                  (-2)
    else
      fX5_told_is9 om p0 (if (fX5_isThere om ((p0 / 10) - 2)) = 0 then (0 : Int32) else (if 4 ≤ (p0 - p0 / 10 * 10) then (0 : Int32) else 1))
  else
    ((om.2 8) (p0 - 10).toNatClampNeg)

def fX5_rests_L62s (p0 : Int32) (k8 : Nat) (x5_8 : Int32) (x4_8 : Int32) (om8 : OV) : Int32 × Int32 × OV :=
  if (fX5_areAtRest (fX5_layPlaces om8 (nI k8))).1 = 0 then
    (x5_8, x4_8, (fX5_areAtRest (fX5_layPlaces om8 (nI k8))).2)
  else
    ((if x4_8 = p0 then (nI k8) else x5_8), (x4_8 + 1), (fX5_areAtRest (fX5_layPlaces om8 (nI k8))).2)
def fX5_rests_L62 (p0 : Int32) (ix5_8 : Int32) (ix4_8 : Int32) (iom8 : OV) : Nat → Int32 × Int32 × OV
  | 0 => (ix5_8, ix4_8, iom8)
  | k8 + 1 => fX5_rests_L62s p0 k8 (fX5_rests_L62 p0 ix5_8 ix4_8 iom8 k8).1 (fX5_rests_L62 p0 ix5_8 ix4_8 iom8 k8).2.1 (fX5_rests_L62 p0 ix5_8 ix4_8 iom8 k8).2.2
def fX5_rests_rows (om : OV) (p0 : Int32) (rows : Int32) : (Int32 × OV) :=
  ((if p0 = (-1) then (fX5_rests_L62 p0 (-6) 0 (fX5_keepPlaces om) ((rows.toNatClampNeg))).2.1 else (fX5_rests_L62 p0 (-6) 0 (fX5_keepPlaces om) ((rows.toNatClampNeg))).1), (fX5_putPlaces ((fX5_rests_L62 p0 (-6) 0 (fX5_keepPlaces om) ((rows.toNatClampNeg))).2.2)))
def fX5_rests (om : OV) (p0 : Int32) : (Int32 × OV) :=
  if (fX5_ones (om.1 0)) ≤ 3 then
    fX5_rests_rows om p0 (if (fX5_ones (om.1 0)) = 0 then (1 : Int32) else (if (fX5_ones (om.1 0)) = 1 then (10 : Int32) else (if (fX5_ones (om.1 0)) = 2 then (100 : Int32) else 1000)))
  else
    (((-4) : Int32), om)

def fX5_carry (om : OV) (p0 : Int32) : (Int32 × OV) :=
  ((if (om.1 23) = 0 then ((om.2 20) (om.1 22).toNatClampNeg) else p0), (us (ua om 20 (om.1 22).toNatClampNeg (if (om.1 23) = 0 then ((om.2 20) (om.1 22).toNatClampNeg) else p0)) 22 ((om.1 22) + 1)))

def fX5_passAll_L74s_c9_c10_c11_c12_c13 (k7 : Nat) (v13 : Int32) (om13c : OV) : OV :=
  (ua om13c 10 (nI k7).toNatClampNeg v13)
def fX5_passAll_L74s_c9_c10_c11_c12 (k7 : Nat) (v12 : Int32) (om12c : OV) : OV :=
  fX5_passAll_L74s_c9_c10_c11_c12_c13 k7 (fX5_carry (ua om12c 9 (nI k7).toNatClampNeg v12) ((om12c.2 10) (nI k7).toNatClampNeg)).1 (fX5_carry (ua om12c 9 (nI k7).toNatClampNeg v12) ((om12c.2 10) (nI k7).toNatClampNeg)).2
def fX5_passAll_L74s_c9_c10_c11 (k7 : Nat) (v11 : Int32) (om11c : OV) : OV :=
  fX5_passAll_L74s_c9_c10_c11_c12 k7 (fX5_carry (ua om11c 3 (nI k7).toNatClampNeg v11) ((om11c.2 9) (nI k7).toNatClampNeg)).1 (fX5_carry (ua om11c 3 (nI k7).toNatClampNeg v11) ((om11c.2 9) (nI k7).toNatClampNeg)).2
def fX5_passAll_L74s_c9_c10 (k7 : Nat) (v10 : Int32) (om10c : OV) : OV :=
  fX5_passAll_L74s_c9_c10_c11 k7 (fX5_carry (ua om10c 2 (nI k7).toNatClampNeg v10) ((om10c.2 3) (nI k7).toNatClampNeg)).1 (fX5_carry (ua om10c 2 (nI k7).toNatClampNeg v10) ((om10c.2 3) (nI k7).toNatClampNeg)).2
def fX5_passAll_L74s_c9 (k7 : Nat) (v9 : Int32) (om9c : OV) : OV :=
  fX5_passAll_L74s_c9_c10 k7 (fX5_carry (ua om9c 1 (nI k7).toNatClampNeg v9) ((om9c.2 2) (nI k7).toNatClampNeg)).1 (fX5_carry (ua om9c 1 (nI k7).toNatClampNeg v9) ((om9c.2 2) (nI k7).toNatClampNeg)).2
def fX5_passAll_L74s  (k7 : Nat) (om7 : OV) : OV :=
  fX5_passAll_L74s_c9 k7 (fX5_carry om7 ((om7.2 1) (nI k7).toNatClampNeg)).1 (fX5_carry om7 ((om7.2 1) (nI k7).toNatClampNeg)).2
def fX5_passAll_L74  (iom7 : OV) : Nat → OV
  | 0 => iom7
  | k7 + 1 => fX5_passAll_L74s  k7 (fX5_passAll_L74 iom7 k7)
def fX5_passAll_L168s_c17 (k15 : Nat) (v17 : Int32) (om17c : OV) : OV :=
  (ua om17c 8 (nI k15).toNatClampNeg v17)
def fX5_passAll_L168s  (k15 : Nat) (om15 : OV) : OV :=
  fX5_passAll_L168s_c17 k15 (fX5_carry om15 ((om15.2 8) (nI k15).toNatClampNeg)).1 (fX5_carry om15 ((om15.2 8) (nI k15).toNatClampNeg)).2
def fX5_passAll_L168  (iom15 : OV) : Nat → OV
  | 0 => iom15
  | k15 + 1 => fX5_passAll_L168s  k15 (fX5_passAll_L168 iom15 k15)
def fX5_passAll_c1_c2_c3_c4_c5_c6  (v6 : Int32) (om6c : OV) : OV :=
  (fX5_passAll_L168 (fX5_passAll_L74 (us om6c 11 v6) (6)) (10))
def fX5_passAll_c1_c2_c3_c4_c5  (v5 : Int32) (om5c : OV) : OV :=
  fX5_passAll_c1_c2_c3_c4_c5_c6  (fX5_carry (us om5c 7 v5) (om5c.1 11)).1 (fX5_carry (us om5c 7 v5) (om5c.1 11)).2
def fX5_passAll_c1_c2_c3_c4  (v4 : Int32) (om4c : OV) : OV :=
  fX5_passAll_c1_c2_c3_c4_c5  (fX5_carry (us om4c 6 v4) (om4c.1 7)).1 (fX5_carry (us om4c 6 v4) (om4c.1 7)).2
def fX5_passAll_c1_c2_c3  (v3 : Int32) (om3c : OV) : OV :=
  fX5_passAll_c1_c2_c3_c4  (fX5_carry (us om3c 5 v3) (om3c.1 6)).1 (fX5_carry (us om3c 5 v3) (om3c.1 6)).2
def fX5_passAll_c1_c2  (v2 : Int32) (om2c : OV) : OV :=
  fX5_passAll_c1_c2_c3  (fX5_carry (us om2c 4 v2) (om2c.1 5)).1 (fX5_carry (us om2c 4 v2) (om2c.1 5)).2
def fX5_passAll_c1  (v1 : Int32) (om1c : OV) : OV :=
  fX5_passAll_c1_c2  (fX5_carry (us om1c 0 v1) (om1c.1 4)).1 (fX5_carry (us om1c 0 v1) (om1c.1 4)).2
def fX5_passAll (om : OV) : OV :=
  fX5_passAll_c1  (fX5_carry om (om.1 0)).1 (fX5_carry om (om.1 0)).2

def fX5_image (om : OV) (p0 : Int32) : (Int32 × OV) :=
  if (fX5_in p0.toInt64 0 1) = 0 then
    (((-2) : Int32), om)
  else
    ((1 : Int32), (ua (fX5_passAll (us (us om 22 (80 * p0)) 23 1)) 21 p0.toNatClampNeg (vp_nar .boolean 1)))

def fX5_restore (om : OV) (p0 : Int32) : (Int32 × OV) :=
  if (fX5_in p0.toInt64 0 1) = 0 then
    (((-2) : Int32), om)
  else
    if ((om.2 21) p0.toNatClampNeg) = 0 then
      (((-3) : Int32), om)
    else
      ((1 : Int32), (fX5_passAll (us (us om 22 (80 * p0)) 23 0)))

