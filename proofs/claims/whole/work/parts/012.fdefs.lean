def fX4_within (p0 : Int32) (p1 : Int32) (p2 : Int32) : Int32 :=
  (if p0 < p1 then 0 else (if p2 < p0 then 0 else 1))
theorem zX4_within (p0 : Int32) (p1 : Int32) (p2 : Int32) : fX4_within p0 p1 p2 = 0 ∨ fX4_within p0 p1 p2 = 1 := by
  unfold fX4_within
  repeat' split
  all_goals first | exact Or.inl rfl | exact Or.inr rfl | exact if_z (Or.inr rfl) (Or.inl rfl) | exact if_z (Or.inl rfl) (Or.inr rfl)

def fX4_isPlace (p0 : Int32) : Int32 :=
  (fX4_within p0 0 9)
theorem zX4_isPlace (p0 : Int32) : fX4_isPlace p0 = 0 ∨ fX4_isPlace p0 = 1 := by
  unfold fX4_isPlace
  repeat' split
  all_goals first | exact Or.inl rfl | exact Or.inr rfl | exact if_z (Or.inr rfl) (Or.inl rfl) | exact if_z (Or.inl rfl) (Or.inr rfl) | exact zX4_within _ _ _

def fX4_hasBit (p0 : Int32) (p1 : Int32) : Int32 :=
  (if ((p0 >>> (p1 &&& 31)) &&& 1) = 1 then 1 else 0)
theorem zX4_hasBit (p0 : Int32) (p1 : Int32) : fX4_hasBit p0 p1 = 0 ∨ fX4_hasBit p0 p1 = 1 := by
  unfold fX4_hasBit
  repeat' split
  all_goals first | exact Or.inl rfl | exact Or.inr rfl | exact if_z (Or.inr rfl) (Or.inl rfl) | exact if_z (Or.inl rfl) (Or.inr rfl)

def fX4_withBit (p0 : Int32) (p1 : Int32) (p2 : Int32) : Int32 :=
  (if p2 = 0 then (p0 &&& ((1 <<< (p1 &&& 31)) ^^^ (-1))) else (p0 ||| (1 <<< (p1 &&& 31))))

def fX4_firstPerson_L2 (p0 : Int32) : Nat → Nat → Int32
  | 0, k1 =>
    (-6)
  | r1 + 1, k1 =>
    if (fX4_hasBit p0 (nI k1)) = 0 then
      fX4_firstPerson_L2 p0 r1 (k1 + 1)
    else
      (nI k1)
def fX4_firstPerson (p0 : Int32) : Int32 :=
  fX4_firstPerson_L2 p0 (6) 0

def fX4_commonDivisor_L7  : Nat → Nat → Int32 → Int32 → Int32
  | 0, k1, x3_1, x2_1 =>
    x2_1
  | r1 + 1, k1, x3_1, x2_1 =>
    if x3_1 = 0 then
      x2_1
    else
      fX4_commonDivisor_L7 r1 (k1 + 1) (x2_1 - x2_1 / x3_1 * x3_1) x3_1
def fX4_commonDivisor (p0 : Int32) (p1 : Int32) : Int32 :=
  fX4_commonDivisor_L7 (1000) 0 p1 p0

def fX4_fraction (p0 : Int32) (p1 : Int32) (p2 : Int32) : Int64 :=
  if 1 ≤ (fX4_commonDivisor p0 p1) then
    ((if p2 = 0 then p0 else p1) / (fX4_commonDivisor p0 p1)).toInt64
  else
    0

def fJ6_bitCount_0f7a4 (p0 : Int32) : Int32 :=
  let x1 : Int32 := (p0 - ((p0.toUInt32 >>> ((1 : Int32).toUInt32 &&& Int32.toUInt32 31)).toInt32 &&& 1431655765))
  let x2 : Int32 := ((x1 &&& 858993459) + ((x1.toUInt32 >>> ((2 : Int32).toUInt32 &&& Int32.toUInt32 31)).toInt32 &&& 858993459))
  let x3 : Int32 := ((x2 + (x2.toUInt32 >>> ((4 : Int32).toUInt32 &&& Int32.toUInt32 31)).toInt32) &&& 252645135)
  let x4 : Int32 := ((x3 + (x3.toUInt32 >>> ((8 : Int32).toUInt32 &&& Int32.toUInt32 31)).toInt32) + ((x3 + (x3.toUInt32 >>> ((8 : Int32).toUInt32 &&& Int32.toUInt32 31)).toInt32).toUInt32 >>> ((16 : Int32).toUInt32 &&& Int32.toUInt32 31)).toInt32)
  (x4 &&& 63)

def fJ7_fill_53178_L5s (p0 : Int32) (k1 : Nat) (oz1 : (Nat → Int32)) : (Nat → Int32) :=
  (upd oz1 (nI k1).toNatClampNeg p0)
def fJ7_fill_53178_L5 (p0 : Int32) (ioz1 : (Nat → Int32)) : Nat → (Nat → Int32)
  | 0 => ioz1
  | k1 + 1 => fJ7_fill_53178_L5s p0 k1 (fJ7_fill_53178_L5 p0 ioz1 k1)
def fJ7_fill_53178 (nz : Nat) (oz : Nat → Int32) (p0 : Int32) : (Nat → Int32) :=
  (fJ7_fill_53178_L5 p0 oz (nz))

def fX0_isThere (oc : OV) (p0 : Int32) : Int32 :=
  (if (fX4_within p0 0 5) = 0 then 0 else (if (fX4_hasBit (oc.1 2) p0) = 0 then 0 else 1))
theorem zX0_isThere (oc : OV) (p0 : Int32) : fX0_isThere oc p0 = 0 ∨ fX0_isThere oc p0 = 1 := by
  unfold fX0_isThere
  repeat' split
  all_goals first | exact Or.inl rfl | exact Or.inr rfl | exact if_z (Or.inr rfl) (Or.inl rfl) | exact if_z (Or.inl rfl) (Or.inr rfl) | exact zX4_within _ _ _ | exact zX4_hasBit _ _

def fX0_umbrellas (oc : OV) : Int32 :=
  ((oc.1 2) &&& ((oc.1 3) ^^^ (-1)))

def fX0_openTimeAt (oc : OV) (p0 : Int32) (p1 : Int32) (p2 : Int32) : Int32 :=
  ((((if 0 ≤ (p0 - p2) then (p0 - p2) else 0 - (p0 - p2)) * (oc.1 0)) + (if (fX4_hasBit (oc.1 5) p0) = 0 then 0 else (oc.1 1))) + p1)

def fX0_openTime (oc : OV) (p0 : Int32) (p1 : Int32) : Int32 :=
  (if (fX4_within p0 0 5) = 0 then (-6) else (fX0_openTimeAt oc ((oc.2 7) p0.toNatClampNeg) ((oc.2 8) p0.toNatClampNeg) p1))

def fX0_firstOf_L9s (oc : OV) (p0 : Int32) (p1 : Int32) (k1 : Nat) (x4_1 : Int32) (x3_1 : Int32) : Int32 × Int32 :=
  if (fX4_hasBit p0 (nI k1)) = 0 then
    (x4_1, x3_1)
  else
    let x8 : Int32 := (if x4_1 ≤ (fX0_openTimeAt oc ((oc.2 7) (nI k1).toNatClampNeg) ((oc.2 8) (nI k1).toNatClampNeg) p1) then (if (fX0_openTimeAt oc ((oc.2 7) (nI k1).toNatClampNeg) ((oc.2 8) (nI k1).toNatClampNeg) p1) = x4_1 then (x3_1 ||| (1 <<< ((nI k1) &&& 31))) else x3_1) else (1 <<< ((nI k1) &&& 31)))
    let x9 : Int32 := (if (fX0_openTimeAt oc ((oc.2 7) (nI k1).toNatClampNeg) ((oc.2 8) (nI k1).toNatClampNeg) p1) < x4_1 then (fX0_openTimeAt oc ((oc.2 7) (nI k1).toNatClampNeg) ((oc.2 8) (nI k1).toNatClampNeg) p1) else x4_1)
    (x9, x8)
def fX0_firstOf_L9 (oc : OV) (p0 : Int32) (p1 : Int32) (ix4_1 : Int32) (ix3_1 : Int32) : Nat → Int32 × Int32
  | 0 => (ix4_1, ix3_1)
  | k1 + 1 => fX0_firstOf_L9s oc p0 p1 k1 (fX0_firstOf_L9 oc p0 p1 ix4_1 ix3_1 k1).1 (fX0_firstOf_L9 oc p0 p1 ix4_1 ix3_1 k1).2
def fX0_firstOf (oc : OV) (p0 : Int32) (p1 : Int32) : Int32 :=
  (fX0_firstOf_L9 oc p0 p1 2147483647 0 (6)).2

def fX0_rulers (oc : OV) (p0 : Int32) : Int32 :=
  (fX0_firstOf oc (fX0_umbrellas oc) p0)

def fX0_sprinkled_L5s (oc : OV) (p1 : Int32) (k1 : Nat) (x3_1 : Int32) : Int32 :=
  (if ((oc.2 7) (nI k1).toNatClampNeg) = p1 then x3_1 else (fX4_withBit x3_1 (nI k1) 0))
def fX0_sprinkled_L5 (oc : OV) (p1 : Int32) (ix3_1 : Int32) : Nat → Int32
  | 0 => ix3_1
  | k1 + 1 => fX0_sprinkled_L5s oc p1 k1 (fX0_sprinkled_L5 oc p1 ix3_1 k1)
def fX0_sprinkled (oc : OV) (p0 : Int32) (p1 : Int32) : Int32 :=
  (fX0_firstOf oc (fX0_sprinkled_L5 oc p1 p0 (6)) p1)

def fX0_allWeights_L4s (oc : OV) (k1 : Nat) (x1_1 : Int32) : Int32 :=
  (x1_1 + ((oc.2 9) (nI k1).toNatClampNeg))
def fX0_allWeights_L4 (oc : OV) (ix1_1 : Int32) : Nat → Int32
  | 0 => ix1_1
  | k1 + 1 => fX0_allWeights_L4s oc k1 (fX0_allWeights_L4 oc ix1_1 k1)
def fX0_allWeights (oc : OV) : Int32 :=
  (fX0_allWeights_L4 oc 0 (10))

def fX0_allShares (oc : OV) : Int32 :=
  ((fX0_allWeights oc) * 60)

def fX0_shareOf_L4s (oc : OV) (p0 : Int32) (k1 : Nat) (x2_1 : Int32) : Int32 :=
  if (fJ6_bitCount_0f7a4 (fX0_firstOf oc (fX0_umbrellas oc) (nI k1))) ≤ 0 then
    x2_1
  else
    let x4 : Int32 := (x2_1 + ((((oc.2 9) (nI k1).toNatClampNeg) * (60 / (fJ6_bitCount_0f7a4 (fX0_firstOf oc (fX0_umbrellas oc) (nI k1))))) * (fJ6_bitCount_0f7a4 ((fX0_firstOf oc (fX0_umbrellas oc) (nI k1)) &&& p0))))
    x4
def fX0_shareOf_L4 (oc : OV) (p0 : Int32) (ix2_1 : Int32) : Nat → Int32
  | 0 => ix2_1
  | k1 + 1 => fX0_shareOf_L4s oc p0 k1 (fX0_shareOf_L4 oc p0 ix2_1 k1)
def fX0_shareOf (oc : OV) (p0 : Int32) : Int32 :=
  (fX0_shareOf_L4 oc p0 0 (10))

def fX0_fitsSights_L2 (oc : OV) (p0 : Int32) : Nat → Nat → Int32
  | 0, k1 =>
    if (oc.1 6) ≤ (nI k1) then
      1
    else
      1
  | r1 + 1, k1 =>
    if (oc.1 6) ≤ (nI k1) then
      1
    else
      let x12 : Int32 := (if ((oc.2 10) (nI k1).toNatClampNeg) = 0 then (if p0 = ((oc.2 11) (nI k1).toNatClampNeg) then 1 else 0) else (if (fX4_hasBit p0 ((oc.2 11) (nI k1).toNatClampNeg)) = (if ((oc.2 10) (nI k1).toNatClampNeg) = 1 then 1 else 0) then 1 else 0))
      if x12 = 0 then
        0
      else
        fX0_fitsSights_L2 oc p0 r1 (k1 + 1)
def fX0_fitsSights (oc : OV) (p0 : Int32) : Int32 :=
  fX0_fitsSights_L2 oc p0 (6) 0

def fX0_put (oc : OV) (p0 : Int32) (p1 : Int32) (p2 : Int32) : OV :=
  if (fX4_within p0 0 5) = 0 then
    oc
  else
    (ua (ua oc 7 p0.toNatClampNeg p1) 8 p0.toNatClampNeg p2)

def fX0_addSight (oc : OV) (p0 : Int32) (p1 : Int32) : (Int32 × OV) :=
  if (fX4_within (oc.1 6) 0 5) = 0 then
    (0, oc)
  else
    (1, (us (ua (ua oc 10 (oc.1 6).toNatClampNeg p0) 11 (oc.1 6).toNatClampNeg p1) 6 ((oc.1 6) + 1)))

def fX0_copyFrom (ou : OV) (oc : OV) : OV :=
  (ub (ub (ub (ub (ub (us (us (us (us (us (us (us ou 0 (oc.1 0)) 1 (oc.1 1)) 2 (oc.1 2)) 3 (oc.1 3)) 4 (oc.1 4)) 5 (oc.1 5)) 6 (oc.1 6)) 7 (va_cpy (oc.2 7) (ou.2 7) (0 : Int32).toNatClampNeg (0 : Int32).toNatClampNeg (6 : Int32).toNatClampNeg)) 8 (va_cpy (oc.2 8) (ou.2 8) (0 : Int32).toNatClampNeg (0 : Int32).toNatClampNeg (6 : Int32).toNatClampNeg)) 9 (va_cpy (oc.2 9) (ou.2 9) (0 : Int32).toNatClampNeg (0 : Int32).toNatClampNeg (10 : Int32).toNatClampNeg)) 10 (va_cpy (oc.2 10) (ou.2 10) (0 : Int32).toNatClampNeg (0 : Int32).toNatClampNeg (6 : Int32).toNatClampNeg)) 11 (va_cpy (oc.2 11) (ou.2 11) (0 : Int32).toNatClampNeg (0 : Int32).toNatClampNeg (6 : Int32).toNatClampNeg))

def fX2_takesAnother (p0 : Int32) : Int32 :=
  (if p0 = 33 then 1 else (if p0 = 45 then 1 else (if p0 = 126 then 1 else 0)))
theorem zX2_takesAnother (p0 : Int32) : fX2_takesAnother p0 = 0 ∨ fX2_takesAnother p0 = 1 := by
  unfold fX2_takesAnother
  repeat' split
  all_goals first | exact Or.inl rfl | exact Or.inr rfl | exact if_z (Or.inr rfl) (Or.inl rfl) | exact if_z (Or.inl rfl) (Or.inr rfl)

def fX2_canBegin (p0 : Int32) : Int32 :=
  (if (fX4_within p0 48 57) = 0 then (if p0 = 46 then 1 else (if (fX2_takesAnother p0) = 0 then 0 else 1)) else 1)
theorem zX2_canBegin (p0 : Int32) : fX2_canBegin p0 = 0 ∨ fX2_canBegin p0 = 1 := by
  unfold fX2_canBegin
  repeat' split
  all_goals first | exact Or.inl rfl | exact Or.inr rfl | exact if_z (Or.inr rfl) (Or.inl rfl) | exact if_z (Or.inl rfl) (Or.inr rfl) | exact zX4_within _ _ _ | exact zX2_takesAnother _

def fX2_canFollow (p0 : Int32) (p1 : Int32) : Int32 :=
  if p0 = 33 then
    (fX4_within p1 48 57)
  else
    if p0 = 45 then
      (fX4_within p1 49 57)
    else
      (fX4_within p1 65 70)
theorem zX2_canFollow (p0 : Int32) (p1 : Int32) : fX2_canFollow p0 p1 = 0 ∨ fX2_canFollow p0 p1 = 1 := by
  unfold fX2_canFollow
  repeat' split
  all_goals first | exact Or.inl rfl | exact Or.inr rfl | exact if_z (Or.inr rfl) (Or.inl rfl) | exact if_z (Or.inl rfl) (Or.inr rfl) | exact zX4_within _ _ _

def fX2_sign (og : OV) (p0 : Int32) : Int32 :=
  (if (fX4_within p0 0 39) = 0 then 0 else ((og.2 0) p0.toNatClampNeg))

def fX2_write (og : OV) (p0 : Int32) : (Int32 × OV) :=
  if (fX4_within (og.1 1) 0 39) = 0 then
    (0, og)
  else
    (1, (us (ua og 0 (og.1 1).toNatClampNeg p0) 1 ((og.1 1) + 1)))

def fX2_firstFault_L4 (og : OV) : Nat → Nat → Int32 → Int32
  | 0, k1, x1_1 =>
    (if x1_1 = 0 then (-6) else (og.1 1))
  | r1 + 1, k1, x1_1 =>
    let x5 : Int32 := (if x1_1 = 0 then (fX2_canBegin (fX2_sign og (nI k1))) else (fX2_canFollow x1_1 (fX2_sign og (nI k1))))
    if x5 = 0 then
      (nI k1)
    else
      let x11 : Int32 := (if x1_1 = 0 then (if (fX2_takesAnother (fX2_sign og (nI k1))) = 0 then 0 else (fX2_sign og (nI k1))) else 0)
      fX2_firstFault_L4 og r1 (k1 + 1) x11
def fX2_firstFault (og : OV) : Int32 :=
  fX2_firstFault_L4 og ((og.1 1).toNatClampNeg) 0 0

def fX2_parts_L4s (og : OV) (k1 : Nat) (x1_1 : Int32) : Int32 :=
  if (fX2_takesAnother (fX2_sign og (nI k1))) = 0 then
    (x1_1 + 1)
  else
    x1_1
def fX2_parts_L4 (og : OV) (ix1_1 : Int32) : Nat → Int32
  | 0 => ix1_1
  | k1 + 1 => fX2_parts_L4s og k1 (fX2_parts_L4 og ix1_1 k1)
def fX2_parts (og : OV) : Int32 :=
  (fX2_parts_L4 og 0 ((og.1 1).toNatClampNeg))

def fX1_begin (oy : OV) : OV :=
  (ub (us (us (us oy 2 0) 3 0) 4 0) 1 (fJ7_fill_53178 9 (oy.2 1) 0))

def fX1_become (oy : OV) (p0 : Int32) : OV :=
  if p0 = (oy.1 2) then
    (us oy 2 p0)
  else
    if p0 = 0 then
      (us oy 2 p0)
    else
      (us (us oy 4 ((oy.1 4) + 1)) 2 p0)

def fX1_opened (oy : OV) (p0 : Int32) : OV :=
  if p0 = 0 then
    oy
  else
    (fX1_become oy p0)

def fX1_umbrellas (oy : OV) (oc : OV) : Int32 :=
  ((fX0_umbrellas oc) &&& ((oy.1 3) ^^^ (-1)))

def fX1_rain (oy : OV) (oc : OV) (p0 : Int32) : OV :=
  (fX1_opened oy (fX0_firstOf oc (fX1_umbrellas oy oc) p0))

def fX1_breakUmbrella (oy : OV) (p0 : Int32) : OV :=
  (fX1_become (us oy 3 (fX4_withBit (oy.1 3) p0 1)) (fX4_withBit (oy.1 2) p0 0))

def fX1_pass_L2s (p0 : Int32) (k1 : Nat) (oy1 : OV) : OV :=
  (ua oy1 1 (nI k1).toNatClampNeg (((oy1.2 1) (nI k1).toNatClampNeg) + (if (fX4_hasBit (oy1.1 2) (nI k1)) = 0 then 0 else p0)))
def fX1_pass_L2 (p0 : Int32) (ioy1 : OV) : Nat → OV
  | 0 => ioy1
  | k1 + 1 => fX1_pass_L2s p0 k1 (fX1_pass_L2 p0 ioy1 k1)
def fX1_pass (oy : OV) (oc : OV) (p0 : Int32) : OV :=
  (ua (ua (ua (fX1_pass_L2 p0 oy (6)) 1 ((6 : Int32).toNatClampNeg) ((((fX1_pass_L2 p0 oy (6)).2 1) (6 : Int32).toNatClampNeg) + (if (((fX1_pass_L2 p0 oy (6)).1 2) &&& ((oc.1 4) ^^^ (-1))) = 0 then 0 else p0))) 1 ((7 : Int32).toNatClampNeg) ((((ua (fX1_pass_L2 p0 oy (6)) 1 ((6 : Int32).toNatClampNeg) ((((fX1_pass_L2 p0 oy (6)).2 1) (6 : Int32).toNatClampNeg) + (if (((fX1_pass_L2 p0 oy (6)).1 2) &&& ((oc.1 4) ^^^ (-1))) = 0 then 0 else p0))).2 1) (7 : Int32).toNatClampNeg) + (if (((fX1_pass_L2 p0 oy (6)).1 2) &&& (oc.1 4)) = 0 then 0 else p0))) 1 ((8 : Int32).toNatClampNeg) ((((ua (ua (fX1_pass_L2 p0 oy (6)) 1 ((6 : Int32).toNatClampNeg) ((((fX1_pass_L2 p0 oy (6)).2 1) (6 : Int32).toNatClampNeg) + (if (((fX1_pass_L2 p0 oy (6)).1 2) &&& ((oc.1 4) ^^^ (-1))) = 0 then 0 else p0))) 1 ((7 : Int32).toNatClampNeg) ((((ua (fX1_pass_L2 p0 oy (6)) 1 ((6 : Int32).toNatClampNeg) ((((fX1_pass_L2 p0 oy (6)).2 1) (6 : Int32).toNatClampNeg) + (if (((fX1_pass_L2 p0 oy (6)).1 2) &&& ((oc.1 4) ^^^ (-1))) = 0 then 0 else p0))).2 1) (7 : Int32).toNatClampNeg) + (if (((fX1_pass_L2 p0 oy (6)).1 2) &&& (oc.1 4)) = 0 then 0 else p0))).2 1) (8 : Int32).toNatClampNeg) + (if ((fX1_pass_L2 p0 oy (6)).1 2) = 0 then p0 else 0)))

def fX1_yearsOf (oy : OV) (p0 : Int32) : Int32 :=
  (if (fX4_within p0 0 8) = 0 then 0 else ((oy.2 1) p0.toNatClampNeg))

def fX1_happen (oy : OV) (oc : OV) (p0 : Int32) (p1 : Int32) : OV :=
  if p0 = 33 then
    (fX1_opened oy (fX0_sprinkled oc (fX1_umbrellas oy oc) (p1 - 48)))
  else
    if p0 = 45 then
      (fX1_pass (fX1_become oy 0) oc (p1 - 48))
    else
      if p0 = 126 then
        (fX1_breakUmbrella oy (p1 - 65))
      else
        if p1 = 46 then
          (fX1_pass oy oc 1)
        else
          (fX1_rain oy oc (p1 - 48))

def fX1_play_L12 (oc : OV) (og : OV) (p0 : Int32) : Nat → Nat → Int32 → Int32 → OV → OV
  | 0, k1, x4_1, x3_1, oy1 =>
    oy1
  | r1 + 1, k1, x4_1, x3_1, oy1 =>
    if p0 ≤ x4_1 then
      oy1
    else
      if (fX2_takesAnother (fX2_sign og (nI k1))) = 0 then
        fX1_play_L12 oc og p0 r1 (k1 + 1) (x4_1 + 1) 0 (fX1_happen oy1 oc x3_1 (fX2_sign og (nI k1)))
      else
        fX1_play_L12 oc og p0 r1 (k1 + 1) x4_1 (fX2_sign og (nI k1)) oy1
def fX1_play (oy : OV) (oc : OV) (og : OV) (p0 : Int32) : OV :=
  fX1_play_L12 oc og p0 ((og.1 1).toNatClampNeg) 0 0 0 (fX1_begin oy)

