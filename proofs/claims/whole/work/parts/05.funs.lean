def fX0_cell (σ : St) (p0 : Int32) (p1 : Int32) : Option (St × Int32) :=
  some (σ, ((p0 * 6) + p1))

def fX0_hasFilm (σ : St) (p0 : Int32) : Option (St × Int32) :=
  if p0 < 0 then
    some (σ, 0)
  else
    if (σ 5 6) ≤ p0 then
      some (σ, 0)
    else
      some (σ, 1)

def fX0_addFilm (σ : St) : Option (St × Int32) :=
  stp (up σ 5 6 ((σ 5 6) + 1)) fun σ1 =>
  some (σ1, ((σ1 5 6) - 1))

def fX7_clear (σ : St) (p0 : Int32) (p1 : Int32) : Option (St × Int32) :=
  stp (cu σ 37 (fl (σ 37) 24 (-1000000005))) fun σ1 =>
  stp (cu σ1 39 (fl (σ1 39) 30 0)) fun σ2 =>
  stp (up σ2 6 3 p0) fun σ3 =>
  stp (up σ3 6 4 p1) fun σ4 =>
  stp (up σ4 6 5 0) fun σ5 =>
  stp (up σ5 6 6 0) fun σ6 =>
  stp (up σ6 6 7 (-1)) fun σ7 =>
  some (σ7, 0)

def fX9_place (σ : St) (p0 : Int32) (p1 : Int32) : Option (St × Int32) :=
  some (σ, ((6 * p0) + p1))

def fX1_has (σ : St) (p0 : Int32) : Option (St × Int32) :=
  if p0 < 0 then
    some (σ, 0)
  else
    if (σ 1 5) ≤ p0 then
      some (σ, 0)
    else
      some (σ, 1)

def fX7_nextPlace_L14 : Nat → St → Int32 → Int32 → Option (St × Int32)
  | 0, _, _, _ => none
  | n + 1, σ, a3, a4 =>
    if a3 ≤ a4 then
      some (σ, 24)
    else
      obn (fX1_has σ (a4 - a4 / 6 * 6)) fun σ5 r6 =>
      if r6 = 0 then
        fX7_nextPlace_L14 n σ5 a3 (a4 + 1)
      else
        some (σ5, a4)
def fX7_nextPlace (σ : St) (p1 : Int32) : Option (St × Int32) :=
  obn (fX9_place σ ((σ 6 3) + 1) 0) fun σ1 r2 =>
  fX7_nextPlace_L14
    50 σ1 r2 p1

def fX7_keepIfBetter (σ : St) : Option (St × Int32) :=
  if (σ 6 6) ≤ (σ 6 7) then
    some (σ, 0)
  else
    stp (up σ 6 7 (σ 6 6)) fun σ2 =>
    stp (cu σ2 38 (va_cpy (σ2 37) (σ2 38) (Int32.toNatClampNeg 0) (Int32.toNatClampNeg 0) (Int32.toNatClampNeg 24))) fun σ3 =>
    some (σ3, 0)

def fX3_between_10 (σ : St) (p0 : Int32) (p1 : Int32) : Option (St × Int32) :=
  if ((p0 * 6) + p1) < 0 ∨ 36 ≤ ((p0 * 6) + p1).toNatClampNeg then none else
  some (σ, (σ 16 ((p0 * 6) + p1).toNatClampNeg))

def fX3_between_11 (σ : St) (p0 : Int32) (p1 : Int32) : Option (St × Int32) :=
  if ((p0 * 6) + p1) < 0 ∨ 36 ≤ ((p0 * 6) + p1).toNatClampNeg then none else
  some (σ, (σ 33 ((p0 * 6) + p1).toNatClampNeg))

def fX0_mayBe_L30 : Nat → St → Int32 → Int32 → Int32 → Int32 → Option (St × Int32)
  | 0, _, _, _, _, _ => none
  | n + 1, σ, a1, a2, a3, a6 =>
    if (σ 1 5) ≤ a6 then
      some (σ, 1)
    else
      obn (fX3_between_11 σ a2 a6) fun σ8 r9 =>
      obn (fX0_cell σ8 a1 a6) fun σ11 r12 =>
      if r12 < 0 ∨ 30 ≤ r12.toNatClampNeg then none else
      itp ((σ11 39 r12.toNatClampNeg) >>> ((if 0 < ((a3 - r9) + 1) then ((a3 - r9) + 1) else 0) &&& 31)) fun v15 =>
      if r9 ≤ 0 then
        fX0_mayBe_L30 n σ11 a1 a2 a3 (a6 + 1)
      else
        if v15 = 0 then
          fX0_mayBe_L30 n σ11 a1 a2 a3 (a6 + 1)
        else
          some (σ11, 0)
def fX0_mayBe (σ : St) (p0 : Int32) (p1 : Int32) (p2 : Int32) : Option (St × Int32) :=
  obn (fX0_cell σ p0 p1) fun σ1 r2 =>
  if r2 < 0 ∨ 30 ≤ r2.toNatClampNeg then none else
  itp (σ1 39 r2.toNatClampNeg) fun v5 =>
  if v5 = 0 then
    fX0_mayBe_L30
      50 σ1 p0 p1 p2 0
  else
    if (v5 <<< (1 &&& 31)) = (1 <<< (p2 &&& 31)) then
      fX0_mayBe_L30
        50 σ1 p0 p1 p2 0
    else
      some (σ1, 0)

def fX7_tryFilm (GX7_seek : St → Int32 → Option (St × Int32)) (σ : St) (p2 : Int32) (p3 : Int32) : Option (St × Int32) :=
  itp (p2 / 6) fun v1 =>
  itp (p2 - p2 / 6 * 6) fun v2 =>
  obn (fX0_mayBe σ p3 v2 v1) fun σ3 r4 =>
  if r4 = 0 then
    some (σ3, 0)
  else
    if (σ3 6 4) = 0 then
      stp (up σ3 6 5 1) fun σ45 =>
      some (σ45, 0)
    else
      stp (up σ3 6 4 ((σ3 6 4) - 1)) fun σ8 =>
      obn (fX0_cell σ8 p3 v2) fun σ9 r10 =>
      if r10 < 0 ∨ 30 ≤ r10.toNatClampNeg then none else
      itp (σ9 39 r10.toNatClampNeg) fun v13 =>
      if v13 = 0 then
        if r10 < 0 ∨ 30 ≤ r10.toNatClampNeg then none else
        itp (σ9 34 r10.toNatClampNeg) fun v31 =>
        if p2 < 0 ∨ 24 ≤ p2.toNatClampNeg then none else
        stp (up σ9 37 p2.toNatClampNeg p3) fun σ33 =>
        if r10 < 0 ∨ 30 ≤ r10.toNatClampNeg then none else
        stp (up σ33 39 r10.toNatClampNeg (v13 ||| (1 <<< (v1 &&& 31)))) fun σ35 =>
        stp (up σ35 6 6 ((σ35 6 6) + v31)) fun σ36 =>
        obn (GX7_seek σ36 (p2 + 1)) fun σ37 r38 =>
        stp (up σ37 6 6 ((σ37 6 6) - v31)) fun σ40 =>
        if r10 < 0 ∨ 30 ≤ r10.toNatClampNeg then none else
        stp (up σ40 39 r10.toNatClampNeg v13) fun σ42 =>
        if p2 < 0 ∨ 24 ≤ p2.toNatClampNeg then none else
        stp (up σ42 37 p2.toNatClampNeg (-1000000005)) fun σ44 =>
        some (σ44, 0)
      else
        if r10 < 0 ∨ 30 ≤ r10.toNatClampNeg then none else
        itp ((σ9 34 r10.toNatClampNeg) / 2) fun v16 =>
        if p2 < 0 ∨ 24 ≤ p2.toNatClampNeg then none else
        stp (up σ9 37 p2.toNatClampNeg p3) fun σ18 =>
        if r10 < 0 ∨ 30 ≤ r10.toNatClampNeg then none else
        stp (up σ18 39 r10.toNatClampNeg (v13 ||| (1 <<< (v1 &&& 31)))) fun σ20 =>
        stp (up σ20 6 6 ((σ20 6 6) + v16)) fun σ21 =>
        obn (GX7_seek σ21 (p2 + 1)) fun σ22 r23 =>
        stp (up σ22 6 6 ((σ22 6 6) - v16)) fun σ25 =>
        if r10 < 0 ∨ 30 ≤ r10.toNatClampNeg then none else
        stp (up σ25 39 r10.toNatClampNeg v13) fun σ27 =>
        if p2 < 0 ∨ 24 ≤ p2.toNatClampNeg then none else
        stp (up σ27 37 p2.toNatClampNeg (-1000000005)) fun σ29 =>
        some (σ29, 0)

def fX7_seek_L45 (GX7_seek : St → Int32 → Option (St × Int32)) (K75 : St → Int32 → Option (St × Int32)) : Nat → St → Int32 → Int32 → Option (St × Int32)
  | 0, _, _, _ => none
  | n + 1, σ, a3, a5 =>
    if (σ 5 6) ≤ a5 then
      K75 σ a3
    else
      if (σ 6 5) = 0 then
        obn (fX7_tryFilm GX7_seek σ a3 a5) fun σ10 r11 =>
        fX7_seek_L45 GX7_seek K75 n σ10 a3 (a5 + 1)
      else
        K75 σ a3
def fX7_seek (GX7_seek : St → Int32 → Option (St × Int32)) (σ : St) (p2 : Int32) : Option (St × Int32) :=
  obn (fX7_nextPlace σ p2) fun σ1 r2 =>
  if r2 < 24 then
    if r2 < 0 ∨ 24 ≤ r2.toNatClampNeg then none else
    itp (σ1 35 r2.toNatClampNeg) fun v6 =>
    if v6 = (-1000000005) then
      fX7_seek_L45 GX7_seek
        (fun (σ13 : St) (a14 : Int32) =>
          if (σ13 6 5) = 0 then
            obn (GX7_seek σ13 (a14 + 1)) fun σ16 r17 =>
            some (σ16, 0)
          else
            some (σ13, 0))
        50 σ1 r2 0
    else
      obn (fX7_tryFilm GX7_seek σ1 r2 v6) fun σ19 r20 =>
      some (σ19, 0)
  else
    obn (fX7_keepIfBetter σ1) fun σ22 r23 =>
    some (σ22, 0)
def fX7_seekR : Nat → St → Int32 → Option (St × Int32)
  | 0, _, _ => none
  | d + 1, σ, p2 => fX7_seek (fX7_seekR d) σ p2

def fX0_makePlan (σ : St) (p0 : Int32) (p1 : Int32) : Option (St × Int32) :=
  obn (fX7_clear σ p0 p1) fun σ1 r2 =>
  obn (fX7_seekR 26 σ1 0) fun σ4 r5 =>
  if (σ4 6 5) = 0 then
    if 0 ≤ (σ4 6 7) then
      stp (cu σ4 36 (va_cpy (σ4 38) (σ4 36) (Int32.toNatClampNeg 0) (Int32.toNatClampNeg 0) (Int32.toNatClampNeg 24))) fun σ9 =>
      some (σ9, (σ9 6 7))
    else
      some (σ4, (-1000000002))
  else
    some (σ4, (-1000000004))

def fX1_hasTwo (σ : St) (p0 : Int32) (p1 : Int32) : Option (St × Int32) :=
  obn (fX1_has σ p0) fun σ1 r2 =>
  if r2 = 0 then
    some (σ1, 0)
  else
    obn (fX1_has σ1 p1) fun σ5 r6 =>
    if r6 = 0 then
      some (σ5, 0)
    else
      if p0 = p1 then
        some (σ5, 0)
      else
        some (σ5, 1)

def fX1_add (σ : St) (p0 : Int32) (p1 : Int32) : Option (St × Int32) :=
  if (σ 1 5) < 0 ∨ 6 ≤ (σ 1 5).toNatClampNeg then none else
  stp (up σ 12 (σ 1 5).toNatClampNeg p0) fun σ2 =>
  if (σ2 1 5) < 0 ∨ 6 ≤ (σ2 1 5).toNatClampNeg then none else
  stp (up σ2 13 (σ2 1 5).toNatClampNeg p1) fun σ4 =>
  stp (up σ4 1 5 ((σ4 1 5) + 1)) fun σ5 =>
  some (σ5, ((σ5 1 5) - 1))

def fX1_areOf (σ : St) (p0 : Int32) (p1 : Int32) : Option (St × Int32) :=
  if p0 < 0 ∨ 6 ≤ p0.toNatClampNeg then none else
  itp (σ 12 p0.toNatClampNeg) fun v2 =>
  if p1 = 0 then
    some (σ, 1)
  else
    if v2 = p1 then
      some (σ, 1)
    else
      if p1 = 1 then
        if v2 = 3 then
          some (σ, 1)
        else
          some (σ, 0)
      else
        some (σ, 0)

def fX2_cell (σ : St) (p0 : Int32) (p1 : Int32) : Option (St × Int32) :=
  some (σ, ((p0 * 8) + p1))

def fX2_has (σ : St) (p0 : Int32) : Option (St × Int32) :=
  if p0 < 0 then
    some (σ, 0)
  else
    if (σ 3 5) ≤ p0 then
      some (σ, 0)
    else
      some (σ, 1)

def fX2_manyRides (σ : St) : Option (St × Int32) :=
  if (σ 3 5) = 0 then
    some (σ, 0)
  else
    some (σ, (((σ 3 5) - 1) * (σ 2 2)))

def fX2_hasRide (σ : St) (p0 : Int32) : Option (St × Int32) :=
  if p0 < 0 then
    some (σ, 0)
  else
    obn (fX2_manyRides σ) fun σ2 r3 =>
    if r3 ≤ p0 then
      some (σ2, 0)
    else
      some (σ2, 1)

def fX2_forget (σ : St) : Option (St × Int32) :=
  stp (up σ 3 5 0) fun σ1 =>
  some (σ1, 0)

def fX2_canBeOrder_L13 (K74 : St → Int32 → Option (St × Int32)) : Nat → St → Int32 → Int32 → Int32 → Option (St × Int32)
  | 0, _, _, _, _ => none
  | n + 1, σ, a2, a3, a4 =>
    if 6 ≤ a4 then
      K74 σ a3
    else
      if a3 ≤ 0 then
        K74 σ a3
      else
        itp ((a3 - a3 / 7 * 7) - 1) fun v4 =>
        obn (fX1_has σ v4) fun σ5 r6 =>
        if r6 = 0 then
          some (σ5, 0)
        else
          if ((a2 >>> (v4 &&& 31)) &&& 1) = 1 then
            some (σ5, 0)
          else
            itp (a2 ||| (1 <<< (v4 &&& 31))) fun v10 =>
            itp (a3 / 7) fun v11 =>
            fX2_canBeOrder_L13 K74 n σ5 v10 v11 (a4 + 1)
def fX2_canBeOrder (σ : St) (p0 : Int32) : Option (St × Int32) :=
  if 0 ≤ p0 then
    fX2_canBeOrder_L13
      (fun (σ12 : St) (a13 : Int32) =>
        if a13 = 0 then
          some (σ12, 1)
        else
          some (σ12, 0))
      50 σ 0 p0 0
  else
    some (σ, 0)

def fX2_takeOrder_L7 (K38 : St → Int32 → Option (St × Int32)) : Nat → St → Int32 → Int32 → Option (St × Int32)
  | 0, _, _, _ => none
  | n + 1, σ, a1, a2 =>
    if a2 ≤ 0 then
      K38 σ a1
    else
      if 6 ≤ (σ 3 5) then
        K38 σ a1
      else
        stp (up σ 3 5 ((σ 3 5) + 1)) fun σ4 =>
        itp (a2 / 7) fun v5 =>
        fX2_takeOrder_L7 K38 n σ4 a1 v5
def fX2_takeOrder_L47 (K74 : St → Option (St × Int32)) : Nat → St → Int32 → Int32 → Option (St × Int32)
  | 0, _, _, _ => none
  | n + 1, σ, a2, a3 =>
    if a3 < 0 then
      K74 σ
    else
      if a3 < 0 ∨ 6 ≤ a3.toNatClampNeg then none else
      stp (up σ 19 a3.toNatClampNeg ((a2 - a2 / 7 * 7) - 1)) fun σ11 =>
      itp (a2 / 7) fun v12 =>
      fX2_takeOrder_L47 K74 n σ11 v12 (a3 + (-1))
def fX2_takeOrder (σ : St) (p0 : Int32) : Option (St × Int32) :=
  stp (up σ 3 5 0) fun σ1 =>
  fX2_takeOrder_L7
    (fun (σ6 : St) (a7 : Int32) =>
      itp ((σ6 3 5) - 1) fun v8 =>
      fX2_takeOrder_L47
        (fun (σ13 : St) =>
          stp (cu σ13 20 (fl (σ13 20) 40 0)) fun σ14 =>
          some (σ14, (σ14 3 5)))
        50 σ6 a7 v8)
    50 σ1 p0 p0

def fX2_wayTo (σ : St) (p0 : Int32) : Option (St × Int32) :=
  if (p0 - 1) < 0 ∨ 6 ≤ (p0 - 1).toNatClampNeg then none else
  if p0 < 0 ∨ 6 ≤ p0.toNatClampNeg then none else
  obn (fX3_between_10 σ (σ 19 (p0 - 1).toNatClampNeg) (σ 19 p0.toNatClampNeg)) fun σ3 r4 =>
  some (σ3, r4)

def fX2_rideOf (σ : St) (p0 : Int32) (p1 : Int32) : Option (St × Int32) :=
  some (σ, (((p0 - 1) * (σ 2 2)) + p1))

def fX5_minutes (σ : St) (p0 : Int32) : Option (St × Int32) :=
  if p0 < 0 ∨ 8 ≤ p0.toNatClampNeg then none else
  some (σ, (if 1 < ((σ 17 p0.toNatClampNeg) / 960) then ((σ 17 p0.toNatClampNeg) / 960) else 1))

def fX5_longest_L4 : Nat → St → Int32 → Int32 → Option (St × Int32)
  | 0, _, _, _ => none
  | n + 1, σ, a1, a2 =>
    if (σ 2 2) ≤ a2 then
      some (σ, a1)
    else
      obn (fX5_minutes σ a2) fun σ2 r3 =>
      itp (if a1 < r3 then r3 else a1) fun v5 =>
      fX5_longest_L4 n σ2 v5 (a2 + 1)
def fX5_longest (σ : St) : Option (St × Int32) :=
  fX5_longest_L4
    50 σ 0 0

def fX2_reckonStarts_L17 : Nat → St → Int32 → Int32 → Option (St × Int32)
  | 0, _, _, _ => none
  | n + 1, σ, a1, a2 =>
    if (σ 3 5) ≤ a2 then
      some (σ, 0)
    else
      if (a2 - 1) < 0 ∨ 6 ≤ (a2 - 1).toNatClampNeg then none else
      obn (fX2_wayTo σ a2) fun σ7 r8 =>
      if a2 < 0 ∨ 6 ≤ a2.toNatClampNeg then none else
      stp (up σ7 21 a2.toNatClampNeg (((σ 21 (a2 - 1).toNatClampNeg) + a1) + r8)) fun σ11 =>
      fX2_reckonStarts_L17 n σ11 a1 (a2 + 1)
def fX2_reckonStarts (σ : St) : Option (St × Int32) :=
  obn (fX5_longest σ) fun σ1 r2 =>
  stp (up σ1 21 (Int32.toNatClampNeg 0) 0) fun σ4 =>
  fX2_reckonStarts_L17
    50 σ4 r2 1

def fX6_clear (σ : St) : Option (St × Int32) :=
  stp (up σ 4 8 0) fun σ1 =>
  some (σ1, 0)

def fX6_add (σ : St) (p0 : Int32) (p1 : Int32) (p2 : Int32) (p3 : Int32) : Option (St × Int32) :=
  if (σ 4 8) < 40 then
    if (σ 4 8) < 0 ∨ 40 ≤ (σ 4 8).toNatClampNeg then none else
    stp (up σ 26 (σ 4 8).toNatClampNeg p0) fun σ3 =>
    if (σ3 4 8) < 0 ∨ 40 ≤ (σ3 4 8).toNatClampNeg then none else
    stp (up σ3 27 (σ3 4 8).toNatClampNeg p1) fun σ5 =>
    if (σ5 4 8) < 0 ∨ 40 ≤ (σ5 4 8).toNatClampNeg then none else
    stp (up σ5 28 (σ5 4 8).toNatClampNeg p2) fun σ7 =>
    if (σ7 4 8) < 0 ∨ 40 ≤ (σ7 4 8).toNatClampNeg then none else
    stp (up σ7 29 (σ7 4 8).toNatClampNeg p3) fun σ9 =>
    obn (fX3_between_10 σ9 p1 p2) fun σ10 r11 =>
    if (σ9 4 8) < 0 ∨ 40 ≤ (σ9 4 8).toNatClampNeg then none else
    stp (up σ10 30 (σ9 4 8).toNatClampNeg (p3 + r11)) fun σ14 =>
    stp (up σ14 4 8 ((σ14 4 8) + 1)) fun σ15 =>
    some (σ15, 0)
  else
    some (σ, 0)

def fX2_listRides_L32 (K83 : St → Int32 → Option (St × Int32)) : Nat → St → Int32 → Int32 → Int32 → Option (St × Int32)
  | 0, _, _, _, _ => none
  | n + 1, σ, a1, a2, a3 =>
    if (σ 2 2) ≤ a3 then
      K83 σ a1
    else
      obn (fX5_minutes σ a3) fun σ11 r12 =>
      itp (a2 + r12) fun v14 =>
      if (a1 - 1) < 0 ∨ 6 ≤ (a1 - 1).toNatClampNeg then none else
      if a1 < 0 ∨ 6 ≤ a1.toNatClampNeg then none else
      obn (fX6_add σ11 a3 (σ11 19 (a1 - 1).toNatClampNeg) (σ11 19 a1.toNatClampNeg) v14) fun σ17 r18 =>
      fX2_listRides_L32 K83 n σ17 a1 v14 (a3 + 1)
def fX2_listRides_L13 : Nat → St → Int32 → Option (St × Int32)
  | 0, _, _ => none
  | n + 1, σ, a1 =>
    if (σ 3 5) ≤ a1 then
      some (σ, 0)
    else
      if (a1 - 1) < 0 ∨ 6 ≤ (a1 - 1).toNatClampNeg then none else
      itp (σ 21 (a1 - 1).toNatClampNeg) fun v9 =>
      fX2_listRides_L32
        (fun (σ20 : St) (a21 : Int32) =>
          fX2_listRides_L13 n σ20 (a21 + 1))
        50 σ a1 v9 0
def fX2_listRides (σ : St) : Option (St × Int32) :=
  obn (fX2_reckonStarts σ) fun σ1 r2 =>
  obn (fX6_clear σ1) fun σ4 r5 =>
  fX2_listRides_L13
    50 σ4 1

def fX2_endedAt (σ : St) (p0 : Int32) (p1 : Int32) : Option (St × Int32) :=
  obn (fX2_cell σ p0 p1) fun σ1 r2 =>
  if r2 < 0 ∨ 48 ≤ r2.toNatClampNeg then none else
  obn (fX5_minutes σ1 p1) fun σ5 r6 =>
  some (σ5, ((σ1 23 r2.toNatClampNeg) + r6))

def fX2_comesTo (σ : St) (p0 : Int32) (p1 : Int32) : Option (St × Int32) :=
  if p0 = 0 then
    some (σ, 0)
  else
    obn (fX2_endedAt σ (p0 - 1) p1) fun σ2 r3 =>
    obn (fX2_wayTo σ2 p0) fun σ5 r6 =>
    obn (fX2_rideOf σ5 p0 p1) fun σ8 r9 =>
    if r9 < 0 ∨ 40 ≤ r9.toNatClampNeg then none else
    some (σ8, ((r3 + r6) + (σ8 20 r9.toNatClampNeg)))

def fX2_causeOf_L41 : Nat → St → Int32 → Int32 → Option (St × Int32)
  | 0, _, _, _ => none
  | n + 1, σ, a1, a4 =>
    if a4 < 0 then
      some (σ, (-1000000005))
    else
      obn (fX2_cell σ (a1 - 1) a4) fun σ13 r14 =>
      if r14 < 0 ∨ 48 ≤ r14.toNatClampNeg then none else
      itp (σ13 25 r14.toNatClampNeg) fun v17 =>
      if v17 = (-1000000005) then
        fX2_causeOf_L41 n σ13 a1 (a4 + (-1))
      else
        some (σ13, v17)
def fX2_causeOf (σ : St) (p0 : Int32) (p1 : Int32) : Option (St × Int32) :=
  if p0 = 0 then
    some (σ, (-1000000005))
  else
    obn (fX2_cell σ p0 p1) fun σ2 r3 =>
    if r3 < 0 ∨ 48 ≤ r3.toNatClampNeg then none else
    if (σ2 24 r3.toNatClampNeg) = 0 then
      some (σ2, (-1000000005))
    else
      obn (fX2_rideOf σ2 p0 p1) fun σ7 r8 =>
      if r8 < 0 ∨ 40 ≤ r8.toNatClampNeg then none else
      if (σ7 20 r8.toNatClampNeg) ≤ 0 then
        fX2_causeOf_L41
          50 σ7 p0 p1
      else
        some (σ7, r8)

def fX2_reckonShow_L9 : Nat → St → Int32 → Int32 → Int32 → Option (St × Int32)
  | 0, _, _, _, _ => none
  | n + 1, σ, a1, a2, a3 =>
    if (σ 2 2) ≤ a3 then
      some (σ, 0)
    else
      obn (fX2_cell σ a1 a3) fun σ4 r5 =>
      obn (fX2_comesTo σ4 a1 a3) fun σ7 r8 =>
      if r5 < 0 ∨ 48 ≤ r5.toNatClampNeg then none else
      stp (up σ7 22 r5.toNatClampNeg r8) fun σ11 =>
      if r5 < 0 ∨ 48 ≤ r5.toNatClampNeg then none else
      if r5 < 0 ∨ 48 ≤ r5.toNatClampNeg then none else
      stp (up σ11 23 r5.toNatClampNeg (if a2 < (σ11 22 r5.toNatClampNeg) then (σ11 22 r5.toNatClampNeg) else a2)) fun σ14 =>
      if r5 < 0 ∨ 48 ≤ r5.toNatClampNeg then none else
      if r5 < 0 ∨ 48 ≤ r5.toNatClampNeg then none else
      stp (up σ14 24 r5.toNatClampNeg ((σ14 23 r5.toNatClampNeg) - a2)) fun σ17 =>
      obn (fX2_causeOf σ17 a1 a3) fun σ18 r19 =>
      if r5 < 0 ∨ 48 ≤ r5.toNatClampNeg then none else
      stp (up σ18 25 r5.toNatClampNeg r19) fun σ22 =>
      if r5 < 0 ∨ 48 ≤ r5.toNatClampNeg then none else
      obn (fX5_minutes σ22 a3) fun σ24 r25 =>
      itp ((σ22 23 r5.toNatClampNeg) + r25) fun v27 =>
      fX2_reckonShow_L9 n σ24 a1 v27 (a3 + 1)
def fX2_reckonShow (σ : St) (p0 : Int32) : Option (St × Int32) :=
  if p0 < 0 ∨ 6 ≤ p0.toNatClampNeg then none else
  itp (σ 21 p0.toNatClampNeg) fun v2 =>
  fX2_reckonShow_L9
    50 σ p0 v2 0

def fX2_reckonShows_L6 : Nat → St → Int32 → Option (St × Int32)
  | 0, _, _ => none
  | n + 1, σ, a1 =>
    if (σ 3 5) ≤ a1 then
      some (σ, 0)
    else
      obn (fX2_reckonShow σ a1) fun σ5 r6 =>
      fX2_reckonShows_L6 n σ5 (a1 + 1)
def fX2_reckonShows (σ : St) : Option (St × Int32) :=
  obn (fX2_reckonStarts σ) fun σ1 r2 =>
  fX2_reckonShows_L6
    50 σ1 0

def fX2_waitedAt_L20 : Nat → St → Int32 → Int32 → Int32 → Int32 → Option (St × Int32)
  | 0, _, _, _, _, _ => none
  | n + 1, σ, a1, a2, a3, a4 =>
    if (σ 2 2) ≤ a4 then
      some (σ, a3)
    else
      obn (fX2_cell σ a1 a4) fun σ5 r6 =>
      if r6 < 0 ∨ 48 ≤ r6.toNatClampNeg then none else
      itp (σ5 24 r6.toNatClampNeg) fun v9 =>
      if a4 = 0 then
        itp (a3 + v9) fun v12 =>
        fX2_waitedAt_L20 n σ5 a1 a2 v12 (a4 + 1)
      else
        itp (a3 + (if 0 < (v9 - a2) then (v9 - a2) else 0)) fun v11 =>
        fX2_waitedAt_L20 n σ5 a1 a2 v11 (a4 + 1)
def fX2_waitedAt (σ : St) (p0 : Int32) : Option (St × Int32) :=
  if p0 < 0 ∨ 6 ≤ p0.toNatClampNeg then none else
  if (σ 19 p0.toNatClampNeg) < 0 ∨ 6 ≤ (σ 19 p0.toNatClampNeg).toNatClampNeg then none else
  itp (σ 14 (σ 19 p0.toNatClampNeg).toNatClampNeg) fun v3 =>
  fX2_waitedAt_L20
    50 σ p0 v3 0 0

def fX2_whereIs_L2 (K22 : St → Int32 → Option (St × Int32)) (K45 : St → Int32 → Int32 → Option (St × Int32)) (K61 : St → Option (St × Int32)) : Nat → St → Int32 → Int32 → Int32 → Option (St × Int32)
  | 0, _, _, _, _ => none
  | n + 1, σ, a1, a2, a3 =>
    if (σ 3 5) ≤ a3 then
      K61 σ
    else
      obn (fX2_endedAt σ (a3 - 1) a1) fun σ2 r3 =>
      if r3 ≤ a2 then
        obn (fX2_cell σ2 a3 a1) fun σ6 r7 =>
        if r7 < 0 ∨ 48 ≤ r7.toNatClampNeg then none else
        if (σ6 22 r7.toNatClampNeg) ≤ a2 then
          fX2_whereIs_L2 K22 K45 K61 n σ6 a1 a2 (a3 + 1)
        else
          K45 σ6 a1 a3
      else
        K22 σ2 a3
def fX2_whereIs (σ : St) (p0 : Int32) (p1 : Int32) : Option (St × Int32) :=
  fX2_whereIs_L2
    (fun (σ11 : St) (a12 : Int32) =>
      if (a12 - 1) < 0 ∨ 6 ≤ (a12 - 1).toNatClampNeg then none else
      some (σ11, (σ11 19 (a12 - 1).toNatClampNeg)))
    (fun (σ14 : St) (a15 : Int32) (a16 : Int32) =>
      obn (fX2_rideOf σ14 a16 a15) fun σ17 r18 =>
      some (σ17, (100 + r18)))
    (fun (σ20 : St) =>
      if ((σ20 3 5) - 1) < 0 ∨ 6 ≤ ((σ20 3 5) - 1).toNatClampNeg then none else
      some (σ20, (σ20 19 ((σ20 3 5) - 1).toNatClampNeg)))
    50 σ p0 p1 1

def fX3_become_10 (σ : St) (p0 : Int32) (p1 : Int32) (p2 : Int32) : Option (St × Int32) :=
  obn (fX3_between_10 σ p0 p1) fun σ1 r2 =>
  if ((p0 * 6) + p1) < 0 ∨ 36 ≤ ((p0 * 6) + p1).toNatClampNeg then none else
  stp (up σ1 16 ((p0 * 6) + p1).toNatClampNeg p2) fun σ5 =>
  if ((p1 * 6) + p0) < 0 ∨ 36 ≤ ((p1 * 6) + p0).toNatClampNeg then none else
  stp (up σ5 16 ((p1 * 6) + p0).toNatClampNeg p2) fun σ7 =>
  some (σ7, r2)

def fX3_become_11 (σ : St) (p0 : Int32) (p1 : Int32) (p2 : Int32) : Option (St × Int32) :=
  obn (fX3_between_11 σ p0 p1) fun σ1 r2 =>
  if ((p0 * 6) + p1) < 0 ∨ 36 ≤ ((p0 * 6) + p1).toNatClampNeg then none else
  stp (up σ1 33 ((p0 * 6) + p1).toNatClampNeg p2) fun σ5 =>
  if ((p1 * 6) + p0) < 0 ∨ 36 ≤ ((p1 * 6) + p0).toNatClampNeg then none else
  stp (up σ5 33 ((p1 * 6) + p0).toNatClampNeg p2) fun σ7 =>
  some (σ7, r2)

def fX9_within (σ : St) (p0 : Int32) (p1 : Int32) (p2 : Int32) : Option (St × Int32) :=
  if p0 < p1 then
    some (σ, 0)
  else
    if p2 < p0 then
      some (σ, 0)
    else
      some (σ, 1)

def fX4_mayRule (σ : St) (p0 : Int32) (p1 : Int32) : Option (St × Int32) :=
  if p0 = 2 then
    some (σ, 1)
  else
    if p0 = 0 then
      obn (fX9_within σ p1 0 100) fun σ3 r4 =>
      if r4 = 0 then
        some (σ3, 0)
      else
        some (σ3, 1)
    else
      if p0 = 1 then
        obn (fX9_within σ p1 0 100) fun σ8 r9 =>
        if r9 = 0 then
          some (σ8, 0)
        else
          some (σ8, 1)
      else
        some (σ, 0)

def fX4_shareOf (σ : St) (p0 : Int32) (p1 : Int32) : Option (St × Int32) :=
  if p0 < 0 ∨ 6 ≤ p0.toNatClampNeg then none else
  if (σ 12 p0.toNatClampNeg) < 0 ∨ 4 ≤ (σ 12 p0.toNatClampNeg).toNatClampNeg then none else
  itp (p1 * (prc (σ 12 p0.toNatClampNeg).toNatClampNeg)) fun v3 =>
  if p0 < 0 ∨ 6 ≤ p0.toNatClampNeg then none else
  some (σ, (if (σ 15 p0.toNatClampNeg) < ((v3 * (σ 40 (Int32.toNatClampNeg 0))) / 100) then ((v3 * (σ 40 (Int32.toNatClampNeg 0))) / 100) else (σ 15 p0.toNatClampNeg)))

def fX8_has_8 (σ : St) (p0 : Int32) : Option (St × Int32) :=
  if p0 < 0 then
    some (σ, 0)
  else
    if (σ 8 1) ≤ p0 then
      some (σ, 0)
    else
      some (σ, 1)

def fX8_has_9 (σ : St) (p0 : Int32) : Option (St × Int32) :=
  if p0 < 0 then
    some (σ, 0)
  else
    if (σ 9 1) ≤ p0 then
      some (σ, 0)
    else
      some (σ, 1)

def fX4_headsToldOf (σ : St) (p0 : Int32) (p1 : Int32) : Option (St × Int32) :=
  obn (fX9_place σ p0 p1) fun σ1 r2 =>
  obn (fX8_has_8 σ1 r2) fun σ4 r5 =>
  if r5 = 0 then
    some (σ4, 0)
  else
    if r2 < 0 ∨ 24 ≤ r2.toNatClampNeg then none else
    itp (σ4 42 r2.toNatClampNeg) fun v9 =>
    if p1 < 0 ∨ 6 ≤ p1.toNatClampNeg then none else
    obn (fX9_within σ4 v9 0 (σ4 13 p1.toNatClampNeg)) fun σ11 r12 =>
    if r12 = 0 then
      some (σ11, 0)
    else
      some (σ11, v9)

def fX4_allShares_L4 : Nat → St → Int32 → Int32 → Int32 → Option (St × Int32)
  | 0, _, _, _, _ => none
  | n + 1, σ, a1, a2, a3 =>
    if (σ 1 5) ≤ a3 then
      some (σ, a2)
    else
      obn (fX4_headsToldOf σ a1 a3) fun σ2 r3 =>
      obn (fX4_shareOf σ2 a3 r3) fun σ5 r6 =>
      itp (a2 + r6) fun v8 =>
      fX4_allShares_L4 n σ5 a1 v8 (a3 + 1)
def fX4_allShares (σ : St) (p0 : Int32) : Option (St × Int32) :=
  fX4_allShares_L4
    50 σ p0 0 0

def fX4_checkedBits_L19 : Nat → St → Int32 → Int32 → Int32 → Int32 → Option (St × Int32)
  | 0, _, _, _, _, _ => none
  | n + 1, σ, a2, a3, a4, a5 =>
    if (a4 + (σ 1 5)) ≤ a5 then
      some (σ, a2)
    else
      itp ((a3 * 1664525) + 1013904223) fun v6 =>
      if a5 < a4 then
        fX4_checkedBits_L19 n σ a2 v6 a4 (a5 + 1)
      else
        if (σ 40 (Int32.toNatClampNeg 1)) ≤ ((v6.toUInt32 >>> (Int32.toUInt32 8 &&& Int32.toUInt32 31)).toInt32 - (v6.toUInt32 >>> (Int32.toUInt32 8 &&& Int32.toUInt32 31)).toInt32 / 100 * 100) then
          fX4_checkedBits_L19 n σ a2 v6 a4 (a5 + 1)
        else
          itp (a2 ||| (1 <<< ((a5 - a4) &&& 31))) fun v9 =>
          fX4_checkedBits_L19 n σ v9 v6 a4 (a5 + 1)
def fX4_checkedBits (σ : St) (p0 : Int32) : Option (St × Int32) :=
  itp (σ 40 (Int32.toNatClampNeg 2)) fun v1 =>
  obn (fX9_place σ p0 0) fun σ2 r3 =>
  fX4_checkedBits_L19
    50 σ2 0 v1 r3 0

def fX8_isMissing_8 (σ : St) : Option (St × Int32) :=
  if (σ 8 1) = (-1) then
    some (σ, 1)
  else
    some (σ, 0)

def fX8_isMissing_9 (σ : St) : Option (St × Int32) :=
  if (σ 9 1) = (-1) then
    some (σ, 1)
  else
    some (σ, 0)

def fX4_sheetsThere_L4 : Nat → St → Int32 → Int32 → Option (St × Int32)
  | 0, _, _, _ => none
  | n + 1, σ, a1, a2 =>
    if 2 ≤ a2 then
      some (σ, a1)
    else
      if a2 < 0 ∨ 2 ≤ a2.toNatClampNeg then none else
      if a2 = 0 then
        obn (fX8_isMissing_8 σ) fun σ4 r5 =>
        if r5 = 0 then
          fX4_sheetsThere_L4 n σ4 (a1 + 1) (a2 + 1)
        else
          fX4_sheetsThere_L4 n σ4 a1 (a2 + 1)
      else
        obn (fX8_isMissing_9 σ) fun σ8 r9 =>
        if r9 = 0 then
          fX4_sheetsThere_L4 n σ8 (a1 + 1) (a2 + 1)
        else
          fX4_sheetsThere_L4 n σ8 a1 (a2 + 1)
def fX4_sheetsThere (σ : St) : Option (St × Int32) :=
  fX4_sheetsThere_L4
    50 σ 0 0

def fX5_has (σ : St) (p0 : Int32) : Option (St × Int32) :=
  if p0 < 0 then
    some (σ, 0)
  else
    if (σ 2 2) ≤ p0 then
      some (σ, 0)
    else
      some (σ, 1)

def fX5_add (σ : St) (p0 : Int32) : Option (St × Int32) :=
  if (σ 2 2) < 0 ∨ 8 ≤ (σ 2 2).toNatClampNeg then none else
  stp (up σ 17 (σ 2 2).toNatClampNeg p0) fun σ2 =>
  stp (up σ2 2 2 ((σ2 2 2) + 1)) fun σ3 =>
  some (σ3, ((σ3 2 2) - 1))

def fX5_shorten (σ : St) (p0 : Int32) (p1 : Int32) : Option (St × Int32) :=
  if p0 < 0 ∨ 8 ≤ p0.toNatClampNeg then none else
  if p0 < 0 ∨ 8 ≤ p0.toNatClampNeg then none else
  stp (up σ 17 p0.toNatClampNeg (if 1 < ((σ 17 p0.toNatClampNeg) - p1) then ((σ 17 p0.toNatClampNeg) - p1) else 1)) fun σ3 =>
  if p0 < 0 ∨ 8 ≤ p0.toNatClampNeg then none else
  if p0 < 0 ∨ 8 ≤ p0.toNatClampNeg then none else
  stp (up σ3 18 p0.toNatClampNeg ((σ3 18 p0.toNatClampNeg) + 1)) fun σ6 =>
  if p0 < 0 ∨ 8 ≤ p0.toNatClampNeg then none else
  some (σ6, (σ6 17 p0.toNatClampNeg))

def fX5_allFrames_L4 : Nat → St → Int32 → Int32 → Option (St × Int32)
  | 0, _, _, _ => none
  | n + 1, σ, a1, a2 =>
    if (σ 2 2) ≤ a2 then
      some (σ, a1)
    else
      if a2 < 0 ∨ 8 ≤ a2.toNatClampNeg then none else
      itp (a1 + (σ 17 a2.toNatClampNeg)) fun v3 =>
      fX5_allFrames_L4 n σ v3 (a2 + 1)
def fX5_allFrames (σ : St) : Option (St × Int32) :=
  fX5_allFrames_L4
    50 σ 0 0

def fX6_canFollow (σ : St) (p0 : Int32) (p1 : Int32) : Option (St × Int32) :=
  if p0 < 0 ∨ 40 ≤ p0.toNatClampNeg then none else
  if p1 < 0 ∨ 40 ≤ p1.toNatClampNeg then none else
  if (σ 29 p0.toNatClampNeg) < (σ 29 p1.toNatClampNeg) then
    if p0 < 0 ∨ 40 ≤ p0.toNatClampNeg then none else
    if p0 < 0 ∨ 40 ≤ p0.toNatClampNeg then none else
    if p1 < 0 ∨ 40 ≤ p1.toNatClampNeg then none else
    obn (fX3_between_10 σ (σ 28 p0.toNatClampNeg) (σ 27 p1.toNatClampNeg)) fun σ7 r8 =>
    if p1 < 0 ∨ 40 ≤ p1.toNatClampNeg then none else
    if (σ7 29 p1.toNatClampNeg) < ((σ 30 p0.toNatClampNeg) + r8) then
      some (σ7, 0)
    else
      some (σ7, 1)
  else
    if p0 < 0 ∨ 40 ≤ p0.toNatClampNeg then none else
    if p1 < 0 ∨ 40 ≤ p1.toNatClampNeg then none else
    if (σ 29 p0.toNatClampNeg) = (σ 29 p1.toNatClampNeg) then
      if p1 ≤ p0 then
        some (σ, 0)
      else
        if p0 < 0 ∨ 40 ≤ p0.toNatClampNeg then none else
        if p0 < 0 ∨ 40 ≤ p0.toNatClampNeg then none else
        if p1 < 0 ∨ 40 ≤ p1.toNatClampNeg then none else
        obn (fX3_between_10 σ (σ 28 p0.toNatClampNeg) (σ 27 p1.toNatClampNeg)) fun σ19 r20 =>
        if p1 < 0 ∨ 40 ≤ p1.toNatClampNeg then none else
        if (σ19 29 p1.toNatClampNeg) < ((σ 30 p0.toNatClampNeg) + r20) then
          some (σ19, 0)
        else
          some (σ19, 1)
    else
      some (σ, 0)

def fX6_findNext_L11 (GX6_findNext : St → Int32 → Int32 → Int32 → Option (St × Int32)) (K81 : St → Int32 → Int32 → Option (St × Int32)) : Nat → St → Int32 → Int32 → Int32 → Int32 → Option (St × Int32)
  | 0, _, _, _, _, _ => none
  | n + 1, σ, a1, a2, a3, a4 =>
    if (σ 4 8) ≤ a4 then
      some (σ, 0)
    else
      if a4 < 0 ∨ 40 ≤ a4.toNatClampNeg then none else
      if (σ 32 a4.toNatClampNeg) = a2 then
        fX6_findNext_L11 GX6_findNext K81 n σ a1 a2 a3 (a4 + 1)
      else
        obn (fX6_canFollow σ a1 a4) fun σ5 r6 =>
        if r6 = 0 then
          fX6_findNext_L11 GX6_findNext K81 n σ5 a1 a2 a3 (a4 + 1)
        else
          if a4 < 0 ∨ 40 ≤ a4.toNatClampNeg then none else
          stp (up σ5 32 a4.toNatClampNeg a2) fun σ10 =>
          if a4 < 0 ∨ 40 ≤ a4.toNatClampNeg then none else
          itp (σ10 31 a4.toNatClampNeg) fun v12 =>
          if v12 = (-1000000005) then
            K81 σ10 a1 a4
          else
            obn (GX6_findNext σ10 v12 a2 (a3 + 1)) fun σ14 r15 =>
            if r15 = 0 then
              fX6_findNext_L11 GX6_findNext K81 n σ14 a1 a2 a3 (a4 + 1)
            else
              K81 σ14 a1 a4
def fX6_findNext (GX6_findNext : St → Int32 → Int32 → Int32 → Option (St × Int32)) (σ : St) (p1 : Int32) (p2 : Int32) (p3 : Int32) : Option (St × Int32) :=
  if p3 ≤ 40 then
    fX6_findNext_L11 GX6_findNext
      (fun (σ18 : St) (a19 : Int32) (a20 : Int32) =>
        if a20 < 0 ∨ 40 ≤ a20.toNatClampNeg then none else
        stp (up σ18 31 a20.toNatClampNeg a19) fun σ22 =>
        some (σ22, 1))
      50 σ p1 p2 p3 0
  else
    some (σ, 0)
def fX6_findNextR : Nat → St → Int32 → Int32 → Int32 → Option (St × Int32)
  | 0, _, _, _, _ => none
  | d + 1, σ, p1, p2, p3 => fX6_findNext (fX6_findNextR d) σ p1 p2 p3

def fX6_fewestRiders_L25 : Nat → St → Int32 → Int32 → Option (St × Int32)
  | 0, _, _, _ => none
  | n + 1, σ, a1, a2 =>
    if (σ 4 8) ≤ a2 then
      some (σ, a1)
    else
      obn (fX6_findNextR 42 σ a2 a2 0) fun σ5 r6 =>
      if r6 = 0 then
        fX6_fewestRiders_L25 n σ5 a1 (a2 + 1)
      else
        fX6_fewestRiders_L25 n σ5 (a1 + (-1)) (a2 + 1)
def fX6_fewestRiders (σ : St) : Option (St × Int32) :=
  stp (cu σ 31 (fl (σ 31) 40 (-1000000005))) fun σ1 =>
  stp (cu σ1 32 (fl (σ1 32) 40 (-1000000005))) fun σ2 =>
  itp (σ2 4 8) fun v3 =>
  fX6_fewestRiders_L25
    50 σ2 v3 0

def fX8_spans_8 (σ : St) (p0 : Int32) (p1 : Int32) : Option (St × Int32) :=
  obn (fX9_within σ p0 0 (σ 8 1)) fun σ1 r2 =>
  if r2 = 0 then
    some (σ1, 0)
  else
    obn (fX9_within σ1 p1 0 ((σ1 8 1) - p0)) fun σ5 r6 =>
    if r6 = 0 then
      some (σ5, 0)
    else
      some (σ5, 1)

def fX8_spans_9 (σ : St) (p0 : Int32) (p1 : Int32) : Option (St × Int32) :=
  obn (fX9_within σ p0 0 (σ 9 1)) fun σ1 r2 =>
  if r2 = 0 then
    some (σ1, 0)
  else
    obn (fX9_within σ1 p1 0 ((σ1 9 1) - p0)) fun σ5 r6 =>
    if r6 = 0 then
      some (σ5, 0)
    else
      some (σ5, 1)

def fX8_renew_8 (σ : St) (p0 : Int32) : Option (St × Int32) :=
  stp (cu σ 42 (fl (σ 42) 24 (vp_nar .short 0))) fun σ1 =>
  stp (up σ1 8 1 p0) fun σ2 =>
  some (σ2, p0)

def fX8_renew_9 (σ : St) (p0 : Int32) : Option (St × Int32) :=
  stp (cu σ 43 (fl (σ 43) 24 (vp_nar .short 0))) fun σ1 =>
  stp (up σ1 9 1 p0) fun σ2 =>
  some (σ2, p0)

def fX8_become_8 (σ : St) (p0 : Int32) (p1 : Int32) : Option (St × Int32) :=
  if p0 < 0 ∨ 24 ≤ p0.toNatClampNeg then none else
  itp (σ 42 p0.toNatClampNeg) fun v2 =>
  if p0 < 0 ∨ 24 ≤ p0.toNatClampNeg then none else
  stp (up σ 42 p0.toNatClampNeg (vp_nar .short p1)) fun σ4 =>
  some (σ4, v2)

def fX8_become_9 (σ : St) (p0 : Int32) (p1 : Int32) : Option (St × Int32) :=
  if p0 < 0 ∨ 24 ≤ p0.toNatClampNeg then none else
  itp (σ 43 p0.toNatClampNeg) fun v2 =>
  if p0 < 0 ∨ 24 ≤ p0.toNatClampNeg then none else
  stp (up σ 43 p0.toNatClampNeg (vp_nar .short p1)) fun σ4 =>
  some (σ4, v2)

def fX9_house (σ : St) (p0 : Int32) (p1 : Int32) : Option (St × Int32) :=
  obn (fX9_within σ p0 0 3) fun σ1 r2 =>
  if r2 = 0 then
    some (σ1, (-1000000001))
  else
    obn (fX9_within σ1 p1 1 999) fun σ5 r6 =>
    if r6 = 0 then
      some (σ5, (-1000000001))
    else
      if (σ5 1 5) < 6 then
        obn (fX1_add σ5 p0 p1) fun σ10 r11 =>
        some (σ10, r11)
      else
        some (σ5, (-1000000003))

def fX9_isOf (σ : St) (p0 : Int32) (p1 : Int32) : Option (St × Int32) :=
  obn (fX1_has σ p0) fun σ1 r2 =>
  if r2 = 0 then
    some (σ1, (-1000000001))
  else
    obn (fX9_within σ1 p1 0 3) fun σ5 r6 =>
    if r6 = 0 then
      some (σ5, (-1000000001))
    else
      obn (fX1_areOf σ5 p0 p1) fun σ9 r10 =>
      if r10 = 0 then
        some (σ9, 0)
      else
        some (σ9, 1)

def fX9_way (σ : St) (p0 : Int32) (p1 : Int32) (p2 : Int32) : Option (St × Int32) :=
  obn (fX1_hasTwo σ p0 p1) fun σ1 r2 =>
  if r2 = 0 then
    some (σ1, (-1000000001))
  else
    obn (fX9_within σ1 p2 0 99) fun σ5 r6 =>
    if r6 = 0 then
      some (σ5, (-1000000001))
    else
      obn (fX3_become_10 σ5 p0 p1 p2) fun σ9 r10 =>
      some (σ9, r10)

def fX9_slack (σ : St) (p0 : Int32) (p1 : Int32) : Option (St × Int32) :=
  obn (fX1_has σ p0) fun σ1 r2 =>
  if r2 = 0 then
    some (σ1, (-1000000001))
  else
    obn (fX9_within σ1 p1 0 9) fun σ5 r6 =>
    if r6 = 0 then
      some (σ5, (-1000000001))
    else
      if p0 < 0 ∨ 6 ≤ p0.toNatClampNeg then none else
      itp (σ5 14 p0.toNatClampNeg) fun v10 =>
      if p0 < 0 ∨ 6 ≤ p0.toNatClampNeg then none else
      stp (up σ5 14 p0.toNatClampNeg p1) fun σ12 =>
      some (σ12, v10)

def fX9_reel (σ : St) (p0 : Int32) : Option (St × Int32) :=
  obn (fX9_within σ p0 1 20000) fun σ1 r2 =>
  if r2 = 0 then
    some (σ1, (-1000000001))
  else
    if (σ1 2 2) < 8 then
      obn (fX2_forget σ1) fun σ6 r7 =>
      obn (fX5_add σ6 p0) fun σ9 r10 =>
      some (σ9, r10)
    else
      some (σ1, (-1000000003))

def fX9_mend (σ : St) (p0 : Int32) (p1 : Int32) : Option (St × Int32) :=
  obn (fX5_has σ p0) fun σ1 r2 =>
  if r2 = 0 then
    some (σ1, (-1000000001))
  else
    obn (fX9_within σ1 p1 1 20000) fun σ5 r6 =>
    if r6 = 0 then
      some (σ5, (-1000000001))
    else
      obn (fX5_shorten σ5 p0 p1) fun σ9 r10 =>
      some (σ9, r10)

def fX9_told (σ : St) (p0 : Int32) (p1 : Int32) : Option (St × Int32) :=
  obn (fX5_has σ p0) fun σ1 r2 =>
  if r2 = 0 then
    some (σ1, (-1000000001))
  else
    if p1 = 0 then
      if p0 < 0 ∨ 8 ≤ p0.toNatClampNeg then none else
      some (σ1, (σ1 17 p0.toNatClampNeg))
    else
    if p1 = 1 then
      obn (fX5_minutes σ1 p0) fun σ8 r9 =>
      some (σ8, r9)
    else
    if p1 = 2 then
      if p0 < 0 ∨ 8 ≤ p0.toNatClampNeg then none else
      some (σ1, (σ1 18 p0.toNatClampNeg))
    else
    some (σ1, (-1000000001))

def fX9_order (σ : St) (p0 : Int32) : Option (St × Int32) :=
  obn (fX2_canBeOrder σ p0) fun σ1 r2 =>
  if r2 = 0 then
    some (σ1, (-1000000001))
  else
    if (σ1 2 2) = 0 then
      some (σ1, (-1000000002))
    else
      obn (fX2_takeOrder σ1 p0) fun σ6 r7 =>
      some (σ6, r7)

def fX9_start (σ : St) (p0 : Int32) : Option (St × Int32) :=
  obn (fX2_has σ p0) fun σ1 r2 =>
  if r2 = 0 then
    some (σ1, (-1000000001))
  else
    obn (fX2_reckonStarts σ1) fun σ5 r6 =>
    if p0 < 0 ∨ 6 ≤ p0.toNatClampNeg then none else
    some (σ5, (σ5 21 p0.toNatClampNeg))

def fX9_ride (σ : St) (p0 : Int32) (p1 : Int32) : Option (St × Int32) :=
  obn (fX2_hasRide σ p0) fun σ1 r2 =>
  if r2 = 0 then
    some (σ1, (-1000000001))
  else
    obn (fX2_listRides σ1) fun σ5 r6 =>
    if p1 = 0 then
      if p0 < 0 ∨ 40 ≤ p0.toNatClampNeg then none else
      some (σ5, (σ5 26 p0.toNatClampNeg))
    else
    if p1 = 1 then
      if p0 < 0 ∨ 40 ≤ p0.toNatClampNeg then none else
      some (σ5, (σ5 27 p0.toNatClampNeg))
    else
    if p1 = 2 then
      if p0 < 0 ∨ 40 ≤ p0.toNatClampNeg then none else
      some (σ5, (σ5 28 p0.toNatClampNeg))
    else
    if p1 = 3 then
      if p0 < 0 ∨ 40 ≤ p0.toNatClampNeg then none else
      some (σ5, (σ5 29 p0.toNatClampNeg))
    else
    if p1 = 4 then
      if p0 < 0 ∨ 40 ≤ p0.toNatClampNeg then none else
      some (σ5, (σ5 30 p0.toNatClampNeg))
    else
    some (σ5, (-1000000001))

def fX9_riders (σ : St) : Option (St × Int32) :=
  obn (fX2_listRides σ) fun σ1 r2 =>
  obn (fX6_fewestRiders σ1) fun σ4 r5 =>
  some (σ4, r5)

def fX9_late (σ : St) (p0 : Int32) (p1 : Int32) : Option (St × Int32) :=
  obn (fX2_hasRide σ p0) fun σ1 r2 =>
  if r2 = 0 then
    some (σ1, (-1000000001))
  else
    obn (fX9_within σ1 p1 0 200) fun σ5 r6 =>
    if r6 = 0 then
      some (σ5, (-1000000001))
    else
      if p0 < 0 ∨ 40 ≤ p0.toNatClampNeg then none else
      itp (σ5 20 p0.toNatClampNeg) fun v10 =>
      if p0 < 0 ∨ 40 ≤ p0.toNatClampNeg then none else
      stp (up σ5 20 p0.toNatClampNeg p1) fun σ12 =>
      some (σ12, v10)

def fX9_begins (σ : St) (p0 : Int32) (p1 : Int32) : Option (St × Int32) :=
  obn (fX2_has σ p0) fun σ1 r2 =>
  if r2 = 0 then
    some (σ1, (-1000000001))
  else
    obn (fX5_has σ1 p1) fun σ5 r6 =>
    if r6 = 0 then
      some (σ5, (-1000000001))
    else
      obn (fX2_reckonShows σ5) fun σ9 r10 =>
      obn (fX2_cell σ9 p0 p1) fun σ12 r13 =>
      if r13 < 0 ∨ 48 ≤ r13.toNatClampNeg then none else
      some (σ12, (σ12 23 r13.toNatClampNeg))

def fX9_waited (σ : St) (p0 : Int32) : Option (St × Int32) :=
  obn (fX2_has σ p0) fun σ1 r2 =>
  if r2 = 0 then
    some (σ1, (-1000000001))
  else
    obn (fX2_reckonShows σ1) fun σ5 r6 =>
    obn (fX2_waitedAt σ5 p0) fun σ8 r9 =>
    some (σ8, r9)

def fX9_cause (σ : St) (p0 : Int32) (p1 : Int32) : Option (St × Int32) :=
  obn (fX2_has σ p0) fun σ1 r2 =>
  if r2 = 0 then
    some (σ1, (-1000000001))
  else
    obn (fX5_has σ1 p1) fun σ5 r6 =>
    if r6 = 0 then
      some (σ5, (-1000000001))
    else
      obn (fX2_reckonShows σ5) fun σ9 r10 =>
      obn (fX2_cell σ9 p0 p1) fun σ12 r13 =>
      if r13 < 0 ∨ 48 ≤ r13.toNatClampNeg then none else
      some (σ12, (σ12 25 r13.toNatClampNeg))

def fX9_where (σ : St) (p0 : Int32) (p1 : Int32) : Option (St × Int32) :=
  obn (fX5_has σ p0) fun σ1 r2 =>
  if r2 = 0 then
    some (σ1, (-1000000001))
  else
    obn (fX9_within σ1 p1 0 9999) fun σ5 r6 =>
    if r6 = 0 then
      some (σ5, (-1000000001))
    else
      if (σ5 3 5) = 0 then
        some (σ5, (-1000000005))
      else
        obn (fX2_reckonShows σ5) fun σ10 r11 =>
        obn (fX2_whereIs σ10 p0 p1) fun σ13 r14 =>
        some (σ13, r14)

def fX9_film (σ : St) : Option (St × Int32) :=
  if (σ 5 6) < 5 then
    obn (fX0_addFilm σ) fun σ2 r3 =>
    some (σ2, r3)
  else
    some (σ, (-1000000003))

def fX9_worth (σ : St) (p0 : Int32) (p1 : Int32) (p2 : Int32) : Option (St × Int32) :=
  obn (fX0_hasFilm σ p0) fun σ1 r2 =>
  if r2 = 0 then
    some (σ1, (-1000000001))
  else
    obn (fX1_has σ1 p1) fun σ5 r6 =>
    if r6 = 0 then
      some (σ5, (-1000000001))
    else
      obn (fX9_within σ5 p2 0 999) fun σ9 r10 =>
      if r10 = 0 then
        some (σ9, (-1000000001))
      else
        obn (fX0_cell σ9 p0 p1) fun σ13 r14 =>
        if r14 < 0 ∨ 30 ≤ r14.toNatClampNeg then none else
        itp (σ13 34 r14.toNatClampNeg) fun v17 =>
        if r14 < 0 ∨ 30 ≤ r14.toNatClampNeg then none else
        stp (up σ13 34 r14.toNatClampNeg p2) fun σ19 =>
        some (σ19, v17)

def fX9_bar (σ : St) (p0 : Int32) (p1 : Int32) (p2 : Int32) : Option (St × Int32) :=
  obn (fX1_hasTwo σ p0 p1) fun σ1 r2 =>
  if r2 = 0 then
    some (σ1, (-1000000001))
  else
    obn (fX9_within σ1 p2 0 3) fun σ5 r6 =>
    if r6 = 0 then
      some (σ5, (-1000000001))
    else
      obn (fX3_become_11 σ5 p0 p1 p2) fun σ9 r10 =>
      some (σ9, r10)

def fX9_isWeek (σ : St) (p0 : Int32) : Option (St × Int32) :=
  obn (fX9_within σ p0 0 3) fun σ1 r2 =>
  if r2 = 0 ∨ r2 = 1 then some (σ1, r2) else none

def fX9_pin (σ : St) (p0 : Int32) (p1 : Int32) (p2 : Int32) : Option (St × Int32) :=
  if p0 = (-1000000005) then
    obn (fX1_has σ p1) fun σ2 r3 =>
    if r3 = 0 then
      some (σ2, (-1000000001))
    else
      obn (fX9_isWeek σ2 p2) fun σ6 r7 =>
      if r7 = 0 then
        some (σ6, (-1000000001))
      else
        obn (fX9_place σ6 p2 p1) fun σ10 r11 =>
        if r11 < 0 ∨ 24 ≤ r11.toNatClampNeg then none else
        itp (σ10 35 r11.toNatClampNeg) fun v14 =>
        if r11 < 0 ∨ 24 ≤ r11.toNatClampNeg then none else
        stp (up σ10 35 r11.toNatClampNeg p0) fun σ16 =>
        some (σ16, v14)
  else
    obn (fX0_hasFilm σ p0) fun σ17 r18 =>
    if r18 = 0 then
      some (σ17, (-1000000001))
    else
      obn (fX1_has σ17 p1) fun σ21 r22 =>
      if r22 = 0 then
        some (σ21, (-1000000001))
      else
        obn (fX9_isWeek σ21 p2) fun σ25 r26 =>
        if r26 = 0 then
          some (σ25, (-1000000001))
        else
          obn (fX9_place σ25 p2 p1) fun σ29 r30 =>
          if r30 < 0 ∨ 24 ≤ r30.toNatClampNeg then none else
          itp (σ29 35 r30.toNatClampNeg) fun v33 =>
          if r30 < 0 ∨ 24 ≤ r30.toNatClampNeg then none else
          stp (up σ29 35 r30.toNatClampNeg p0) fun σ35 =>
          some (σ35, v33)

def fX9_plan (σ : St) (p0 : Int32) (p1 : Int32) : Option (St × Int32) :=
  obn (fX9_isWeek σ p0) fun σ1 r2 =>
  if r2 = 0 then
    some (σ1, (-1000000001))
  else
    obn (fX9_within σ1 p1 1 20000) fun σ5 r6 =>
    if r6 = 0 then
      some (σ5, (-1000000001))
    else
      obn (fX0_makePlan σ5 p0 p1) fun σ9 r10 =>
      some (σ9, r10)

def fX9_planned (σ : St) (p0 : Int32) (p1 : Int32) : Option (St × Int32) :=
  obn (fX1_has σ p0) fun σ1 r2 =>
  if r2 = 0 then
    some (σ1, (-1000000001))
  else
    obn (fX9_isWeek σ1 p1) fun σ5 r6 =>
    if r6 = 0 then
      some (σ5, (-1000000001))
    else
      obn (fX9_place σ5 p1 p0) fun σ9 r10 =>
      if r10 < 0 ∨ 24 ≤ r10.toNatClampNeg then none else
      some (σ9, (σ9 36 r10.toNatClampNeg))

def fX9_rule (σ : St) (p0 : Int32) (p1 : Int32) : Option (St × Int32) :=
  obn (fX4_mayRule σ p0 p1) fun σ1 r2 =>
  if r2 = 0 then
    some (σ1, (-1000000001))
  else
    if p0 < 0 ∨ 3 ≤ p0.toNatClampNeg then none else
    itp (σ1 40 p0.toNatClampNeg) fun v6 =>
    if p0 < 0 ∨ 3 ≤ p0.toNatClampNeg then none else
    stp (up σ1 40 p0.toNatClampNeg p1) fun σ8 =>
    some (σ8, v6)

def fX9_least (σ : St) (p0 : Int32) (p1 : Int32) : Option (St × Int32) :=
  obn (fX1_has σ p0) fun σ1 r2 =>
  if r2 = 0 then
    some (σ1, (-1000000001))
  else
    obn (fX9_within σ1 p1 0 9999) fun σ5 r6 =>
    if r6 = 0 then
      some (σ5, (-1000000001))
    else
      obn (fX1_areOf σ5 p0 1) fun σ9 r10 =>
      if r10 = 0 then
        some (σ9, (-1000000002))
      else
        if p0 < 0 ∨ 6 ≤ p0.toNatClampNeg then none else
        itp (σ9 15 p0.toNatClampNeg) fun v14 =>
        if p0 < 0 ∨ 6 ≤ p0.toNatClampNeg then none else
        stp (up σ9 15 p0.toNatClampNeg p1) fun σ16 =>
        some (σ16, v14)

def fX9_share (σ : St) (p0 : Int32) (p1 : Int32) : Option (St × Int32) :=
  obn (fX1_has σ p0) fun σ1 r2 =>
  if r2 = 0 then
    some (σ1, (-1000000001))
  else
    if p0 < 0 ∨ 6 ≤ p0.toNatClampNeg then none else
    obn (fX9_within σ1 p1 0 (σ1 13 p0.toNatClampNeg)) fun σ6 r7 =>
    if r7 = 0 then
      some (σ6, (-1000000001))
    else
      obn (fX4_shareOf σ6 p0 p1) fun σ10 r11 =>
      some (σ10, r11)

def fX9_shares (σ : St) (p0 : Int32) : Option (St × Int32) :=
  obn (fX9_isWeek σ p0) fun σ1 r2 =>
  if r2 = 0 then
    some (σ1, (-1000000001))
  else
    obn (fX8_isMissing_8 σ1) fun σ5 r6 =>
    if r6 = 0 then
      obn (fX4_allShares σ5 p0) fun σ9 r10 =>
      some (σ9, r10)
    else
      some (σ5, (-1000000011))

def fX9_checked (σ : St) (p0 : Int32) : Option (St × Int32) :=
  obn (fX9_isWeek σ p0) fun σ1 r2 =>
  if r2 = 0 then
    some (σ1, (-1000000001))
  else
    obn (fX4_checkedBits σ1 p0) fun σ5 r6 =>
    some (σ5, r6)

def fX9_isSheet (σ : St) (p0 : Int32) : Option (St × Int32) :=
  obn (fX9_within σ p0 0 1) fun σ1 r2 =>
  if r2 = 0 ∨ r2 = 1 then some (σ1, r2) else none

def fX9_sheet (σ : St) (p0 : Int32) (p1 : Int32) : Option (St × Int32) :=
  obn (fX9_isSheet σ p0) fun σ1 r2 =>
  if r2 = 0 then
    some (σ1, (-1000000001))
  else
    if p1 ≤ 24 then
      if 0 ≤ p1 then
        if p0 < 0 ∨ 2 ≤ p0.toNatClampNeg then none else
        if p0 = 0 then
          obn (fX8_renew_8 σ1 p1) fun σ9 r10 =>
          some (σ9, r10)
        else
          obn (fX8_renew_9 σ1 p1) fun σ12 r13 =>
          some (σ12, r13)
      else
        some (σ1, (-1000000014))
    else
      some (σ1, (-1000000001))

def fX9_mark (σ : St) (p0 : Int32) (p1 : Int32) (p2 : Int32) : Option (St × Int32) :=
  obn (fX9_isSheet σ p0) fun σ1 r2 =>
  if r2 = 0 then
    some (σ1, (-1000000001))
  else
    if p0 < 0 ∨ 2 ≤ p0.toNatClampNeg then none else
    if p0 = 0 then
      obn (fX8_isMissing_8 σ1) fun σ7 r8 =>
      if r8 = 0 then
        obn (fX8_has_8 σ7 p1) fun σ11 r12 =>
        if r12 = 0 then
          some (σ11, (-1000000013))
        else
          obn (fX8_become_8 σ11 p1 (p2.toInt16.toInt32)) fun σ15 r16 =>
          some (σ15, r16)
      else
        some (σ7, (-1000000011))
    else
      obn (fX8_isMissing_9 σ1) fun σ18 r19 =>
      if r19 = 0 then
        obn (fX8_has_9 σ18 p1) fun σ22 r23 =>
        if r23 = 0 then
          some (σ22, (-1000000013))
        else
          obn (fX8_become_9 σ22 p1 (p2.toInt16.toInt32)) fun σ26 r27 =>
          some (σ26, r27)
      else
        some (σ18, (-1000000011))

def fX9_copy (σ : St) (p0 : Int32) (p1 : Int32) (p2 : Int32) (p3 : Int32) (p4 : Int32) : Option (St × Int32) :=
  obn (fX9_isSheet σ p0) fun σ1 r2 =>
  if r2 = 0 then
    some (σ1, (-1000000001))
  else
    obn (fX9_isSheet σ1 p2) fun σ5 r6 =>
    if r6 = 0 then
      some (σ5, (-1000000001))
    else
      if p0 < 0 ∨ 2 ≤ p0.toNatClampNeg then none else
      if p0 = 0 then
        if p2 < 0 ∨ 2 ≤ p2.toNatClampNeg then none else
        if p2 = 0 then
          obn (fX8_isMissing_8 σ5) fun σ13 r14 =>
          if r14 = 0 then
            obn (fX8_isMissing_8 σ13) fun σ17 r18 =>
            if r18 = 0 then
              obn (fX8_spans_8 σ17 p1 p4) fun σ21 r22 =>
              if r22 = 0 then
                some (σ21, (-1000000013))
              else
                obn (fX8_spans_8 σ21 p3 p4) fun σ25 r26 =>
                if r26 = 0 then
                  some (σ25, (-1000000013))
                else
                  if p1 < 0 ∨ p3 < 0 ∨ p4 < 0 ∨ 24 < p1.toNatClampNeg + p4.toNatClampNeg ∨ 24 < p3.toNatClampNeg + p4.toNatClampNeg then none else
                  if ∀ i, i < p4.toNatClampNeg → fits .short (.int (σ25 42 (p1.toNatClampNeg + i))) = true then
                  stp (cu σ25 42 (va_cpy (σ25 42) (σ25 42) p1.toNatClampNeg p3.toNatClampNeg p4.toNatClampNeg)) fun σ29 =>
                    some (σ29, p4)
                  else none
            else
              some (σ17, (-1000000011))
          else
            some (σ13, (-1000000011))
        else
          obn (fX8_isMissing_8 σ5) fun σ32 r33 =>
          if r33 = 0 then
            obn (fX8_isMissing_9 σ32) fun σ36 r37 =>
            if r37 = 0 then
              obn (fX8_spans_8 σ36 p1 p4) fun σ40 r41 =>
              if r41 = 0 then
                some (σ40, (-1000000013))
              else
                obn (fX8_spans_9 σ40 p3 p4) fun σ44 r45 =>
                if r45 = 0 then
                  some (σ44, (-1000000013))
                else
                  if p1 < 0 ∨ p3 < 0 ∨ p4 < 0 ∨ 24 < p1.toNatClampNeg + p4.toNatClampNeg ∨ 24 < p3.toNatClampNeg + p4.toNatClampNeg then none else
                  if ∀ i, i < p4.toNatClampNeg → fits .short (.int (σ44 42 (p1.toNatClampNeg + i))) = true then
                  stp (cu σ44 43 (va_cpy (σ44 42) (σ44 43) p1.toNatClampNeg p3.toNatClampNeg p4.toNatClampNeg)) fun σ48 =>
                    some (σ48, p4)
                  else none
            else
              some (σ36, (-1000000011))
          else
            some (σ32, (-1000000011))
      else
        if p2 < 0 ∨ 2 ≤ p2.toNatClampNeg then none else
        if p2 = 0 then
          obn (fX8_isMissing_9 σ5) fun σ53 r54 =>
          if r54 = 0 then
            obn (fX8_isMissing_8 σ53) fun σ57 r58 =>
            if r58 = 0 then
              obn (fX8_spans_9 σ57 p1 p4) fun σ61 r62 =>
              if r62 = 0 then
                some (σ61, (-1000000013))
              else
                obn (fX8_spans_8 σ61 p3 p4) fun σ65 r66 =>
                if r66 = 0 then
                  some (σ65, (-1000000013))
                else
                  if p1 < 0 ∨ p3 < 0 ∨ p4 < 0 ∨ 24 < p1.toNatClampNeg + p4.toNatClampNeg ∨ 24 < p3.toNatClampNeg + p4.toNatClampNeg then none else
                  if ∀ i, i < p4.toNatClampNeg → fits .short (.int (σ65 43 (p1.toNatClampNeg + i))) = true then
                  stp (cu σ65 42 (va_cpy (σ65 43) (σ65 42) p1.toNatClampNeg p3.toNatClampNeg p4.toNatClampNeg)) fun σ69 =>
                    some (σ69, p4)
                  else none
            else
              some (σ57, (-1000000011))
          else
            some (σ53, (-1000000011))
        else
          obn (fX8_isMissing_9 σ5) fun σ72 r73 =>
          if r73 = 0 then
            obn (fX8_isMissing_9 σ72) fun σ76 r77 =>
            if r77 = 0 then
              obn (fX8_spans_9 σ76 p1 p4) fun σ80 r81 =>
              if r81 = 0 then
                some (σ80, (-1000000013))
              else
                obn (fX8_spans_9 σ80 p3 p4) fun σ84 r85 =>
                if r85 = 0 then
                  some (σ84, (-1000000013))
                else
                  if p1 < 0 ∨ p3 < 0 ∨ p4 < 0 ∨ 24 < p1.toNatClampNeg + p4.toNatClampNeg ∨ 24 < p3.toNatClampNeg + p4.toNatClampNeg then none else
                  if ∀ i, i < p4.toNatClampNeg → fits .short (.int (σ84 43 (p1.toNatClampNeg + i))) = true then
                  stp (cu σ84 43 (va_cpy (σ84 43) (σ84 43) p1.toNatClampNeg p3.toNatClampNeg p4.toNatClampNeg)) fun σ88 =>
                    some (σ88, p4)
                  else none
            else
              some (σ76, (-1000000011))
          else
            some (σ72, (-1000000011))

def fX9_count (σ : St) (p0 : Int32) : Option (St × Int32) :=
  if p0 = 0 then
    some (σ, (σ 1 5))
  else
  if p0 = 1 then
    some (σ, (σ 2 2))
  else
  if p0 = 2 then
    some (σ, (σ 3 5))
  else
  if p0 = 3 then
    obn (fX2_manyRides σ) fun σ5 r6 =>
    some (σ5, r6)
  else
  if p0 = 4 then
    some (σ, (σ 5 6))
  else
  if p0 = 5 then
    obn (fX5_allFrames σ) fun σ10 r11 =>
    some (σ10, r11)
  else
  if p0 = 6 then
    obn (fX4_sheetsThere σ) fun σ14 r15 =>
    some (σ14, r15)
  else
  some (σ, (-1000000001))

def fX10_isIn (σ : St) (p0 : Int32) (p1 : Int32) (p2 : Int32) : Option (St × Int32) :=
  if p0 < p1 then
    some (σ, 0)
  else
    if p2 < p0 then
      some (σ, 0)
    else
      some (σ, 1)

def fX10_isHouse (σ : St) (p0 : Int32) : Option (St × Int32) :=
  obn (fX10_isIn σ p0 0 ((σ 0 0) - 1)) fun σ1 r2 =>
  if r2 = 0 ∨ r2 = 1 then some (σ1, r2) else none

def fX10_isReel (σ : St) (p0 : Int32) : Option (St × Int32) :=
  obn (fX10_isIn σ p0 0 ((σ 0 7) - 1)) fun σ1 r2 =>
  if r2 = 0 ∨ r2 = 1 then some (σ1, r2) else none

def fX10_house (σ : St) (p0 : Int32) (p1 : Int32) : Option (St × Int32) :=
  obn (fX10_isIn σ p0 0 3) fun σ1 r2 =>
  if r2 = 0 then
    some (σ1, (-1000000001))
  else
    obn (fX10_isIn σ1 p1 1 999) fun σ5 r6 =>
    if r6 = 0 then
      some (σ5, (-1000000001))
    else
      if (σ5 0 0) = 6 then
        some (σ5, (-1000000003))
      else
        if (σ5 0 0) < 0 ∨ 6 ≤ (σ5 0 0).toNatClampNeg then none else
        stp (up σ5 1 (σ5 0 0).toNatClampNeg p0) fun σ11 =>
        if (σ11 0 0) < 0 ∨ 6 ≤ (σ11 0 0).toNatClampNeg then none else
        stp (up σ11 2 (σ11 0 0).toNatClampNeg p1) fun σ13 =>
        stp (up σ13 0 0 ((σ13 0 0) + 1)) fun σ14 =>
        some (σ14, ((σ14 0 0) - 1))

def fX10_isPalace (σ : St) (p0 : Int32) : Option (St × Int32) :=
  if p0 < 0 ∨ 6 ≤ p0.toNatClampNeg then none else
  if (σ 1 p0.toNatClampNeg) = 1 then
    some (σ, 1)
  else
    if p0 < 0 ∨ 6 ≤ p0.toNatClampNeg then none else
    if (σ 1 p0.toNatClampNeg) = 3 then
      some (σ, 1)
    else
      some (σ, 0)

def fX10_isOf (σ : St) (p0 : Int32) (p1 : Int32) : Option (St × Int32) :=
  obn (fX10_isHouse σ p0) fun σ1 r2 =>
  if r2 = 0 then
    some (σ1, (-1000000001))
  else
    obn (fX10_isIn σ1 p1 0 3) fun σ5 r6 =>
    if r6 = 0 then
      some (σ5, (-1000000001))
    else
      if p1 = 0 then
        some (σ5, 1)
      else
        if p0 < 0 ∨ 6 ≤ p0.toNatClampNeg then none else
        if (σ5 1 p0.toNatClampNeg) = p1 then
          some (σ5, 1)
        else
          if p1 = 1 then
            obn (fX10_isPalace σ5 p0) fun σ13 r14 =>
            if r14 = 0 then
              some (σ13, 0)
            else
              some (σ13, 1)
          else
            some (σ5, 0)

def fX10_way (σ : St) (p0 : Int32) (p1 : Int32) (p2 : Int32) : Option (St × Int32) :=
  obn (fX10_isHouse σ p0) fun σ1 r2 =>
  if r2 = 0 then
    some (σ1, (-1000000001))
  else
    obn (fX10_isHouse σ1 p1) fun σ5 r6 =>
    if r6 = 0 then
      some (σ5, (-1000000001))
    else
      if p0 = p1 then
        some (σ5, (-1000000001))
      else
        obn (fX10_isIn σ5 p2 0 99) fun σ10 r11 =>
        if r11 = 0 then
          some (σ10, (-1000000001))
        else
          if ((6 * p0) + p1) < 0 ∨ 36 ≤ ((6 * p0) + p1).toNatClampNeg then none else
          itp (σ10 5 ((6 * p0) + p1).toNatClampNeg) fun v15 =>
          if ((6 * p0) + p1) < 0 ∨ 36 ≤ ((6 * p0) + p1).toNatClampNeg then none else
          stp (up σ10 5 ((6 * p0) + p1).toNatClampNeg p2) fun σ17 =>
          if ((6 * p1) + p0) < 0 ∨ 36 ≤ ((6 * p1) + p0).toNatClampNeg then none else
          stp (up σ17 5 ((6 * p1) + p0).toNatClampNeg p2) fun σ19 =>
          some (σ19, v15)

def fX10_slack (σ : St) (p0 : Int32) (p1 : Int32) : Option (St × Int32) :=
  obn (fX10_isHouse σ p0) fun σ1 r2 =>
  if r2 = 0 then
    some (σ1, (-1000000001))
  else
    obn (fX10_isIn σ1 p1 0 9) fun σ5 r6 =>
    if r6 = 0 then
      some (σ5, (-1000000001))
    else
      if p0 < 0 ∨ 6 ≤ p0.toNatClampNeg then none else
      itp (σ5 3 p0.toNatClampNeg) fun v10 =>
      if p0 < 0 ∨ 6 ≤ p0.toNatClampNeg then none else
      stp (up σ5 3 p0.toNatClampNeg p1) fun σ12 =>
      some (σ12, v10)

def fX10_reel (σ : St) (p0 : Int32) : Option (St × Int32) :=
  obn (fX10_isIn σ p0 1 20000) fun σ1 r2 =>
  if r2 = 0 then
    some (σ1, (-1000000001))
  else
    if (σ1 0 7) = 8 then
      some (σ1, (-1000000003))
    else
      if (σ1 0 7) < 0 ∨ 8 ≤ (σ1 0 7).toNatClampNeg then none else
      stp (up σ1 7 (σ1 0 7).toNatClampNeg p0) fun σ7 =>
      if (σ7 0 7) < 0 ∨ 8 ≤ (σ7 0 7).toNatClampNeg then none else
      stp (up σ7 8 (σ7 0 7).toNatClampNeg 0) fun σ9 =>
      stp (up σ9 0 7 ((σ9 0 7) + 1)) fun σ10 =>
      stp (up σ10 0 10 0) fun σ11 =>
      some (σ11, ((σ11 0 7) - 1))

def fX10_mend (σ : St) (p0 : Int32) (p1 : Int32) : Option (St × Int32) :=
  obn (fX10_isReel σ p0) fun σ1 r2 =>
  if r2 = 0 then
    some (σ1, (-1000000001))
  else
    obn (fX10_isIn σ1 p1 1 20000) fun σ5 r6 =>
    if r6 = 0 then
      some (σ5, (-1000000001))
    else
      if p0 < 0 ∨ 8 ≤ p0.toNatClampNeg then none else
      if (σ5 7 p0.toNatClampNeg) ≤ p1 then
        if p0 < 0 ∨ 8 ≤ p0.toNatClampNeg then none else
        stp (up σ5 7 p0.toNatClampNeg 1) fun σ12 =>
        if p0 < 0 ∨ 8 ≤ p0.toNatClampNeg then none else
        if p0 < 0 ∨ 8 ≤ p0.toNatClampNeg then none else
        stp (up σ12 8 p0.toNatClampNeg ((σ12 8 p0.toNatClampNeg) + 1)) fun σ15 =>
        if p0 < 0 ∨ 8 ≤ p0.toNatClampNeg then none else
        some (σ15, (σ15 7 p0.toNatClampNeg))
      else
        if p0 < 0 ∨ 8 ≤ p0.toNatClampNeg then none else
        if p0 < 0 ∨ 8 ≤ p0.toNatClampNeg then none else
        stp (up σ5 7 p0.toNatClampNeg ((σ5 7 p0.toNatClampNeg) - p1)) fun σ19 =>
        if p0 < 0 ∨ 8 ≤ p0.toNatClampNeg then none else
        if p0 < 0 ∨ 8 ≤ p0.toNatClampNeg then none else
        stp (up σ19 8 p0.toNatClampNeg ((σ19 8 p0.toNatClampNeg) + 1)) fun σ22 =>
        if p0 < 0 ∨ 8 ≤ p0.toNatClampNeg then none else
        some (σ22, (σ22 7 p0.toNatClampNeg))

def fX10_minutes (σ : St) (p0 : Int32) : Option (St × Int32) :=
  if p0 < 0 ∨ 8 ≤ p0.toNatClampNeg then none else
  itp ((σ 7 p0.toNatClampNeg) / 960) fun v2 =>
  if 1 ≤ v2 then
    some (σ, v2)
  else
    some (σ, 1)

def fX10_told (σ : St) (p0 : Int32) (p1 : Int32) : Option (St × Int32) :=
  obn (fX10_isReel σ p0) fun σ1 r2 =>
  if r2 = 0 then
    some (σ1, (-1000000001))
  else
    obn (fX10_isIn σ1 p1 0 2) fun σ5 r6 =>
    if r6 = 0 then
      some (σ5, (-1000000001))
    else
      if p1 = 0 then
        if p0 < 0 ∨ 8 ≤ p0.toNatClampNeg then none else
        some (σ5, (σ5 7 p0.toNatClampNeg))
      else
        if p1 = 1 then
          obn (fX10_minutes σ5 p0) fun σ12 r13 =>
          some (σ12, r13)
        else
          if p0 < 0 ∨ 8 ≤ p0.toNatClampNeg then none else
          some (σ5, (σ5 8 p0.toNatClampNeg))

def fX10_order_L11 (K38 : St → Int32 → Option (St × Int32)) : Nat → St → Int32 → Int32 → Option (St × Int32)
  | 0, _, _, _ => none
  | n + 1, σ, a2, a3 =>
    if a3 ≤ 0 then
      K38 σ a2
    else
      if a2 < 0 ∨ 12 ≤ a2.toNatClampNeg then none else
      stp (up σ 16 a2.toNatClampNeg ((a3 - a3 / 7 * 7) - 1)) fun σ4 =>
      itp (a3 / 7) fun v5 =>
      fX10_order_L11 K38 n σ4 (a2 + 1) v5
def fX10_order_L78 (K118 : St → Int32 → Int32 → Int32 → Option (St × Int32)) : Nat → St → Int32 → Int32 → Int32 → Int32 → Option (St × Int32)
  | 0, _, _, _, _, _ => none
  | n + 1, σ, a2, a3, a4, a5 =>
    if a4 ≤ a5 then
      K118 σ a2 a3 a4
    else
      if a3 = 0 then
        fX10_order_L78 K118 n σ a2 0 a4 (a5 + 1)
      else
        if a5 < 0 ∨ 12 ≤ a5.toNatClampNeg then none else
        if a4 < 0 ∨ 12 ≤ a4.toNatClampNeg then none else
        if (σ 16 a5.toNatClampNeg) = (σ 16 a4.toNatClampNeg) then
          fX10_order_L78 K118 n σ a2 0 a4 (a5 + 1)
        else
          fX10_order_L78 K118 n σ a2 1 a4 (a5 + 1)
def fX10_order_L53 (K124 : St → Int32 → Int32 → Option (St × Int32)) : Nat → St → Int32 → Int32 → Int32 → Option (St × Int32)
  | 0, _, _, _, _ => none
  | n + 1, σ, a2, a3, a4 =>
    if a2 ≤ a4 then
      K124 σ a2 a3
    else
      if a3 = 0 then
        K124 σ a2 a3
      else
        if a4 < 0 ∨ 12 ≤ a4.toNatClampNeg then none else
        obn (fX10_isHouse σ (σ 16 a4.toNatClampNeg)) fun σ12 r13 =>
        fX10_order_L78
          (fun (σ20 : St) (a21 : Int32) (a22 : Int32) (a23 : Int32) =>
            fX10_order_L53 K124 n σ20 a21 a22 (a23 + 1))
          50 σ12 a2 r13 a4 0
def fX10_order_L149 (K179 : St → Int32 → Option (St × Int32)) : Nat → St → Int32 → Int32 → Option (St × Int32)
  | 0, _, _, _ => none
  | n + 1, σ, a2, a4 =>
    if a2 ≤ a4 then
      K179 σ a2
    else
      if ((a2 - 1) - a4) < 0 ∨ 12 ≤ ((a2 - 1) - a4).toNatClampNeg then none else
      if a4 < 0 ∨ 6 ≤ a4.toNatClampNeg then none else
      stp (up σ 9 a4.toNatClampNeg (σ 16 ((a2 - 1) - a4).toNatClampNeg)) fun σ33 =>
      fX10_order_L149 K179 n σ33 a2 (a4 + 1)
def fX10_order_L182 : Nat → St → Int32 → Int32 → Option (St × Int32)
  | 0, _, _, _ => none
  | n + 1, σ, a2, a4 =>
    if 40 ≤ a4 then
      some (σ, a2)
    else
      if a4 < 0 ∨ 40 ≤ a4.toNatClampNeg then none else
      stp (up σ 10 a4.toNatClampNeg 0) fun σ38 =>
      fX10_order_L182 n σ38 a2 (a4 + 1)
def fX10_order (σ : St) (p0 : Int32) : Option (St × Int32) :=
  if 0 ≤ p0 then
    fX10_order_L11
      (fun (σ6 : St) (a7 : Int32) =>
        if 6 < a7 then
          fX10_order_L53
            (fun (σ24 : St) (a25 : Int32) (a26 : Int32) =>
              if a26 = 0 then
                some (σ24, (-1000000001))
              else
                if (σ24 0 7) = 0 then
                  some (σ24, (-1000000002))
                else
                  stp (up σ24 0 10 a25) fun σ29 =>
                  fX10_order_L149
                    (fun (σ34 : St) (a35 : Int32) =>
                      fX10_order_L182
                        50 σ34 a35 0)
                    50 σ29 a25 0)
            50 σ6 a7 0 0
        else
          fX10_order_L53
            (fun (σ39 : St) (a40 : Int32) (a41 : Int32) =>
              if a41 = 0 then
                some (σ39, (-1000000001))
              else
                if (σ39 0 7) = 0 then
                  some (σ39, (-1000000002))
                else
                  stp (up σ39 0 10 a40) fun σ44 =>
                  fX10_order_L149
                    (fun (σ45 : St) (a46 : Int32) =>
                      fX10_order_L182
                        50 σ45 a46 0)
                    50 σ44 a40 0)
            50 σ6 a7 1 0)
      50 σ 0 p0
  else
    some (σ, (-1000000001))

def fX10_wayTo (σ : St) (p0 : Int32) : Option (St × Int32) :=
  if (p0 - 1) < 0 ∨ 6 ≤ (p0 - 1).toNatClampNeg then none else
  if p0 < 0 ∨ 6 ≤ p0.toNatClampNeg then none else
  if ((6 * (σ 9 (p0 - 1).toNatClampNeg)) + (σ 9 p0.toNatClampNeg)) < 0 ∨ 36 ≤ ((6 * (σ 9 (p0 - 1).toNatClampNeg)) + (σ 9 p0.toNatClampNeg)).toNatClampNeg then none else
  some (σ, (σ 5 ((6 * (σ 9 (p0 - 1).toNatClampNeg)) + (σ 9 p0.toNatClampNeg)).toNatClampNeg))

def fX10_longest_L4 : Nat → St → Int32 → Int32 → Option (St × Int32)
  | 0, _, _, _ => none
  | n + 1, σ, a1, a2 =>
    if (σ 0 7) ≤ a2 then
      some (σ, a1)
    else
      obn (fX10_minutes σ a2) fun σ2 r3 =>
      if r3 ≤ a1 then
        fX10_longest_L4 n σ2 a1 (a2 + 1)
      else
        obn (fX10_minutes σ2 a2) fun σ6 r7 =>
        fX10_longest_L4 n σ6 r7 (a2 + 1)
def fX10_longest (σ : St) : Option (St × Int32) :=
  fX10_longest_L4
    50 σ 0 0

def fX10_startOf_L4 : Nat → St → Int32 → Int32 → Int32 → Option (St × Int32)
  | 0, _, _, _, _ => none
  | n + 1, σ, a1, a2, a3 =>
    if a1 < a3 then
      some (σ, a2)
    else
      obn (fX10_longest σ) fun σ2 r3 =>
      obn (fX10_wayTo σ2 a3) fun σ5 r6 =>
      itp (a2 + (r3 + r6)) fun v8 =>
      fX10_startOf_L4 n σ5 a1 v8 (a3 + 1)
def fX10_startOf (σ : St) (p0 : Int32) : Option (St × Int32) :=
  fX10_startOf_L4
    50 σ p0 0 1

def fX10_isPlace (σ : St) (p0 : Int32) : Option (St × Int32) :=
  obn (fX10_isIn σ p0 0 ((σ 0 10) - 1)) fun σ1 r2 =>
  if r2 = 0 ∨ r2 = 1 then some (σ1, r2) else none

def fX10_start (σ : St) (p0 : Int32) : Option (St × Int32) :=
  obn (fX10_isPlace σ p0) fun σ1 r2 =>
  if r2 = 0 then
    some (σ1, (-1000000001))
  else
    obn (fX10_startOf σ1 p0) fun σ5 r6 =>
    some (σ5, r6)

def fX10_rides (σ : St) : Option (St × Int32) :=
  if (σ 0 10) = 0 then
    some (σ, 0)
  else
    some (σ, (((σ 0 10) - 1) * (σ 0 7)))

def fX10_isRide (σ : St) (p0 : Int32) : Option (St × Int32) :=
  obn (fX10_rides σ) fun σ1 r2 =>
  obn (fX10_isIn σ1 p0 0 (r2 - 1)) fun σ4 r5 =>
  if r5 = 0 ∨ r5 = 1 then some (σ4, r5) else none

def fX10_toPlace (σ : St) (p0 : Int32) : Option (St × Int32) :=
  if (σ 0 7) = 0 then none else
  some (σ, ((p0 / (σ 0 7)) + 1))

def fX10_rideBegins_L14 : Nat → St → Int32 → Int32 → Int32 → Option (St × Int32)
  | 0, _, _, _, _ => none
  | n + 1, σ, a1, a2, a3 =>
    if (σ 0 7) = 0 then none else
    if (a1 - a1 / (σ 0 7) * (σ 0 7)) < a3 then
      some (σ, a2)
    else
      obn (fX10_minutes σ a3) fun σ9 r10 =>
      itp (a2 + r10) fun v12 =>
      fX10_rideBegins_L14 n σ9 a1 v12 (a3 + 1)
def fX10_rideBegins (σ : St) (p0 : Int32) : Option (St × Int32) :=
  obn (fX10_toPlace σ p0) fun σ1 r2 =>
  obn (fX10_startOf σ1 (r2 - 1)) fun σ4 r5 =>
  fX10_rideBegins_L14
    50 σ4 p0 r5 0

def fX10_rideEnds (σ : St) (p0 : Int32) : Option (St × Int32) :=
  obn (fX10_rideBegins σ p0) fun σ1 r2 =>
  obn (fX10_toPlace σ1 p0) fun σ4 r5 =>
  obn (fX10_wayTo σ4 r5) fun σ7 r8 =>
  some (σ7, (r2 + r8))

def fX10_ride (σ : St) (p0 : Int32) (p1 : Int32) : Option (St × Int32) :=
  obn (fX10_isRide σ p0) fun σ1 r2 =>
  if r2 = 0 then
    some (σ1, (-1000000001))
  else
    obn (fX10_isIn σ1 p1 0 4) fun σ5 r6 =>
    if r6 = 0 then
      some (σ5, (-1000000001))
    else
      if p1 = 0 then
        if (σ5 0 7) = 0 then none else
        some (σ5, (p0 - p0 / (σ5 0 7) * (σ5 0 7)))
      else
      if p1 = 1 then
        obn (fX10_toPlace σ5 p0) fun σ12 r13 =>
        if (r13 - 1) < 0 ∨ 6 ≤ (r13 - 1).toNatClampNeg then none else
        some (σ12, (σ12 9 (r13 - 1).toNatClampNeg))
      else
      if p1 = 2 then
        obn (fX10_toPlace σ5 p0) fun σ17 r18 =>
        if r18 < 0 ∨ 6 ≤ r18.toNatClampNeg then none else
        some (σ17, (σ17 9 r18.toNatClampNeg))
      else
      if p1 = 3 then
        obn (fX10_rideBegins σ5 p0) fun σ22 r23 =>
        some (σ22, r23)
      else
      obn (fX10_rideEnds σ5 p0) fun σ25 r26 =>
      some (σ25, r26)

def fX10_findFollowers_L26 (K143 : St → Int32 → Int32 → Option (St × Int32)) : Nat → St → Int32 → Int32 → Int32 → Int32 → Option (St × Int32)
  | 0, _, _, _, _, _ => none
  | n + 1, σ, a1, a2, a3, a4 =>
    if a1 ≤ a4 then
      K143 σ a1 a2
    else
      obn (fX10_rideBegins σ a2) fun σ11 r12 =>
      obn (fX10_rideBegins σ11 a4) fun σ14 r15 =>
      if r12 < r15 then
        obn (fX10_toPlace σ14 a4) fun σ18 r19 =>
        if (r19 - 1) < 0 ∨ 6 ≤ (r19 - 1).toNatClampNeg then none else
        itp (σ18 9 (r19 - 1).toNatClampNeg) fun v22 =>
        obn (fX10_rideEnds σ18 a2) fun σ23 r24 =>
        if ((6 * a3) + v22) < 0 ∨ 36 ≤ ((6 * a3) + v22).toNatClampNeg then none else
        obn (fX10_rideBegins σ23 a4) fun σ27 r28 =>
        if r28 < (r24 + (σ23 5 ((6 * a3) + v22).toNatClampNeg)) then
          if ((40 * a2) + a4) < 0 ∨ 1600 ≤ ((40 * a2) + a4).toNatClampNeg then none else
          stp (up σ27 19 ((40 * a2) + a4).toNatClampNeg (vp_nar .boolean 0)) fun σ32 =>
          fX10_findFollowers_L26 K143 n σ32 a1 a2 a3 (a4 + 1)
        else
          if ((40 * a2) + a4) < 0 ∨ 1600 ≤ ((40 * a2) + a4).toNatClampNeg then none else
          stp (up σ27 19 ((40 * a2) + a4).toNatClampNeg (vp_nar .boolean 1)) fun σ34 =>
          fX10_findFollowers_L26 K143 n σ34 a1 a2 a3 (a4 + 1)
      else
        obn (fX10_rideBegins σ14 a2) fun σ35 r36 =>
        obn (fX10_rideBegins σ35 a4) fun σ38 r39 =>
        if r36 = r39 then
          if a4 ≤ a2 then
            obn (fX10_toPlace σ38 a4) fun σ50 r51 =>
            if (r51 - 1) < 0 ∨ 6 ≤ (r51 - 1).toNatClampNeg then none else
            itp (σ50 9 (r51 - 1).toNatClampNeg) fun v54 =>
            if ((40 * a2) + a4) < 0 ∨ 1600 ≤ ((40 * a2) + a4).toNatClampNeg then none else
            stp (up σ50 19 ((40 * a2) + a4).toNatClampNeg (vp_nar .boolean 0)) fun σ56 =>
            fX10_findFollowers_L26 K143 n σ56 a1 a2 a3 (a4 + 1)
          else
            obn (fX10_toPlace σ38 a4) fun σ57 r58 =>
            if (r58 - 1) < 0 ∨ 6 ≤ (r58 - 1).toNatClampNeg then none else
            itp (σ57 9 (r58 - 1).toNatClampNeg) fun v61 =>
            obn (fX10_rideEnds σ57 a2) fun σ62 r63 =>
            if ((6 * a3) + v61) < 0 ∨ 36 ≤ ((6 * a3) + v61).toNatClampNeg then none else
            obn (fX10_rideBegins σ62 a4) fun σ66 r67 =>
            if r67 < (r63 + (σ62 5 ((6 * a3) + v61).toNatClampNeg)) then
              if ((40 * a2) + a4) < 0 ∨ 1600 ≤ ((40 * a2) + a4).toNatClampNeg then none else
              stp (up σ66 19 ((40 * a2) + a4).toNatClampNeg (vp_nar .boolean 0)) fun σ71 =>
              fX10_findFollowers_L26 K143 n σ71 a1 a2 a3 (a4 + 1)
            else
              if ((40 * a2) + a4) < 0 ∨ 1600 ≤ ((40 * a2) + a4).toNatClampNeg then none else
              stp (up σ66 19 ((40 * a2) + a4).toNatClampNeg (vp_nar .boolean 1)) fun σ73 =>
              fX10_findFollowers_L26 K143 n σ73 a1 a2 a3 (a4 + 1)
        else
          obn (fX10_toPlace σ38 a4) fun σ42 r43 =>
          if (r43 - 1) < 0 ∨ 6 ≤ (r43 - 1).toNatClampNeg then none else
          itp (σ42 9 (r43 - 1).toNatClampNeg) fun v46 =>
          if ((40 * a2) + a4) < 0 ∨ 1600 ≤ ((40 * a2) + a4).toNatClampNeg then none else
          stp (up σ42 19 ((40 * a2) + a4).toNatClampNeg (vp_nar .boolean 0)) fun σ48 =>
          fX10_findFollowers_L26 K143 n σ48 a1 a2 a3 (a4 + 1)
def fX10_findFollowers_L7 : Nat → St → Int32 → Int32 → Option (St × Int32)
  | 0, _, _, _ => none
  | n + 1, σ, a1, a2 =>
    if a1 ≤ a2 then
      some (σ, 0)
    else
      obn (fX10_toPlace σ a2) fun σ5 r6 =>
      if r6 < 0 ∨ 6 ≤ r6.toNatClampNeg then none else
      itp (σ5 9 r6.toNatClampNeg) fun v9 =>
      fX10_findFollowers_L26
        (fun (σ74 : St) (a75 : Int32) (a76 : Int32) =>
          fX10_findFollowers_L7 n σ74 a75 (a76 + 1))
        50 σ5 a1 a2 v9 0
def fX10_findFollowers (σ : St) : Option (St × Int32) :=
  obn (fX10_rides σ) fun σ1 r2 =>
  fX10_findFollowers_L7
    50 σ1 r2 0

def fX10_give_L2 (GX10_give : St → Int32 → Option (St × Int32)) (K65 : St → Int32 → Int32 → Option (St × Int32)) : Nat → St → Int32 → Int32 → Option (St × Int32)
  | 0, _, _, _ => none
  | n + 1, σ, a1, a2 =>
    obn (fX10_rides σ) fun σ1 r2 =>
    if r2 ≤ a2 then
      some (σ1, 0)
    else
      if ((40 * a1) + a2) < 0 ∨ 1600 ≤ ((40 * a1) + a2).toNatClampNeg then none else
      if (σ1 19 ((40 * a1) + a2).toNatClampNeg) = 0 then
        fX10_give_L2 GX10_give K65 n σ1 a1 (a2 + 1)
      else
        if a2 < 0 ∨ 40 ≤ a2.toNatClampNeg then none else
        if (σ1 18 a2.toNatClampNeg) = 0 then
          if a2 < 0 ∨ 40 ≤ a2.toNatClampNeg then none else
          stp (up σ1 18 a2.toNatClampNeg (vp_nar .boolean 1)) fun σ10 =>
          if a2 < 0 ∨ 40 ≤ a2.toNatClampNeg then none else
          if (σ10 17 a2.toNatClampNeg) < 0 then
            K65 σ10 a1 a2
          else
            if a2 < 0 ∨ 40 ≤ a2.toNatClampNeg then none else
            obn (GX10_give σ10 (σ10 17 a2.toNatClampNeg)) fun σ14 r15 =>
            if r15 = 0 then
              fX10_give_L2 GX10_give K65 n σ14 a1 (a2 + 1)
            else
              K65 σ14 a1 a2
        else
          fX10_give_L2 GX10_give K65 n σ1 a1 (a2 + 1)
def fX10_give (GX10_give : St → Int32 → Option (St × Int32)) (σ : St) (p0 : Int32) : Option (St × Int32) :=
  fX10_give_L2 GX10_give
    (fun (σ18 : St) (a19 : Int32) (a20 : Int32) =>
      if a20 < 0 ∨ 40 ≤ a20.toNatClampNeg then none else
      stp (up σ18 17 a20.toNatClampNeg a19) fun σ22 =>
      some (σ22, 1))
    50 σ p0 0
def fX10_giveR : Nat → St → Int32 → Option (St × Int32)
  | 0, _, _ => none
  | d + 1, σ, p0 => fX10_give (fX10_giveR d) σ p0

def fX10_riders_L11 (K29 : St → Int32 → Option (St × Int32)) : Nat → St → Int32 → Int32 → Option (St × Int32)
  | 0, _, _, _ => none
  | n + 1, σ, a1, a2 =>
    if a1 ≤ a2 then
      K29 σ a1
    else
      if a2 < 0 ∨ 40 ≤ a2.toNatClampNeg then none else
      stp (up σ 17 a2.toNatClampNeg (-1)) fun σ9 =>
      fX10_riders_L11 K29 n σ9 a1 (a2 + 1)
def fX10_riders_L41 (K61 : St → Int32 → Int32 → Int32 → Option (St × Int32)) : Nat → St → Int32 → Int32 → Int32 → Int32 → Option (St × Int32)
  | 0, _, _, _, _, _ => none
  | n + 1, σ, a1, a2, a3, a4 =>
    if a1 ≤ a4 then
      K61 σ a1 a2 a3
    else
      if a4 < 0 ∨ 40 ≤ a4.toNatClampNeg then none else
      stp (up σ 18 a4.toNatClampNeg (vp_nar .boolean 0)) fun σ15 =>
      fX10_riders_L41 K61 n σ15 a1 a2 a3 (a4 + 1)
def fX10_riders_L33 : Nat → St → Int32 → Int32 → Int32 → Option (St × Int32)
  | 0, _, _, _, _ => none
  | n + 1, σ, a1, a2, a3 =>
    if a1 ≤ a3 then
      some (σ, (a1 - a2))
    else
      fX10_riders_L41
        (fun (σ16 : St) (a17 : Int32) (a18 : Int32) (a19 : Int32) =>
          obn (fX10_giveR 42 σ16 a19) fun σ20 r21 =>
          if r21 = 0 then
            itp (a18 + 0) fun v24 =>
            fX10_riders_L33 n σ20 a17 v24 (a19 + 1)
          else
            itp (a18 + 1) fun v25 =>
            fX10_riders_L33 n σ20 a17 v25 (a19 + 1))
        50 σ a1 a2 a3 0
def fX10_riders (σ : St) : Option (St × Int32) :=
  obn (fX10_rides σ) fun σ1 r2 =>
  obn (fX10_findFollowers σ1) fun σ4 r5 =>
  fX10_riders_L11
    (fun (σ10 : St) (a11 : Int32) =>
      fX10_riders_L33
        50 σ10 a11 0 0)
    50 σ4 r2 0

def fX10_late (σ : St) (p0 : Int32) (p1 : Int32) : Option (St × Int32) :=
  obn (fX10_isRide σ p0) fun σ1 r2 =>
  if r2 = 0 then
    some (σ1, (-1000000001))
  else
    obn (fX10_isIn σ1 p1 0 200) fun σ5 r6 =>
    if r6 = 0 then
      some (σ5, (-1000000001))
    else
      if p0 < 0 ∨ 40 ≤ p0.toNatClampNeg then none else
      itp (σ5 10 p0.toNatClampNeg) fun v10 =>
      if p0 < 0 ∨ 40 ≤ p0.toNatClampNeg then none else
      stp (up σ5 10 p0.toNatClampNeg p1) fun σ12 =>
      some (σ12, v10)

def fX10_goOn_L18 (K156 : St → Int32 → Option (St × Int32)) : Nat → St → Int32 → Int32 → Int32 → Option (St × Int32)
  | 0, _, _, _, _ => none
  | n + 1, σ, a1, a2, a3 =>
    if (σ 0 7) ≤ a3 then
      K156 σ a1
    else
      itp ((8 * a1) + a3) fun v6 =>
      if v6 < 0 ∨ 48 ≤ v6.toNatClampNeg then none else
      stp (up σ 20 v6.toNatClampNeg 0) fun σ8 =>
      if a1 ≤ 0 then
        if v6 < 0 ∨ 48 ≤ v6.toNatClampNeg then none else
        if (σ8 20 v6.toNatClampNeg) ≤ a2 then
          if v6 < 0 ∨ 48 ≤ v6.toNatClampNeg then none else
          stp (up σ8 21 v6.toNatClampNeg a2) fun σ13 =>
          if v6 < 0 ∨ 48 ≤ v6.toNatClampNeg then none else
          if v6 < 0 ∨ 48 ≤ v6.toNatClampNeg then none else
          stp (up σ13 22 v6.toNatClampNeg ((σ13 21 v6.toNatClampNeg) - a2)) fun σ16 =>
          if v6 < 0 ∨ 48 ≤ v6.toNatClampNeg then none else
          obn (fX10_minutes σ16 a3) fun σ18 r19 =>
          itp ((σ16 21 v6.toNatClampNeg) + r19) fun v21 =>
          fX10_goOn_L18 K156 n σ18 a1 v21 (a3 + 1)
        else
          if v6 < 0 ∨ 48 ≤ v6.toNatClampNeg then none else
          if v6 < 0 ∨ 48 ≤ v6.toNatClampNeg then none else
          stp (up σ8 21 v6.toNatClampNeg (σ8 20 v6.toNatClampNeg)) fun σ24 =>
          if v6 < 0 ∨ 48 ≤ v6.toNatClampNeg then none else
          if v6 < 0 ∨ 48 ≤ v6.toNatClampNeg then none else
          stp (up σ24 22 v6.toNatClampNeg ((σ24 21 v6.toNatClampNeg) - a2)) fun σ27 =>
          if v6 < 0 ∨ 48 ≤ v6.toNatClampNeg then none else
          obn (fX10_minutes σ27 a3) fun σ29 r30 =>
          itp ((σ27 21 v6.toNatClampNeg) + r30) fun v32 =>
          fX10_goOn_L18 K156 n σ29 a1 v32 (a3 + 1)
      else
        if (v6 - 8) < 0 ∨ 48 ≤ (v6 - 8).toNatClampNeg then none else
        obn (fX10_minutes σ8 a3) fun σ34 r35 =>
        obn (fX10_wayTo σ34 a1) fun σ37 r38 =>
        if (((a1 - 1) * (σ37 0 7)) + a3) < 0 ∨ 40 ≤ (((a1 - 1) * (σ37 0 7)) + a3).toNatClampNeg then none else
        if v6 < 0 ∨ 48 ≤ v6.toNatClampNeg then none else
        stp (up σ37 20 v6.toNatClampNeg ((((σ8 21 (v6 - 8).toNatClampNeg) + r35) + r38) + (σ37 10 (((a1 - 1) * (σ37 0 7)) + a3).toNatClampNeg))) fun σ42 =>
        if v6 < 0 ∨ 48 ≤ v6.toNatClampNeg then none else
        if (σ42 20 v6.toNatClampNeg) ≤ a2 then
          if v6 < 0 ∨ 48 ≤ v6.toNatClampNeg then none else
          stp (up σ42 21 v6.toNatClampNeg a2) fun σ46 =>
          if v6 < 0 ∨ 48 ≤ v6.toNatClampNeg then none else
          if v6 < 0 ∨ 48 ≤ v6.toNatClampNeg then none else
          stp (up σ46 22 v6.toNatClampNeg ((σ46 21 v6.toNatClampNeg) - a2)) fun σ49 =>
          if v6 < 0 ∨ 48 ≤ v6.toNatClampNeg then none else
          obn (fX10_minutes σ49 a3) fun σ51 r52 =>
          itp ((σ49 21 v6.toNatClampNeg) + r52) fun v54 =>
          fX10_goOn_L18 K156 n σ51 a1 v54 (a3 + 1)
        else
          if v6 < 0 ∨ 48 ≤ v6.toNatClampNeg then none else
          if v6 < 0 ∨ 48 ≤ v6.toNatClampNeg then none else
          stp (up σ42 21 v6.toNatClampNeg (σ42 20 v6.toNatClampNeg)) fun σ57 =>
          if v6 < 0 ∨ 48 ≤ v6.toNatClampNeg then none else
          if v6 < 0 ∨ 48 ≤ v6.toNatClampNeg then none else
          stp (up σ57 22 v6.toNatClampNeg ((σ57 21 v6.toNatClampNeg) - a2)) fun σ60 =>
          if v6 < 0 ∨ 48 ≤ v6.toNatClampNeg then none else
          obn (fX10_minutes σ60 a3) fun σ62 r63 =>
          itp ((σ60 21 v6.toNatClampNeg) + r63) fun v65 =>
          fX10_goOn_L18 K156 n σ62 a1 v65 (a3 + 1)
def fX10_goOn_L2 : Nat → St → Int32 → Option (St × Int32)
  | 0, _, _ => none
  | n + 1, σ, a1 =>
    if (σ 0 10) ≤ a1 then
      some (σ, 0)
    else
      obn (fX10_startOf σ a1) fun σ2 r3 =>
      fX10_goOn_L18
        (fun (σ66 : St) (a67 : Int32) =>
          fX10_goOn_L2 n σ66 (a67 + 1))
        50 σ2 a1 r3 0
def fX10_goOn (σ : St) : Option (St × Int32) :=
  fX10_goOn_L2
    50 σ 0

def fX10_begins (σ : St) (p0 : Int32) (p1 : Int32) : Option (St × Int32) :=
  obn (fX10_isPlace σ p0) fun σ1 r2 =>
  if r2 = 0 then
    some (σ1, (-1000000001))
  else
    obn (fX10_isReel σ1 p1) fun σ5 r6 =>
    if r6 = 0 then
      some (σ5, (-1000000001))
    else
      obn (fX10_goOn σ5) fun σ9 r10 =>
      if ((8 * p0) + p1) < 0 ∨ 48 ≤ ((8 * p0) + p1).toNatClampNeg then none else
      some (σ9, (σ9 21 ((8 * p0) + p1).toNatClampNeg))

def fX10_waited_L19 : Nat → St → Int32 → Int32 → Int32 → Option (St × Int32)
  | 0, _, _, _, _ => none
  | n + 1, σ, a1, a2, a3 =>
    if (σ 0 7) ≤ a3 then
      some (σ, a2)
    else
      if ((8 * a1) + a3) < 0 ∨ 48 ≤ ((8 * a1) + a3).toNatClampNeg then none else
      if a3 = 0 then
        itp ((σ 22 ((8 * a1) + a3).toNatClampNeg) - 0) fun v17 =>
        if v17 ≤ 0 then
          itp (a2 + 0) fun v19 =>
          fX10_waited_L19 n σ a1 v19 (a3 + 1)
        else
          itp (a2 + v17) fun v20 =>
          fX10_waited_L19 n σ a1 v20 (a3 + 1)
      else
        if a1 < 0 ∨ 6 ≤ a1.toNatClampNeg then none else
        if (σ 9 a1.toNatClampNeg) < 0 ∨ 6 ≤ (σ 9 a1.toNatClampNeg).toNatClampNeg then none else
        itp ((σ 22 ((8 * a1) + a3).toNatClampNeg) - (σ 3 (σ 9 a1.toNatClampNeg).toNatClampNeg)) fun v13 =>
        if v13 ≤ 0 then
          itp (a2 + 0) fun v15 =>
          fX10_waited_L19 n σ a1 v15 (a3 + 1)
        else
          itp (a2 + v13) fun v16 =>
          fX10_waited_L19 n σ a1 v16 (a3 + 1)
def fX10_waited (σ : St) (p0 : Int32) : Option (St × Int32) :=
  obn (fX10_isPlace σ p0) fun σ1 r2 =>
  if r2 = 0 then
    some (σ1, (-1000000001))
  else
    obn (fX10_goOn σ1) fun σ5 r6 =>
    fX10_waited_L19
      50 σ5 p0 0 0

def fX10_findCauses_L84 (K124 : St → Int32 → Int32 → Option (St × Int32)) : Nat → St → Int32 → Int32 → Int32 → Int32 → Option (St × Int32)
  | 0, _, _, _, _, _ => none
  | n + 1, σ, a1, a2, a3, a5 =>
    if a5 < 0 then
      K124 σ a1 a2
    else
      if a3 < 0 ∨ 48 ≤ a3.toNatClampNeg then none else
      if 0 ≤ (σ 23 a3.toNatClampNeg) then
        K124 σ a1 a2
      else
        if ((8 * (a1 - 1)) + a5) < 0 ∨ 48 ≤ ((8 * (a1 - 1)) + a5).toNatClampNeg then none else
        if a3 < 0 ∨ 48 ≤ a3.toNatClampNeg then none else
        stp (up σ 23 a3.toNatClampNeg (σ 23 ((8 * (a1 - 1)) + a5).toNatClampNeg)) fun σ19 =>
        fX10_findCauses_L84 K124 n σ19 a1 a2 a3 (a5 + (-1))
def fX10_findCauses_L12 (K130 : St → Int32 → Option (St × Int32)) : Nat → St → Int32 → Int32 → Option (St × Int32)
  | 0, _, _, _ => none
  | n + 1, σ, a1, a2 =>
    if (σ 0 7) ≤ a2 then
      K130 σ a1
    else
      itp ((8 * a1) + a2) fun v3 =>
      if v3 < 0 ∨ 48 ≤ v3.toNatClampNeg then none else
      stp (up σ 23 v3.toNatClampNeg (-1)) fun σ5 =>
      if v3 < 0 ∨ 48 ≤ v3.toNatClampNeg then none else
      if (σ5 22 v3.toNatClampNeg) ≤ 0 then
        fX10_findCauses_L12 K130 n σ5 a1 (a2 + 1)
      else
        if a1 ≤ 0 then
          fX10_findCauses_L12 K130 n σ5 a1 (a2 + 1)
        else
          itp (((a1 - 1) * (σ5 0 7)) + a2) fun v9 =>
          if v9 < 0 ∨ 40 ≤ v9.toNatClampNeg then none else
          if (σ5 10 v9.toNatClampNeg) ≤ 0 then
            if v3 < 0 ∨ 48 ≤ v3.toNatClampNeg then none else
            stp (up σ5 23 v3.toNatClampNeg (-1)) fun σ13 =>
            fX10_findCauses_L84
              (fun (σ20 : St) (a21 : Int32) (a22 : Int32) =>
                fX10_findCauses_L12 K130 n σ20 a21 (a22 + 1))
              50 σ13 a1 a2 v3 a2
          else
            if v3 < 0 ∨ 48 ≤ v3.toNatClampNeg then none else
            stp (up σ5 23 v3.toNatClampNeg v9) fun σ24 =>
            fX10_findCauses_L84
              (fun (σ25 : St) (a26 : Int32) (a27 : Int32) =>
                fX10_findCauses_L12 K130 n σ25 a26 (a27 + 1))
              50 σ24 a1 a2 v3 a2
def fX10_findCauses_L2 : Nat → St → Int32 → Option (St × Int32)
  | 0, _, _ => none
  | n + 1, σ, a1 =>
    if (σ 0 10) ≤ a1 then
      some (σ, 0)
    else
      fX10_findCauses_L12
        (fun (σ28 : St) (a29 : Int32) =>
          fX10_findCauses_L2 n σ28 (a29 + 1))
        50 σ a1 0
def fX10_findCauses (σ : St) : Option (St × Int32) :=
  fX10_findCauses_L2
    50 σ 0

def fX10_cause (σ : St) (p0 : Int32) (p1 : Int32) : Option (St × Int32) :=
  obn (fX10_isPlace σ p0) fun σ1 r2 =>
  if r2 = 0 then
    some (σ1, (-1000000001))
  else
    obn (fX10_isReel σ1 p1) fun σ5 r6 =>
    if r6 = 0 then
      some (σ5, (-1000000001))
    else
      obn (fX10_goOn σ5) fun σ9 r10 =>
      obn (fX10_findCauses σ9) fun σ12 r13 =>
      if ((8 * p0) + p1) < 0 ∨ 48 ≤ ((8 * p0) + p1).toNatClampNeg then none else
      itp (σ12 23 ((8 * p0) + p1).toNatClampNeg) fun v16 =>
      if 0 ≤ v16 then
        some (σ12, v16)
      else
        some (σ12, (-1000000005))

def fX10_where_L38 (K86 : St → Int32 → Int32 → Option (St × Int32)) (K104 : St → Int32 → Option (St × Int32)) : Nat → St → Int32 → Int32 → Int32 → Option (St × Int32)
  | 0, _, _, _, _ => none
  | n + 1, σ, a1, a2, a3 =>
    if ((σ 0 10) - 1) ≤ a3 then
      K104 σ a3
    else
      if ((8 * a3) + a1) < 0 ∨ 48 ≤ ((8 * a3) + a1).toNatClampNeg then none else
      obn (fX10_minutes σ a1) fun σ15 r16 =>
      if a2 < ((σ 21 ((8 * a3) + a1).toNatClampNeg) + r16) then
        K104 σ15 a3
      else
        if ((8 * (a3 + 1)) + a1) < 0 ∨ 48 ≤ ((8 * (a3 + 1)) + a1).toNatClampNeg then none else
        if (σ15 20 ((8 * (a3 + 1)) + a1).toNatClampNeg) ≤ a2 then
          fX10_where_L38 K86 K104 n σ15 a1 a2 (a3 + 1)
        else
          K86 σ15 a1 a3
def fX10_where (σ : St) (p0 : Int32) (p1 : Int32) : Option (St × Int32) :=
  obn (fX10_isReel σ p0) fun σ1 r2 =>
  if r2 = 0 then
    some (σ1, (-1000000001))
  else
    obn (fX10_isIn σ1 p1 0 9999) fun σ5 r6 =>
    if r6 = 0 then
      some (σ5, (-1000000001))
    else
      if (σ5 0 10) = 0 then
        some (σ5, (-1000000005))
      else
        obn (fX10_goOn σ5) fun σ10 r11 =>
        fX10_where_L38
          (fun (σ21 : St) (a22 : Int32) (a23 : Int32) =>
            some (σ21, ((100 + (a23 * (σ21 0 7))) + a22)))
          (fun (σ24 : St) (a25 : Int32) =>
            if a25 < 0 ∨ 6 ≤ a25.toNatClampNeg then none else
            some (σ24, (σ24 9 a25.toNatClampNeg)))
          50 σ10 p0 p1 0

def fX10_film (σ : St) : Option (St × Int32) :=
  if (σ 0 13) = 5 then
    some (σ, (-1000000003))
  else
    stp (up σ 0 13 ((σ 0 13) + 1)) fun σ2 =>
    some (σ2, ((σ2 0 13) - 1))

def fX10_isFilm (σ : St) (p0 : Int32) : Option (St × Int32) :=
  obn (fX10_isIn σ p0 0 ((σ 0 13) - 1)) fun σ1 r2 =>
  if r2 = 0 ∨ r2 = 1 then some (σ1, r2) else none

def fX10_worth (σ : St) (p0 : Int32) (p1 : Int32) (p2 : Int32) : Option (St × Int32) :=
  obn (fX10_isFilm σ p0) fun σ1 r2 =>
  if r2 = 0 then
    some (σ1, (-1000000001))
  else
    obn (fX10_isHouse σ1 p1) fun σ5 r6 =>
    if r6 = 0 then
      some (σ5, (-1000000001))
    else
      obn (fX10_isIn σ5 p2 0 999) fun σ9 r10 =>
      if r10 = 0 then
        some (σ9, (-1000000001))
      else
        if ((6 * p0) + p1) < 0 ∨ 30 ≤ ((6 * p0) + p1).toNatClampNeg then none else
        itp (σ9 11 ((6 * p0) + p1).toNatClampNeg) fun v14 =>
        if ((6 * p0) + p1) < 0 ∨ 30 ≤ ((6 * p0) + p1).toNatClampNeg then none else
        stp (up σ9 11 ((6 * p0) + p1).toNatClampNeg p2) fun σ16 =>
        some (σ16, v14)

def fX10_bar (σ : St) (p0 : Int32) (p1 : Int32) (p2 : Int32) : Option (St × Int32) :=
  obn (fX10_isHouse σ p0) fun σ1 r2 =>
  if r2 = 0 then
    some (σ1, (-1000000001))
  else
    obn (fX10_isHouse σ1 p1) fun σ5 r6 =>
    if r6 = 0 then
      some (σ5, (-1000000001))
    else
      if p0 = p1 then
        some (σ5, (-1000000001))
      else
        obn (fX10_isIn σ5 p2 0 3) fun σ10 r11 =>
        if r11 = 0 then
          some (σ10, (-1000000001))
        else
          if ((6 * p0) + p1) < 0 ∨ 36 ≤ ((6 * p0) + p1).toNatClampNeg then none else
          itp (σ10 6 ((6 * p0) + p1).toNatClampNeg) fun v15 =>
          if ((6 * p0) + p1) < 0 ∨ 36 ≤ ((6 * p0) + p1).toNatClampNeg then none else
          stp (up σ10 6 ((6 * p0) + p1).toNatClampNeg p2) fun σ17 =>
          if ((6 * p1) + p0) < 0 ∨ 36 ≤ ((6 * p1) + p0).toNatClampNeg then none else
          stp (up σ17 6 ((6 * p1) + p0).toNatClampNeg p2) fun σ19 =>
          some (σ19, v15)

def fX10_isWeek (σ : St) (p0 : Int32) : Option (St × Int32) :=
  obn (fX10_isIn σ p0 0 3) fun σ1 r2 =>
  if r2 = 0 ∨ r2 = 1 then some (σ1, r2) else none

def fX10_pin (σ : St) (p0 : Int32) (p1 : Int32) (p2 : Int32) : Option (St × Int32) :=
  if p0 = (-1000000005) then
    obn (fX10_isHouse σ p1) fun σ2 r3 =>
    if r3 = 0 then
      some (σ2, (-1000000001))
    else
      obn (fX10_isWeek σ2 p2) fun σ6 r7 =>
      if r7 = 0 then
        some (σ6, (-1000000001))
      else
        if ((6 * p2) + p1) < 0 ∨ 24 ≤ ((6 * p2) + p1).toNatClampNeg then none else
        itp (σ6 12 ((6 * p2) + p1).toNatClampNeg) fun v11 =>
        if p0 = (-1000000005) then
          if ((6 * p2) + p1) < 0 ∨ 24 ≤ ((6 * p2) + p1).toNatClampNeg then none else
          stp (up σ6 12 ((6 * p2) + p1).toNatClampNeg (-1)) fun σ17 =>
          if 0 ≤ v11 then
            some (σ17, v11)
          else
            some (σ17, (-1000000005))
        else
          if ((6 * p2) + p1) < 0 ∨ 24 ≤ ((6 * p2) + p1).toNatClampNeg then none else
          stp (up σ6 12 ((6 * p2) + p1).toNatClampNeg p0) fun σ14 =>
          if 0 ≤ v11 then
            some (σ14, v11)
          else
            some (σ14, (-1000000005))
  else
    obn (fX10_isFilm σ p0) fun σ19 r20 =>
    if r20 = 0 then
      some (σ19, (-1000000001))
    else
      obn (fX10_isHouse σ19 p1) fun σ23 r24 =>
      if r24 = 0 then
        some (σ23, (-1000000001))
      else
        obn (fX10_isWeek σ23 p2) fun σ27 r28 =>
        if r28 = 0 then
          some (σ27, (-1000000001))
        else
          if ((6 * p2) + p1) < 0 ∨ 24 ≤ ((6 * p2) + p1).toNatClampNeg then none else
          itp (σ27 12 ((6 * p2) + p1).toNatClampNeg) fun v32 =>
          if p0 = (-1000000005) then
            if ((6 * p2) + p1) < 0 ∨ 24 ≤ ((6 * p2) + p1).toNatClampNeg then none else
            stp (up σ27 12 ((6 * p2) + p1).toNatClampNeg (-1)) fun σ38 =>
            if 0 ≤ v32 then
              some (σ38, v32)
            else
              some (σ38, (-1000000005))
          else
            if ((6 * p2) + p1) < 0 ∨ 24 ≤ ((6 * p2) + p1).toNatClampNeg then none else
            stp (up σ27 12 ((6 * p2) + p1).toNatClampNeg p0) fun σ35 =>
            if 0 ≤ v32 then
              some (σ35, v32)
            else
              some (σ35, (-1000000005))

def fX10_mayBe_L6 (K44 : St → Int32 → Int32 → Int32 → Int32 → Option (St × Int32)) : Nat → St → Int32 → Int32 → Int32 → Int32 → Int32 → Option (St × Int32)
  | 0, _, _, _, _, _, _ => none
  | n + 1, σ, a1, a2, a3, a4, a5 =>
    if a3 ≤ a5 then
      K44 σ a1 a2 a3 a4
    else
      if ((6 * a5) + a2) < 0 ∨ 24 ≤ ((6 * a5) + a2).toNatClampNeg then none else
      if (σ 24 ((6 * a5) + a2).toNatClampNeg) = a1 then
        itp (a4 + 1) fun v5 =>
        fX10_mayBe_L6 K44 n σ a1 a2 a3 v5 (a5 + 1)
      else
        itp (a4 + 0) fun v4 =>
        fX10_mayBe_L6 K44 n σ a1 a2 a3 v4 (a5 + 1)
def fX10_mayBe_L87 (K170 : St → Int32 → Int32 → Int32 → Int32 → Option (St × Int32)) : Nat → St → Int32 → Int32 → Int32 → Int32 → Int32 → Option (St × Int32)
  | 0, _, _, _, _, _, _ => none
  | n + 1, σ, a1, a2, a3, a5, a6 =>
    if (σ 0 0) ≤ a6 then
      K170 σ a1 a2 a3 a5
    else
      if a5 < a3 then
        if a6 = a2 then
          fX10_mayBe_L87 K170 n σ a1 a2 a3 a5 (a6 + 1)
        else
          if ((6 * a5) + a6) < 0 ∨ 24 ≤ ((6 * a5) + a6).toNatClampNeg then none else
          if (σ 24 ((6 * a5) + a6).toNatClampNeg) = a1 then
            if ((6 * a2) + a6) < 0 ∨ 36 ≤ ((6 * a2) + a6).toNatClampNeg then none else
            if (σ 6 ((6 * a2) + a6).toNatClampNeg) ≤ (a3 - a5) then
              fX10_mayBe_L87 K170 n σ a1 a2 a3 a5 (a6 + 1)
            else
              some (σ, 0)
          else
            fX10_mayBe_L87 K170 n σ a1 a2 a3 a5 (a6 + 1)
      else
        if a2 ≤ a6 then
          if a6 = a2 then
            fX10_mayBe_L87 K170 n σ a1 a2 a3 a5 (a6 + 1)
          else
            fX10_mayBe_L87 K170 n σ a1 a2 a3 a5 (a6 + 1)
        else
          if a6 = a2 then
            fX10_mayBe_L87 K170 n σ a1 a2 a3 a5 (a6 + 1)
          else
            if ((6 * a5) + a6) < 0 ∨ 24 ≤ ((6 * a5) + a6).toNatClampNeg then none else
            if (σ 24 ((6 * a5) + a6).toNatClampNeg) = a1 then
              if ((6 * a2) + a6) < 0 ∨ 36 ≤ ((6 * a2) + a6).toNatClampNeg then none else
              if (σ 6 ((6 * a2) + a6).toNatClampNeg) ≤ (a3 - a5) then
                fX10_mayBe_L87 K170 n σ a1 a2 a3 a5 (a6 + 1)
              else
                some (σ, 0)
            else
              fX10_mayBe_L87 K170 n σ a1 a2 a3 a5 (a6 + 1)
def fX10_mayBe_L78 : Nat → St → Int32 → Int32 → Int32 → Int32 → Option (St × Int32)
  | 0, _, _, _, _, _ => none
  | n + 1, σ, a1, a2, a3, a5 =>
    if a3 < a5 then
      some (σ, 1)
    else
      fX10_mayBe_L87
        (fun (σ28 : St) (a29 : Int32) (a30 : Int32) (a31 : Int32) (a32 : Int32) =>
          fX10_mayBe_L78 n σ28 a29 a30 a31 (a32 + 1))
        50 σ a1 a2 a3 a5 0
def fX10_mayBe (σ : St) (p0 : Int32) (p1 : Int32) (p2 : Int32) : Option (St × Int32) :=
  fX10_mayBe_L6
    (fun (σ6 : St) (a7 : Int32) (a8 : Int32) (a9 : Int32) (a10 : Int32) =>
      if 1 < a10 then
        some (σ6, 0)
      else
        if a10 = 1 then
          if ((6 * (a9 - 1)) + a8) < 0 ∨ 24 ≤ ((6 * (a9 - 1)) + a8).toNatClampNeg then none else
          if (σ6 24 ((6 * (a9 - 1)) + a8).toNatClampNeg) = a7 then
            fX10_mayBe_L78
              50 σ6 a7 a8 a9 0
          else
            some (σ6, 0)
        else
          fX10_mayBe_L78
            50 σ6 a7 a8 a9 0)
    50 σ p0 p1 p2 0 0

def fX10_worthOf (σ : St) (p0 : Int32) (p1 : Int32) (p2 : Int32) : Option (St × Int32) :=
  if ((6 * p0) + p1) < 0 ∨ 30 ≤ ((6 * p0) + p1).toNatClampNeg then none else
  itp (σ 11 ((6 * p0) + p1).toNatClampNeg) fun v2 =>
  if p2 ≤ 0 then
    some (σ, v2)
  else
    if ((6 * (p2 - 1)) + p1) < 0 ∨ 24 ≤ ((6 * (p2 - 1)) + p1).toNatClampNeg then none else
    if (σ 24 ((6 * (p2 - 1)) + p1).toNatClampNeg) = p0 then
      some (σ, (v2 / 2))
    else
      some (σ, v2)

def fX10_tryFrom_L83 (GX10_tryFrom : St → Int32 → Int32 → Int32 → Option (St × Int32)) (K199 : St → Int32 → Int32 → Int32 → Int32 → Option (St × Int32)) : Nat → St → Int32 → Int32 → Int32 → Int32 → Int32 → Option (St × Int32)
  | 0, _, _, _, _, _, _ => none
  | n + 1, σ, a1, a2, a3, a4, a5 =>
    if (σ 0 13) ≤ a5 then
      K199 σ a1 a2 a3 a4
    else
      if (σ 0 35) = 0 then
        if a4 < 0 ∨ 24 ≤ a4.toNatClampNeg then none else
        if (σ 12 a4.toNatClampNeg) < 0 then
          obn (fX10_mayBe σ a5 a2 a1) fun σ7 r8 =>
          if r8 = 0 then
            fX10_tryFrom_L83 GX10_tryFrom K199 n σ7 a1 a2 a3 a4 (a5 + 1)
          else
            if (σ7 0 34) = 0 then
              stp (up σ7 0 35 1) fun σ23 =>
              some (σ23, 0)
            else
              stp (up σ7 0 34 ((σ7 0 34) - 1)) fun σ12 =>
              if a4 < 0 ∨ 24 ≤ a4.toNatClampNeg then none else
              stp (up σ12 24 a4.toNatClampNeg a5) fun σ14 =>
              obn (fX10_worthOf σ14 a5 a2 a1) fun σ15 r16 =>
              obn (GX10_tryFrom σ15 a1 (a2 + 1) (a3 + r16)) fun σ18 r19 =>
              if a4 < 0 ∨ 24 ≤ a4.toNatClampNeg then none else
              stp (up σ18 24 a4.toNatClampNeg (-1)) fun σ22 =>
              fX10_tryFrom_L83 GX10_tryFrom K199 n σ22 a1 a2 a3 a4 (a5 + 1)
        else
          if a4 < 0 ∨ 24 ≤ a4.toNatClampNeg then none else
          if (σ 12 a4.toNatClampNeg) = a5 then
            obn (fX10_mayBe σ a5 a2 a1) fun σ26 r27 =>
            if r27 = 0 then
              fX10_tryFrom_L83 GX10_tryFrom K199 n σ26 a1 a2 a3 a4 (a5 + 1)
            else
              if (σ26 0 34) = 0 then
                stp (up σ26 0 35 1) fun σ42 =>
                some (σ42, 0)
              else
                stp (up σ26 0 34 ((σ26 0 34) - 1)) fun σ31 =>
                if a4 < 0 ∨ 24 ≤ a4.toNatClampNeg then none else
                stp (up σ31 24 a4.toNatClampNeg a5) fun σ33 =>
                obn (fX10_worthOf σ33 a5 a2 a1) fun σ34 r35 =>
                obn (GX10_tryFrom σ34 a1 (a2 + 1) (a3 + r35)) fun σ37 r38 =>
                if a4 < 0 ∨ 24 ≤ a4.toNatClampNeg then none else
                stp (up σ37 24 a4.toNatClampNeg (-1)) fun σ41 =>
                fX10_tryFrom_L83 GX10_tryFrom K199 n σ41 a1 a2 a3 a4 (a5 + 1)
          else
            fX10_tryFrom_L83 GX10_tryFrom K199 n σ a1 a2 a3 a4 (a5 + 1)
      else
        K199 σ a1 a2 a3 a4
def fX10_tryFrom_L44 (GX10_tryFrom : St → Int32 → Int32 → Int32 → Option (St × Int32)) : Nat → St → Int32 → Option (St × Int32)
  | 0, _, _ => none
  | n + 1, σ, a4 =>
    if 24 ≤ a4 then
      some (σ, 0)
    else
      if a4 < 0 ∨ 24 ≤ a4.toNatClampNeg then none else
      if a4 < 0 ∨ 24 ≤ a4.toNatClampNeg then none else
      stp (up σ 25 a4.toNatClampNeg (σ 24 a4.toNatClampNeg)) fun σ62 =>
      fX10_tryFrom_L44 GX10_tryFrom n σ62 (a4 + 1)
def fX10_tryFrom (GX10_tryFrom : St → Int32 → Int32 → Int32 → Option (St × Int32)) (σ : St) (p0 : Int32) (p1 : Int32) (p2 : Int32) : Option (St × Int32) :=
  if p1 = (σ 0 0) then
    if (σ 0 33) ≤ p0 then
      if p2 ≤ (σ 0 32) then
        some (σ, 0)
      else
        stp (up σ 0 32 p2) fun σ58 =>
        fX10_tryFrom_L44 GX10_tryFrom
          50 σ58 0
    else
      obn (GX10_tryFrom σ (p0 + 1) 0 p2) fun σ63 r64 =>
      some (σ63, 0)
  else
    itp ((6 * p0) + p1) fun v2 =>
    fX10_tryFrom_L83 GX10_tryFrom
      (fun (σ43 : St) (a44 : Int32) (a45 : Int32) (a46 : Int32) (a47 : Int32) =>
        if a47 < 0 ∨ 24 ≤ a47.toNatClampNeg then none else
        if 0 ≤ (σ43 12 a47.toNatClampNeg) then
          some (σ43, 0)
        else
          if (σ43 0 35) = 0 then
            if a47 < 0 ∨ 24 ≤ a47.toNatClampNeg then none else
            stp (up σ43 24 a47.toNatClampNeg (-1)) fun σ52 =>
            obn (GX10_tryFrom σ52 a44 (a45 + 1) a46) fun σ53 r54 =>
            some (σ53, 0)
          else
            some (σ43, 0))
      50 σ p0 p1 p2 v2 0
def fX10_tryFromR : Nat → St → Int32 → Int32 → Int32 → Option (St × Int32)
  | 0, _, _, _, _ => none
  | d + 1, σ, p0, p1, p2 => fX10_tryFrom (fX10_tryFromR d) σ p0 p1 p2

def fX10_plan_L23 (K42 : St → Int32 → Int32 → Option (St × Int32)) : Nat → St → Int32 → Int32 → Int32 → Option (St × Int32)
  | 0, _, _, _, _ => none
  | n + 1, σ, a1, a2, a3 =>
    if 24 ≤ a3 then
      K42 σ a1 a2
    else
      if a3 < 0 ∨ 24 ≤ a3.toNatClampNeg then none else
      stp (up σ 24 a3.toNatClampNeg (-1)) fun σ11 =>
      fX10_plan_L23 K42 n σ11 a1 a2 (a3 + 1)
def fX10_plan_L91 : Nat → St → Int32 → Option (St × Int32)
  | 0, _, _ => none
  | n + 1, σ, a3 =>
    if 24 ≤ a3 then
      some (σ, (σ 0 32))
    else
      if a3 < 0 ∨ 24 ≤ a3.toNatClampNeg then none else
      if a3 < 0 ∨ 24 ≤ a3.toNatClampNeg then none else
      stp (up σ 13 a3.toNatClampNeg (σ 25 a3.toNatClampNeg)) fun σ27 =>
      fX10_plan_L91 n σ27 (a3 + 1)
def fX10_plan (σ : St) (p0 : Int32) (p1 : Int32) : Option (St × Int32) :=
  obn (fX10_isWeek σ p0) fun σ1 r2 =>
  if r2 = 0 then
    some (σ1, (-1000000001))
  else
    obn (fX10_isIn σ1 p1 1 20000) fun σ5 r6 =>
    if r6 = 0 then
      some (σ5, (-1000000001))
    else
      fX10_plan_L23
        (fun (σ12 : St) (a13 : Int32) (a14 : Int32) =>
          stp (up σ12 0 32 (-1)) fun σ15 =>
          stp (up σ15 0 33 a13) fun σ16 =>
          stp (up σ16 0 34 a14) fun σ17 =>
          stp (up σ17 0 35 0) fun σ18 =>
          obn (fX10_tryFromR 32 σ18 0 0 0) fun σ19 r20 =>
          if (σ19 0 35) = 0 then
            if 0 ≤ (σ19 0 32) then
              fX10_plan_L91
                50 σ19 0
            else
              some (σ19, (-1000000002))
          else
            some (σ19, (-1000000004)))
        50 σ5 p0 p1 0

def fX10_planned (σ : St) (p0 : Int32) (p1 : Int32) : Option (St × Int32) :=
  obn (fX10_isHouse σ p0) fun σ1 r2 =>
  if r2 = 0 then
    some (σ1, (-1000000001))
  else
    obn (fX10_isWeek σ1 p1) fun σ5 r6 =>
    if r6 = 0 then
      some (σ5, (-1000000001))
    else
      if ((6 * p1) + p0) < 0 ∨ 24 ≤ ((6 * p1) + p0).toNatClampNeg then none else
      itp (σ5 13 ((6 * p1) + p0).toNatClampNeg) fun v10 =>
      if 0 ≤ v10 then
        some (σ5, v10)
      else
        some (σ5, (-1000000005))

def fX10_rule (σ : St) (p0 : Int32) (p1 : Int32) : Option (St × Int32) :=
  obn (fX10_isIn σ p0 0 2) fun σ1 r2 =>
  if r2 = 0 then
    some (σ1, (-1000000001))
  else
    if 2 ≤ p0 then
      if p0 = 0 then
        itp (σ1 0 17) fun v20 =>
        if p0 = 0 then
          stp (up σ1 0 17 p1) fun σ25 =>
          some (σ25, v20)
        else
          if p0 = 1 then
            stp (up σ1 0 18 p1) fun σ24 =>
            some (σ24, v20)
          else
            stp (up σ1 0 19 p1) fun σ23 =>
            some (σ23, v20)
      else
        if p0 = 1 then
          itp (σ1 0 18) fun v14 =>
          if p0 = 0 then
            stp (up σ1 0 17 p1) fun σ19 =>
            some (σ19, v14)
          else
            if p0 = 1 then
              stp (up σ1 0 18 p1) fun σ18 =>
              some (σ18, v14)
            else
              stp (up σ1 0 19 p1) fun σ17 =>
              some (σ17, v14)
        else
          itp (σ1 0 19) fun v8 =>
          if p0 = 0 then
            stp (up σ1 0 17 p1) fun σ13 =>
            some (σ13, v8)
          else
            if p0 = 1 then
              stp (up σ1 0 18 p1) fun σ12 =>
              some (σ12, v8)
            else
              stp (up σ1 0 19 p1) fun σ11 =>
              some (σ11, v8)
    else
      obn (fX10_isIn σ1 p1 0 100) fun σ26 r27 =>
      if r27 = 0 then
        some (σ26, (-1000000001))
      else
        if p0 = 0 then
          itp (σ26 0 17) fun v44 =>
          if p0 = 0 then
            stp (up σ26 0 17 p1) fun σ49 =>
            some (σ49, v44)
          else
            if p0 = 1 then
              stp (up σ26 0 18 p1) fun σ48 =>
              some (σ48, v44)
            else
              stp (up σ26 0 19 p1) fun σ47 =>
              some (σ47, v44)
        else
          if p0 = 1 then
            itp (σ26 0 18) fun v38 =>
            if p0 = 0 then
              stp (up σ26 0 17 p1) fun σ43 =>
              some (σ43, v38)
            else
              if p0 = 1 then
                stp (up σ26 0 18 p1) fun σ42 =>
                some (σ42, v38)
              else
                stp (up σ26 0 19 p1) fun σ41 =>
                some (σ41, v38)
          else
            itp (σ26 0 19) fun v32 =>
            if p0 = 0 then
              stp (up σ26 0 17 p1) fun σ37 =>
              some (σ37, v32)
            else
              if p0 = 1 then
                stp (up σ26 0 18 p1) fun σ36 =>
                some (σ36, v32)
              else
                stp (up σ26 0 19 p1) fun σ35 =>
                some (σ35, v32)

def fX10_least (σ : St) (p0 : Int32) (p1 : Int32) : Option (St × Int32) :=
  obn (fX10_isHouse σ p0) fun σ1 r2 =>
  if r2 = 0 then
    some (σ1, (-1000000001))
  else
    obn (fX10_isIn σ1 p1 0 9999) fun σ5 r6 =>
    if r6 = 0 then
      some (σ5, (-1000000001))
    else
      obn (fX10_isPalace σ5 p0) fun σ9 r10 =>
      if r10 = 0 then
        some (σ9, (-1000000002))
      else
        if p0 < 0 ∨ 6 ≤ p0.toNatClampNeg then none else
        itp (σ9 4 p0.toNatClampNeg) fun v14 =>
        if p0 < 0 ∨ 6 ≤ p0.toNatClampNeg then none else
        stp (up σ9 4 p0.toNatClampNeg p1) fun σ16 =>
        some (σ16, v14)

def fX10_shareOf (σ : St) (p0 : Int32) (p1 : Int32) : Option (St × Int32) :=
  if p0 < 0 ∨ 6 ≤ p0.toNatClampNeg then none else
  if (σ 1 p0.toNatClampNeg) = 0 then
    itp (((p1 * 3) * (σ 0 17)) / 100) fun v19 =>
    if p0 < 0 ∨ 6 ≤ p0.toNatClampNeg then none else
    if (σ 4 p0.toNatClampNeg) ≤ v19 then
      some (σ, v19)
    else
      if p0 < 0 ∨ 6 ≤ p0.toNatClampNeg then none else
      some (σ, (σ 4 p0.toNatClampNeg))
  else
    if p0 < 0 ∨ 6 ≤ p0.toNatClampNeg then none else
    if (σ 1 p0.toNatClampNeg) = 1 then
      itp (((p1 * 5) * (σ 0 17)) / 100) fun v15 =>
      if p0 < 0 ∨ 6 ≤ p0.toNatClampNeg then none else
      if (σ 4 p0.toNatClampNeg) ≤ v15 then
        some (σ, v15)
      else
        if p0 < 0 ∨ 6 ≤ p0.toNatClampNeg then none else
        some (σ, (σ 4 p0.toNatClampNeg))
    else
      if p0 < 0 ∨ 6 ≤ p0.toNatClampNeg then none else
      if (σ 1 p0.toNatClampNeg) = 2 then
        itp (((p1 * 2) * (σ 0 17)) / 100) fun v11 =>
        if p0 < 0 ∨ 6 ≤ p0.toNatClampNeg then none else
        if (σ 4 p0.toNatClampNeg) ≤ v11 then
          some (σ, v11)
        else
          if p0 < 0 ∨ 6 ≤ p0.toNatClampNeg then none else
          some (σ, (σ 4 p0.toNatClampNeg))
      else
        itp (((p1 * 8) * (σ 0 17)) / 100) fun v7 =>
        if p0 < 0 ∨ 6 ≤ p0.toNatClampNeg then none else
        if (σ 4 p0.toNatClampNeg) ≤ v7 then
          some (σ, v7)
        else
          if p0 < 0 ∨ 6 ≤ p0.toNatClampNeg then none else
          some (σ, (σ 4 p0.toNatClampNeg))

def fX10_share (σ : St) (p0 : Int32) (p1 : Int32) : Option (St × Int32) :=
  obn (fX10_isHouse σ p0) fun σ1 r2 =>
  if r2 = 0 then
    some (σ1, (-1000000001))
  else
    if p0 < 0 ∨ 6 ≤ p0.toNatClampNeg then none else
    obn (fX10_isIn σ1 p1 0 (σ1 2 p0.toNatClampNeg)) fun σ6 r7 =>
    if r7 = 0 then
      some (σ6, (-1000000001))
    else
      obn (fX10_shareOf σ6 p0 p1) fun σ10 r11 =>
      some (σ10, r11)

def fX10_shares_L26 : Nat → St → Int32 → Int32 → Int32 → Option (St × Int32)
  | 0, _, _, _, _ => none
  | n + 1, σ, a1, a2, a3 =>
    if (σ 0 0) ≤ a3 then
      some (σ, a2)
    else
      itp ((6 * a1) + a3) fun v7 =>
      if (σ 14 (Int32.toNatClampNeg 0)) ≤ v7 then
        obn (fX10_shareOf σ a3 0) fun σ9 r10 =>
        itp (a2 + r10) fun v12 =>
        fX10_shares_L26 n σ9 a1 v12 (a3 + 1)
      else
        if v7 < 0 ∨ 48 ≤ v7.toNatClampNeg then none else
        if a3 < 0 ∨ 6 ≤ a3.toNatClampNeg then none else
        obn (fX10_isIn σ (σ 15 v7.toNatClampNeg) 0 (σ 2 a3.toNatClampNeg)) fun σ15 r16 =>
        if r16 = 0 then
          obn (fX10_shareOf σ15 a3 0) fun σ19 r20 =>
          itp (a2 + r20) fun v22 =>
          fX10_shares_L26 n σ19 a1 v22 (a3 + 1)
        else
          if v7 < 0 ∨ 48 ≤ v7.toNatClampNeg then none else
          obn (fX10_shareOf σ15 a3 (σ15 15 v7.toNatClampNeg)) fun σ24 r25 =>
          itp (a2 + r25) fun v27 =>
          fX10_shares_L26 n σ24 a1 v27 (a3 + 1)
def fX10_shares (σ : St) (p0 : Int32) : Option (St × Int32) :=
  obn (fX10_isWeek σ p0) fun σ1 r2 =>
  if r2 = 0 then
    some (σ1, (-1000000001))
  else
    if 0 ≤ (σ1 14 (Int32.toNatClampNeg 0)) then
      fX10_shares_L26
        50 σ1 p0 0 0
    else
      some (σ1, (-1000000011))

def fX10_checked_L31 (K58 : St → Int32 → Int32 → Int32 → Int32 → Option (St × Int32)) : Nat → St → Int32 → Int32 → Int32 → Int32 → Int32 → Option (St × Int32)
  | 0, _, _, _, _, _, _ => none
  | n + 1, σ, a1, a2, a3, a4, a5 =>
    if ((6 * a1) + a3) < a5 then
      K58 σ a1 a2 a3 a4
    else
      itp ((a4 * 1664525) + 1013904223) fun v8 =>
      fX10_checked_L31 K58 n σ a1 a2 a3 v8 (a5 + 1)
def fX10_checked_L14 : Nat → St → Int32 → Int32 → Int32 → Option (St × Int32)
  | 0, _, _, _, _ => none
  | n + 1, σ, a1, a2, a3 =>
    if (σ 0 0) ≤ a3 then
      some (σ, a2)
    else
      itp (σ 0 19) fun v6 =>
      fX10_checked_L31
        (fun (σ9 : St) (a10 : Int32) (a11 : Int32) (a12 : Int32) (a13 : Int32) =>
          if (σ9 0 18) ≤ ((a13.toUInt32 >>> (Int32.toUInt32 8 &&& Int32.toUInt32 31)).toInt32 - (a13.toUInt32 >>> (Int32.toUInt32 8 &&& Int32.toUInt32 31)).toInt32 / 100 * 100) then
            itp (a11 ||| 0) fun v15 =>
            fX10_checked_L14 n σ9 a10 v15 (a12 + 1)
          else
            itp (a11 ||| (1 <<< (a12 &&& 31))) fun v16 =>
            fX10_checked_L14 n σ9 a10 v16 (a12 + 1))
        50 σ a1 a2 a3 v6 0
def fX10_checked (σ : St) (p0 : Int32) : Option (St × Int32) :=
  obn (fX10_isWeek σ p0) fun σ1 r2 =>
  if r2 = 0 then
    some (σ1, (-1000000001))
  else
    fX10_checked_L14
      50 σ1 p0 0 0

def fX10_isSheet (σ : St) (p0 : Int32) : Option (St × Int32) :=
  obn (fX10_isIn σ p0 0 1) fun σ1 r2 =>
  if r2 = 0 ∨ r2 = 1 then some (σ1, r2) else none

def fX10_sheet_L32 : Nat → St → Int32 → Int32 → Int32 → Option (St × Int32)
  | 0, _, _, _, _ => none
  | n + 1, σ, a1, a2, a3 =>
    if a2 ≤ a3 then
      some (σ, a2)
    else
      if ((24 * a1) + a3) < 0 ∨ 48 ≤ ((24 * a1) + a3).toNatClampNeg then none else
      stp (up σ 15 ((24 * a1) + a3).toNatClampNeg 0) fun σ11 =>
      fX10_sheet_L32 n σ11 a1 a2 (a3 + 1)
def fX10_sheet (σ : St) (p0 : Int32) (p1 : Int32) : Option (St × Int32) :=
  obn (fX10_isSheet σ p0) fun σ1 r2 =>
  if r2 = 0 then
    some (σ1, (-1000000001))
  else
    if p1 ≤ 24 then
      if 0 ≤ p1 then
        if p0 < 0 ∨ 2 ≤ p0.toNatClampNeg then none else
        stp (up σ1 14 p0.toNatClampNeg p1) fun σ8 =>
        fX10_sheet_L32
          50 σ8 p0 p1 0
      else
        some (σ1, (-1000000014))
    else
      some (σ1, (-1000000001))

def fX10_mark (σ : St) (p0 : Int32) (p1 : Int32) (p2 : Int32) : Option (St × Int32) :=
  obn (fX10_isSheet σ p0) fun σ1 r2 =>
  if r2 = 0 then
    some (σ1, (-1000000001))
  else
    if p0 < 0 ∨ 2 ≤ p0.toNatClampNeg then none else
    if 0 ≤ (σ1 14 p0.toNatClampNeg) then
      if p0 < 0 ∨ 2 ≤ p0.toNatClampNeg then none else
      obn (fX10_isIn σ1 p1 0 ((σ1 14 p0.toNatClampNeg) - 1)) fun σ8 r9 =>
      if r9 = 0 then
        some (σ8, (-1000000013))
      else
        if ((24 * p0) + p1) < 0 ∨ 48 ≤ ((24 * p0) + p1).toNatClampNeg then none else
        itp (σ8 15 ((24 * p0) + p1).toNatClampNeg) fun v13 =>
        if ((24 * p0) + p1) < 0 ∨ 48 ≤ ((24 * p0) + p1).toNatClampNeg then none else
        stp (up σ8 15 ((24 * p0) + p1).toNatClampNeg (p2.toInt16.toInt32)) fun σ15 =>
        some (σ15, v13)
    else
      some (σ1, (-1000000011))

def fX10_copy_L93 (K127 : St → Int32 → Int32 → Int32 → Option (St × Int32)) : Nat → St → Int32 → Int32 → Int32 → Int32 → Int32 → Int32 → Option (St × Int32)
  | 0, _, _, _, _, _, _, _ => none
  | n + 1, σ, a1, a2, a3, a4, a5, a6 =>
    if a5 ≤ a6 then
      K127 σ a3 a4 a5
    else
      if (((24 * a1) + a2) + a6) < 0 ∨ 48 ≤ (((24 * a1) + a2) + a6).toNatClampNeg then none else
      if a6 < 0 ∨ 24 ≤ a6.toNatClampNeg then none else
      stp (up σ 26 a6.toNatClampNeg (σ 15 (((24 * a1) + a2) + a6).toNatClampNeg)) fun σ23 =>
      fX10_copy_L93 K127 n σ23 a1 a2 a3 a4 a5 (a6 + 1)
def fX10_copy_L130 : Nat → St → Int32 → Int32 → Int32 → Int32 → Option (St × Int32)
  | 0, _, _, _, _, _ => none
  | n + 1, σ, a3, a4, a5, a6 =>
    if a5 ≤ a6 then
      some (σ, a5)
    else
      if a6 < 0 ∨ 24 ≤ a6.toNatClampNeg then none else
      if (((24 * a3) + a4) + a6) < 0 ∨ 48 ≤ (((24 * a3) + a4) + a6).toNatClampNeg then none else
      stp (up σ 15 (((24 * a3) + a4) + a6).toNatClampNeg (σ 26 a6.toNatClampNeg)) fun σ31 =>
      fX10_copy_L130 n σ31 a3 a4 a5 (a6 + 1)
def fX10_copy (σ : St) (p0 : Int32) (p1 : Int32) (p2 : Int32) (p3 : Int32) (p4 : Int32) : Option (St × Int32) :=
  obn (fX10_isSheet σ p0) fun σ1 r2 =>
  if r2 = 0 then
    some (σ1, (-1000000001))
  else
    obn (fX10_isSheet σ1 p2) fun σ5 r6 =>
    if r6 = 0 then
      some (σ5, (-1000000001))
    else
      if p0 < 0 ∨ 2 ≤ p0.toNatClampNeg then none else
      if (σ5 14 p0.toNatClampNeg) < 0 then
        some (σ5, (-1000000011))
      else
        if p2 < 0 ∨ 2 ≤ p2.toNatClampNeg then none else
        if 0 ≤ (σ5 14 p2.toNatClampNeg) then
          if p1 < 0 then
            some (σ5, (-1000000013))
          else
            if p3 < 0 then
              some (σ5, (-1000000013))
            else
              if p4 < 0 then
                some (σ5, (-1000000013))
              else
                if p0 < 0 ∨ 2 ≤ p0.toNatClampNeg then none else
                if 0 < (lg_cmp ((Int32.toInt64 p1) + (Int32.toInt64 p4)) (Int32.toInt64 (σ5 14 p0.toNatClampNeg))) then
                  some (σ5, (-1000000013))
                else
                  if p2 < 0 ∨ 2 ≤ p2.toNatClampNeg then none else
                  if (lg_cmp ((Int32.toInt64 p3) + (Int32.toInt64 p4)) (Int32.toInt64 (σ5 14 p2.toNatClampNeg))) ≤ 0 then
                    fX10_copy_L93
                      (fun (σ24 : St) (a25 : Int32) (a26 : Int32) (a27 : Int32) =>
                        fX10_copy_L130
                          50 σ24 a25 a26 a27 0)
                      50 σ5 p0 p1 p2 p3 p4 0
                  else
                    some (σ5, (-1000000013))
        else
          some (σ5, (-1000000011))

def fX10_count_L71 : Nat → St → Int32 → Int32 → Option (St × Int32)
  | 0, _, _, _ => none
  | n + 1, σ, a2, a3 =>
    if (σ 0 7) ≤ a3 then
      some (σ, a2)
    else
      if a3 < 0 ∨ 8 ≤ a3.toNatClampNeg then none else
      itp (a2 + (σ 7 a3.toNatClampNeg)) fun v12 =>
      fX10_count_L71 n σ v12 (a3 + 1)
def fX10_count (σ : St) (p0 : Int32) : Option (St × Int32) :=
  if p0 = 0 then
    some (σ, (σ 0 0))
  else
  if p0 = 1 then
    some (σ, (σ 0 7))
  else
  if p0 = 2 then
    some (σ, (σ 0 10))
  else
  if p0 = 3 then
    obn (fX10_rides σ) fun σ5 r6 =>
    some (σ5, r6)
  else
  if p0 = 4 then
    some (σ, (σ 0 13))
  else
  if p0 = 5 then
    fX10_count_L71
      50 σ 0 0
  else
  if p0 = 6 then
    if 0 ≤ (σ 14 (Int32.toNatClampNeg 0)) then
      if 0 ≤ (σ 14 (Int32.toNatClampNeg 1)) then
        some (σ, (1 + 1))
      else
        some (σ, (1 + 0))
    else
      if 0 ≤ (σ 14 (Int32.toNatClampNeg 1)) then
        some (σ, (0 + 1))
      else
        some (σ, (0 + 0))
  else
  some (σ, (-1000000001))
