def f_X0_reset_B2  (k2 : Int32 → Int32 → Int32 → Int32 → Int32 → (Nat → Int32) → Option (Int32 × Int32 × Int32 × Int32 × (Nat → Int32))) (y1 : Int32) (v_t_laws : Int32) (v_t_inspectors : Int32) (v_t_marks : Int32) (v_t_undos : Int32) (r_t_knownEvent : Nat → Int32) : Option (Int32 × Int32 × Int32 × Int32 × (Nat → Int32)) :=
  if (6 : Int32) ≤ y1 then
    some ((0 : Int32), (0 : Int32), (0 : Int32), (0 : Int32), r_t_knownEvent)
  else
    ckI y1 6 <|
    k2 (y1 + (1 : Int32)) v_t_laws v_t_inspectors v_t_marks v_t_undos (upd r_t_knownEvent (Int32.toNatClampNeg y1) (-1 : Int32))
def f_X0_reset (v_t_laws : Int32) (v_t_inspectors : Int32) (v_t_marks : Int32) (v_t_undos : Int32) (r_t_knownEvent : Nat → Int32) : Option (Int32 × Int32 × Int32 × Int32 × (Nat → Int32)) :=
  lq6 (f_X0_reset_B2  ) FU (0 : Int32) v_t_laws v_t_inspectors v_t_marks v_t_undos r_t_knownEvent
def f_X0_copyFrom (v_t_laws : Int32) (v_t_inspectors : Int32) (v_t_marks : Int32) (v_t_undos : Int32) (r_t_knownEvent : Nat → Int32) (r_t_kind : Nat → Int32) (r_t_trips : Nat → Int32) (r_t_markInspector : Nat → Int32) (r_t_markDay : Nat → Int32) (r_t_markEvents : Nat → Int32) (r_t_markValue : Nat → Int32) (r_t_markTrips : Nat → Int32) (r_t_undoDay : Nat → Int32) (r_t_undoEvent : Nat → Int32) (v_p1_laws : Int32) (v_p1_inspectors : Int32) (v_p1_marks : Int32) (v_p1_undos : Int32) (r_p1_knownEvent : Nat → Int32) (r_p1_kind : Nat → Int32) (r_p1_trips : Nat → Int32) (r_p1_markInspector : Nat → Int32) (r_p1_markDay : Nat → Int32) (r_p1_markEvents : Nat → Int32) (r_p1_markValue : Nat → Int32) (r_p1_markTrips : Nat → Int32) (r_p1_undoDay : Nat → Int32) (r_p1_undoEvent : Nat → Int32) : Option (Int32 × Int32 × Int32 × Int32 × (Nat → Int32) × (Nat → Int32) × (Nat → Int32) × (Nat → Int32) × (Nat → Int32) × (Nat → Int32) × (Nat → Int32) × (Nat → Int32) × (Nat → Int32) × (Nat → Int32)) :=
  some (v_p1_laws, v_p1_inspectors, v_p1_marks, v_p1_undos, (va_cpy r_p1_knownEvent r_t_knownEvent 0 0 6), (va_cpy r_p1_kind r_t_kind 0 0 4), (va_cpy r_p1_trips r_t_trips 0 0 4), (va_cpy r_p1_markInspector r_t_markInspector 0 0 8), (va_cpy r_p1_markDay r_t_markDay 0 0 8), (va_cpy r_p1_markEvents r_t_markEvents 0 0 8), (va_cpy r_p1_markValue r_t_markValue 0 0 8), (va_cpy r_p1_markTrips r_t_markTrips 0 0 8), (va_cpy r_p1_undoDay r_t_undoDay 0 0 8), (va_cpy r_p1_undoEvent r_t_undoEvent 0 0 8))
def f_X0_isLaw (x1 : Int32) (x2 : Int32) (v_t_laws : Int32) : Int32 :=
  if ((v_t_laws >>> ((((4 : Int32) * x1) + x2) &&& 31)) &&& (1 : Int32)) = (1 : Int32) then
    (1 : Int32)
  else
    (0 : Int32)
theorem nb_X0_isLaw (x1 : Int32) (x2 : Int32) (v_t_laws : Int32) : f_X0_isLaw x1 x2 v_t_laws &&& 1 = f_X0_isLaw x1 x2 v_t_laws := by
  simp only [f_X0_isLaw]
  (repeat' split) <;> first | rfl | decide
def f_X0_addLaw (x1 : Int32) (x2 : Int32) (v_t_laws : Int32) : Option (Int32) :=
  some (v_t_laws ||| ((1 : Int32) <<< ((((4 : Int32) * x1) + x2) &&& 31)))
def f_X0_addInspector (x1 : Int32) (x2 : Int32) (v_t_inspectors : Int32) (r_t_kind : Nat → Int32) (r_t_trips : Nat → Int32) : Option (Int32 × (Nat → Int32) × (Nat → Int32)) :=
  if (4 : Int32) ≤ v_t_inspectors then
    some (v_t_inspectors, r_t_kind, r_t_trips)
  else
    ckI v_t_inspectors 4 <|
    some ((v_t_inspectors + (1 : Int32)), (upd r_t_kind (Int32.toNatClampNeg v_t_inspectors) x1), (upd r_t_trips (Int32.toNatClampNeg v_t_inspectors) x2))
def f_X0_forgetOldest_B2  (k2 : Int32 → Int32 → (Nat → Int32) → (Nat → Int32) → Option (Int32 × (Nat → Int32) × (Nat → Int32))) (y1 : Int32) (v_t_undos : Int32) (r_t_undoDay : Nat → Int32) (r_t_undoEvent : Nat → Int32) : Option (Int32 × (Nat → Int32) × (Nat → Int32)) :=
  if (8 : Int32) ≤ y1 then
    some ((7 : Int32), r_t_undoDay, r_t_undoEvent)
  else
    ckI y1 8 <|
    ckI (y1 - (1 : Int32)) 8 <|
    k2 (y1 + (1 : Int32)) v_t_undos (upd r_t_undoDay (Int32.toNatClampNeg (y1 - (1 : Int32))) (r_t_undoDay (Int32.toNatClampNeg y1))) (upd r_t_undoEvent (Int32.toNatClampNeg (y1 - (1 : Int32))) (r_t_undoEvent (Int32.toNatClampNeg y1)))
def f_X0_forgetOldest (v_t_undos : Int32) (r_t_undoDay : Nat → Int32) (r_t_undoEvent : Nat → Int32) : Option (Int32 × (Nat → Int32) × (Nat → Int32)) :=
  lq4 (f_X0_forgetOldest_B2  ) FU (1 : Int32) v_t_undos r_t_undoDay r_t_undoEvent
def f_X0_remember_J13 (x1 : Int32) (x2 : Int32)  (v_t_undos : Int32) (r_t_undoDay : Nat → Int32) (r_t_undoEvent : Nat → Int32) : Option (Int32 × (Nat → Int32) × (Nat → Int32)) :=
  ckI v_t_undos 8 <|
  some ((v_t_undos + (1 : Int32)), (upd r_t_undoDay (Int32.toNatClampNeg v_t_undos) x1), (upd r_t_undoEvent (Int32.toNatClampNeg v_t_undos) x2))
def f_X0_remember (x1 : Int32) (x2 : Int32) (v_t_undos : Int32) (r_t_undoDay : Nat → Int32) (r_t_undoEvent : Nat → Int32) : Option (Int32 × (Nat → Int32) × (Nat → Int32)) :=
  if v_t_undos < (8 : Int32) then
    f_X0_remember_J13 x1 x2  v_t_undos r_t_undoDay r_t_undoEvent
  else
    bd3 (f_X0_forgetOldest v_t_undos r_t_undoDay r_t_undoEvent) fun u3 u4 u5 =>
    f_X0_remember_J13 x1 x2  u3 u4 u5
def f_X0_addMark (x1 : Int32) (x2 : Int32) (x3 : Int32) (x4 : Int32) (v_t_marks : Int32) (v_t_undos : Int32) (r_t_trips : Nat → Int32) (r_t_markInspector : Nat → Int32) (r_t_markDay : Nat → Int32) (r_t_markEvents : Nat → Int32) (r_t_markValue : Nat → Int32) (r_t_markTrips : Nat → Int32) (r_t_undoDay : Nat → Int32) (r_t_undoEvent : Nat → Int32) : Option (Int32 × Int32 × (Nat → Int32) × (Nat → Int32) × (Nat → Int32) × (Nat → Int32) × (Nat → Int32) × (Nat → Int32) × (Nat → Int32) × (Nat → Int32)) :=
  if (8 : Int32) ≤ v_t_marks then
    some (v_t_marks, v_t_undos, r_t_trips, r_t_markInspector, r_t_markDay, r_t_markEvents, r_t_markValue, r_t_markTrips, r_t_undoDay, r_t_undoEvent)
  else
    bd3 (f_X0_remember (-1 : Int32) (-1 : Int32) v_t_undos r_t_undoDay r_t_undoEvent) fun u2 u3 u4 =>
    ckI v_t_marks 8 <|
    ckI x1 4 <|
    some ((v_t_marks + (1 : Int32)), u2, (upd r_t_trips (Int32.toNatClampNeg x1) ((r_t_trips (Int32.toNatClampNeg x1)) + (1 : Int32))), (upd r_t_markInspector (Int32.toNatClampNeg v_t_marks) x1), (upd r_t_markDay (Int32.toNatClampNeg v_t_marks) x2), (upd r_t_markEvents (Int32.toNatClampNeg v_t_marks) x3), (upd r_t_markValue (Int32.toNatClampNeg v_t_marks) x4), (upd r_t_markTrips (Int32.toNatClampNeg v_t_marks) (r_t_trips (Int32.toNatClampNeg x1))), u3, u4)
def f_X0_learn (x1 : Int32) (x2 : Int32) (v_t_undos : Int32) (r_t_knownEvent : Nat → Int32) (r_t_undoDay : Nat → Int32) (r_t_undoEvent : Nat → Int32) : Option (Int32 × (Nat → Int32) × (Nat → Int32) × (Nat → Int32)) :=
  ckI x1 6 <|
  bd3 (f_X0_remember x1 (r_t_knownEvent (Int32.toNatClampNeg x1)) v_t_undos r_t_undoDay r_t_undoEvent) fun u2 u3 u4 =>
  some (u2, (upd r_t_knownEvent (Int32.toNatClampNeg x1) x2), u3, u4)
def f_X0_knownDays_B4 (r_t_knownEvent : Nat → Int32) (k4 : Int32 → Int32 → Option (Int32)) (y1 : Int32) (y2 : Int32) : Option (Int32) :=
  if (6 : Int32) ≤ y2 then
    some y1
  else
    ckI y2 6 <|
    if (r_t_knownEvent (Int32.toNatClampNeg y2)) = (-1 : Int32) then
      k4 y1 (y2 + (1 : Int32))
    else
      k4 (y1 + (1 : Int32)) (y2 + (1 : Int32))
def f_X0_knownDays (r_t_knownEvent : Nat → Int32) : Option (Int32) :=
  lq2 (f_X0_knownDays_B4 r_t_knownEvent ) FU (0 : Int32) (0 : Int32)
def f_X4_isDay (x0 : Int32) : Int32 :=
  if x0 < 0 then
    (0 : Int32)
  else
    if (6 : Int32) ≤ x0 then
      (0 : Int32)
    else
      (1 : Int32)
theorem nb_X4_isDay (x0 : Int32) : f_X4_isDay x0 &&& 1 = f_X4_isDay x0 := by
  simp only [f_X4_isDay]
  (repeat' split) <;> first | rfl | decide
def f_X0_dropLastMark (v_t_marks : Int32) (r_t_trips : Nat → Int32) (r_t_markInspector : Nat → Int32) (r_t_markTrips : Nat → Int32) : Option (Int32 × (Nat → Int32)) :=
  if v_t_marks ≤ 0 then
    some (v_t_marks, r_t_trips)
  else
    ckI (v_t_marks - (1 : Int32)) 8 <|
    ckI (r_t_markInspector (Int32.toNatClampNeg (v_t_marks - (1 : Int32)))) 4 <|
    some ((v_t_marks - (1 : Int32)), (upd r_t_trips (Int32.toNatClampNeg (r_t_markInspector (Int32.toNatClampNeg (v_t_marks - (1 : Int32))))) (r_t_markTrips (Int32.toNatClampNeg (v_t_marks - (1 : Int32))))))
def f_X0_takeBack (v_t_marks : Int32) (v_t_undos : Int32) (r_t_knownEvent : Nat → Int32) (r_t_trips : Nat → Int32) (r_t_markInspector : Nat → Int32) (r_t_markTrips : Nat → Int32) (r_t_undoDay : Nat → Int32) (r_t_undoEvent : Nat → Int32) : Option (Int32 × Int32 × (Nat → Int32) × (Nat → Int32)) :=
  if v_t_undos ≤ 0 then
    some (v_t_marks, v_t_undos, r_t_knownEvent, r_t_trips)
  else
    ckI (v_t_undos - (1 : Int32)) 8 <|
    if (f_X4_isDay (r_t_undoDay (Int32.toNatClampNeg (v_t_undos - (1 : Int32))))) = 0 then
      bd2 (f_X0_dropLastMark v_t_marks r_t_trips r_t_markInspector r_t_markTrips) fun u4 u5 =>
      some (u4, (v_t_undos - (1 : Int32)), r_t_knownEvent, u5)
    else
      ckI (r_t_undoDay (Int32.toNatClampNeg (v_t_undos - (1 : Int32)))) 6 <|
      some (v_t_marks, (v_t_undos - (1 : Int32)), (upd r_t_knownEvent (Int32.toNatClampNeg (r_t_undoDay (Int32.toNatClampNeg (v_t_undos - (1 : Int32))))) (r_t_undoEvent (Int32.toNatClampNeg (v_t_undos - (1 : Int32))))), r_t_trips)
def f_X0_allows (x1 : Int32) (x2 : Int32) (r_t_knownEvent : Nat → Int32) : Option (Int32) :=
  ckI x1 6 <|
  if (r_t_knownEvent (Int32.toNatClampNeg x1)) = (-1 : Int32) then
    some (1 : Int32)
  else
    if (r_t_knownEvent (Int32.toNatClampNeg x1)) = x2 then
      some (1 : Int32)
    else
      some (0 : Int32)
def f_X4_truth (x0 : Int32) (x1 : Int32) : Int32 :=
  if ((x0 >>> (x1 &&& 31)) &&& (1 : Int32)) = (1 : Int32) then
    (1 : Int32)
  else
    (0 : Int32)
def f_X4_oldGiven (x0 : Int32) (x1 : Int32) : Int32 :=
  if (x1 - x1 / (2 : Int32) * (2 : Int32)) = (1 : Int32) then
    (2 : Int32)
  else
    x0
def f_X4_coyGiven (x0 : Int32) : Int32 :=
  ((1 : Int32) - x0)
def f_J6_bitCount_0f7a4 (x0 : Int32) : Int32 :=
  ((((((((x0 - ((Int32.toUInt32 x0 >>> (Int32.toUInt32 (1 : Int32) &&& Int32.toUInt32 31)).toInt32 &&& (1431655765 : Int32))) &&& (858993459 : Int32)) + ((Int32.toUInt32 (x0 - ((Int32.toUInt32 x0 >>> (Int32.toUInt32 (1 : Int32) &&& Int32.toUInt32 31)).toInt32 &&& (1431655765 : Int32))) >>> (Int32.toUInt32 (2 : Int32) &&& Int32.toUInt32 31)).toInt32 &&& (858993459 : Int32))) + (Int32.toUInt32 (((x0 - ((Int32.toUInt32 x0 >>> (Int32.toUInt32 (1 : Int32) &&& Int32.toUInt32 31)).toInt32 &&& (1431655765 : Int32))) &&& (858993459 : Int32)) + ((Int32.toUInt32 (x0 - ((Int32.toUInt32 x0 >>> (Int32.toUInt32 (1 : Int32) &&& Int32.toUInt32 31)).toInt32 &&& (1431655765 : Int32))) >>> (Int32.toUInt32 (2 : Int32) &&& Int32.toUInt32 31)).toInt32 &&& (858993459 : Int32))) >>> (Int32.toUInt32 (4 : Int32) &&& Int32.toUInt32 31)).toInt32) &&& (252645135 : Int32)) + (Int32.toUInt32 (((((x0 - ((Int32.toUInt32 x0 >>> (Int32.toUInt32 (1 : Int32) &&& Int32.toUInt32 31)).toInt32 &&& (1431655765 : Int32))) &&& (858993459 : Int32)) + ((Int32.toUInt32 (x0 - ((Int32.toUInt32 x0 >>> (Int32.toUInt32 (1 : Int32) &&& Int32.toUInt32 31)).toInt32 &&& (1431655765 : Int32))) >>> (Int32.toUInt32 (2 : Int32) &&& Int32.toUInt32 31)).toInt32 &&& (858993459 : Int32))) + (Int32.toUInt32 (((x0 - ((Int32.toUInt32 x0 >>> (Int32.toUInt32 (1 : Int32) &&& Int32.toUInt32 31)).toInt32 &&& (1431655765 : Int32))) &&& (858993459 : Int32)) + ((Int32.toUInt32 (x0 - ((Int32.toUInt32 x0 >>> (Int32.toUInt32 (1 : Int32) &&& Int32.toUInt32 31)).toInt32 &&& (1431655765 : Int32))) >>> (Int32.toUInt32 (2 : Int32) &&& Int32.toUInt32 31)).toInt32 &&& (858993459 : Int32))) >>> (Int32.toUInt32 (4 : Int32) &&& Int32.toUInt32 31)).toInt32) &&& (252645135 : Int32)) >>> (Int32.toUInt32 (8 : Int32) &&& Int32.toUInt32 31)).toInt32) + (Int32.toUInt32 ((((((x0 - ((Int32.toUInt32 x0 >>> (Int32.toUInt32 (1 : Int32) &&& Int32.toUInt32 31)).toInt32 &&& (1431655765 : Int32))) &&& (858993459 : Int32)) + ((Int32.toUInt32 (x0 - ((Int32.toUInt32 x0 >>> (Int32.toUInt32 (1 : Int32) &&& Int32.toUInt32 31)).toInt32 &&& (1431655765 : Int32))) >>> (Int32.toUInt32 (2 : Int32) &&& Int32.toUInt32 31)).toInt32 &&& (858993459 : Int32))) + (Int32.toUInt32 (((x0 - ((Int32.toUInt32 x0 >>> (Int32.toUInt32 (1 : Int32) &&& Int32.toUInt32 31)).toInt32 &&& (1431655765 : Int32))) &&& (858993459 : Int32)) + ((Int32.toUInt32 (x0 - ((Int32.toUInt32 x0 >>> (Int32.toUInt32 (1 : Int32) &&& Int32.toUInt32 31)).toInt32 &&& (1431655765 : Int32))) >>> (Int32.toUInt32 (2 : Int32) &&& Int32.toUInt32 31)).toInt32 &&& (858993459 : Int32))) >>> (Int32.toUInt32 (4 : Int32) &&& Int32.toUInt32 31)).toInt32) &&& (252645135 : Int32)) + (Int32.toUInt32 (((((x0 - ((Int32.toUInt32 x0 >>> (Int32.toUInt32 (1 : Int32) &&& Int32.toUInt32 31)).toInt32 &&& (1431655765 : Int32))) &&& (858993459 : Int32)) + ((Int32.toUInt32 (x0 - ((Int32.toUInt32 x0 >>> (Int32.toUInt32 (1 : Int32) &&& Int32.toUInt32 31)).toInt32 &&& (1431655765 : Int32))) >>> (Int32.toUInt32 (2 : Int32) &&& Int32.toUInt32 31)).toInt32 &&& (858993459 : Int32))) + (Int32.toUInt32 (((x0 - ((Int32.toUInt32 x0 >>> (Int32.toUInt32 (1 : Int32) &&& Int32.toUInt32 31)).toInt32 &&& (1431655765 : Int32))) &&& (858993459 : Int32)) + ((Int32.toUInt32 (x0 - ((Int32.toUInt32 x0 >>> (Int32.toUInt32 (1 : Int32) &&& Int32.toUInt32 31)).toInt32 &&& (1431655765 : Int32))) >>> (Int32.toUInt32 (2 : Int32) &&& Int32.toUInt32 31)).toInt32 &&& (858993459 : Int32))) >>> (Int32.toUInt32 (4 : Int32) &&& Int32.toUInt32 31)).toInt32) &&& (252645135 : Int32)) >>> (Int32.toUInt32 (8 : Int32) &&& Int32.toUInt32 31)).toInt32) >>> (Int32.toUInt32 (16 : Int32) &&& Int32.toUInt32 31)).toInt32) &&& (63 : Int32))
def f_X4_given (x0 : Int32) (x1 : Int32) (x2 : Int32) (x3 : Int32) (x4 : Int32) : Int32 :=
  if x0 = (1 : Int32) then
    if x2 < (4 : Int32) then
      x1
    else
      (1 : Int32)
  else
    if x0 = (2 : Int32) then
      (f_X4_oldGiven x1 x2)
    else
      if x0 = (3 : Int32) then
        (f_X4_coyGiven x1)
      else
        if x0 = (4 : Int32) then
          if x4 < (3 : Int32) then
            (f_X4_oldGiven x1 x2)
          else
            (2 : Int32)
        else
          if x0 = (5 : Int32) then
            if (f_J6_bitCount_0f7a4 x3) = (3 : Int32) then
              (1 : Int32)
            else
              (f_X4_coyGiven x1)
          else
            x1
def f_X0_markBy (x1 : Int32) (x2 : Int32) (r_t_kind : Nat → Int32) (r_t_markInspector : Nat → Int32) (r_t_markDay : Nat → Int32) (r_t_markEvents : Nat → Int32) (r_t_markTrips : Nat → Int32) : Option (Int32) :=
  ckI x1 8 <|
  ckI (r_t_markInspector (Int32.toNatClampNeg x1)) 4 <|
  some (f_X4_given (r_t_kind (Int32.toNatClampNeg (r_t_markInspector (Int32.toNatClampNeg x1)))) (f_X4_truth (r_t_markEvents (Int32.toNatClampNeg x1)) x2) (r_t_markDay (Int32.toNatClampNeg x1)) (r_t_markEvents (Int32.toNatClampNeg x1)) (r_t_markTrips (Int32.toNatClampNeg x1)))
def f_X0_missed_B5 (x1 : Int32) (x2 : Int32) (v_t_marks : Int32) (r_t_kind : Nat → Int32) (r_t_markInspector : Nat → Int32) (r_t_markDay : Nat → Int32) (r_t_markEvents : Nat → Int32) (r_t_markValue : Nat → Int32) (r_t_markTrips : Nat → Int32) (k5 : Int32 → Int32 → Option (Int32)) (y3 : Int32) (y4 : Int32) : Option (Int32) :=
  if v_t_marks ≤ y4 then
    some y3
  else
    ckI y4 8 <|
    if (r_t_markDay (Int32.toNatClampNeg y4)) = x1 then
      bd1 (f_X0_markBy y4 x2 r_t_kind r_t_markInspector r_t_markDay r_t_markEvents r_t_markTrips) fun z4 =>
      if z4 = (r_t_markValue (Int32.toNatClampNeg y4)) then
        k5 y3 (y4 + (1 : Int32))
      else
        k5 (y3 ||| ((1 : Int32) <<< (y4 &&& 31))) (y4 + (1 : Int32))
    else
      k5 y3 (y4 + (1 : Int32))
def f_X0_missed (x1 : Int32) (x2 : Int32) (v_t_marks : Int32) (r_t_kind : Nat → Int32) (r_t_markInspector : Nat → Int32) (r_t_markDay : Nat → Int32) (r_t_markEvents : Nat → Int32) (r_t_markValue : Nat → Int32) (r_t_markTrips : Nat → Int32) : Option (Int32) :=
  lq2 (f_X0_missed_B5 x1 x2 v_t_marks r_t_kind r_t_markInspector r_t_markDay r_t_markEvents r_t_markValue r_t_markTrips ) FU (0 : Int32) (0 : Int32)
def f_X0_marksOf_B4 (x1 : Int32) (v_t_marks : Int32) (r_t_markDay : Nat → Int32) (k4 : Int32 → Int32 → Option (Int32)) (y2 : Int32) (y3 : Int32) : Option (Int32) :=
  if v_t_marks ≤ y3 then
    some y2
  else
    ckI y3 8 <|
    if (r_t_markDay (Int32.toNatClampNeg y3)) = x1 then
      k4 (y2 + (1 : Int32)) (y3 + (1 : Int32))
    else
      k4 y2 (y3 + (1 : Int32))
def f_X0_marksOf (x1 : Int32) (v_t_marks : Int32) (r_t_markDay : Nat → Int32) : Option (Int32) :=
  lq2 (f_X0_marksOf_B4 x1 v_t_marks r_t_markDay ) FU (0 : Int32) (0 : Int32)
def f_X0_digestOn_B117 (v_t_marks : Int32) (r_t_markInspector : Nat → Int32) (r_t_markDay : Nat → Int32) (r_t_markEvents : Nat → Int32) (r_t_markValue : Nat → Int32) (r_t_markTrips : Nat → Int32) (k117 : Int64 → Int32 → Option (Int64)) (y3 : Int64) (y5 : Int32) : Option (Int64) :=
  if v_t_marks ≤ y5 then
    some y3
  else
    ckI y5 8 <|
    k117 (((31 : Int64) * (((31 : Int64) * (((31 : Int64) * (((31 : Int64) * (((31 : Int64) * y3) + (Int32.toInt64 (r_t_markInspector (Int32.toNatClampNeg y5))))) + (Int32.toInt64 (r_t_markDay (Int32.toNatClampNeg y5))))) + (Int32.toInt64 (r_t_markEvents (Int32.toNatClampNeg y5))))) + (Int32.toInt64 (r_t_markValue (Int32.toNatClampNeg y5))))) + (Int32.toInt64 (r_t_markTrips (Int32.toNatClampNeg y5)))) (y5 + (1 : Int32))
def f_X0_digestOn_B69 (v_t_inspectors : Int32) (v_t_marks : Int32) (r_t_kind : Nat → Int32) (r_t_trips : Nat → Int32) (r_t_markInspector : Nat → Int32) (r_t_markDay : Nat → Int32) (r_t_markEvents : Nat → Int32) (r_t_markValue : Nat → Int32) (r_t_markTrips : Nat → Int32) (k69 : Int64 → Int32 → Option (Int64)) (y3 : Int64) (y5 : Int32) : Option (Int64) :=
  if v_t_inspectors ≤ y5 then
    lq2 (f_X0_digestOn_B117 v_t_marks r_t_markInspector r_t_markDay r_t_markEvents r_t_markValue r_t_markTrips ) FU y3 (0 : Int32)
  else
    ckI y5 4 <|
    k69 (((31 : Int64) * (((31 : Int64) * y3) + (Int32.toInt64 (r_t_kind (Int32.toNatClampNeg y5))))) + (Int32.toInt64 (r_t_trips (Int32.toNatClampNeg y5)))) (y5 + (1 : Int32))
def f_X0_digestOn_B38 (v_t_inspectors : Int32) (v_t_marks : Int32) (r_t_knownEvent : Nat → Int32) (r_t_kind : Nat → Int32) (r_t_trips : Nat → Int32) (r_t_markInspector : Nat → Int32) (r_t_markDay : Nat → Int32) (r_t_markEvents : Nat → Int32) (r_t_markValue : Nat → Int32) (r_t_markTrips : Nat → Int32) (k38 : Int64 → Int32 → Option (Int64)) (y3 : Int64) (y5 : Int32) : Option (Int64) :=
  if (6 : Int32) ≤ y5 then
    lq2 (f_X0_digestOn_B69 v_t_inspectors v_t_marks r_t_kind r_t_trips r_t_markInspector r_t_markDay r_t_markEvents r_t_markValue r_t_markTrips ) FU y3 (0 : Int32)
  else
    ckI y5 6 <|
    k38 (((31 : Int64) * y3) + (Int32.toInt64 (r_t_knownEvent (Int32.toNatClampNeg y5)))) (y5 + (1 : Int32))
def f_X0_digestOn_B5 (v_t_laws : Int32) (v_t_inspectors : Int32) (v_t_marks : Int32) (r_t_knownEvent : Nat → Int32) (r_t_kind : Nat → Int32) (r_t_trips : Nat → Int32) (r_t_markInspector : Nat → Int32) (r_t_markDay : Nat → Int32) (r_t_markEvents : Nat → Int32) (r_t_markValue : Nat → Int32) (r_t_markTrips : Nat → Int32) (k5 : Int64 → Int32 → Option (Int64)) (y3 : Int64) (y5 : Int32) : Option (Int64) :=
  if (16 : Int32) ≤ y5 then
    lq2 (f_X0_digestOn_B38 v_t_inspectors v_t_marks r_t_knownEvent r_t_kind r_t_trips r_t_markInspector r_t_markDay r_t_markEvents r_t_markValue r_t_markTrips ) FU y3 (0 : Int32)
  else
    k5 (((31 : Int64) * y3) + (Int32.toInt64 ((v_t_laws >>> (y5 &&& 31)) &&& (1 : Int32)))) (y5 + (1 : Int32))
def f_X0_digestOn (x1 : Int64) (v_t_laws : Int32) (v_t_inspectors : Int32) (v_t_marks : Int32) (r_t_knownEvent : Nat → Int32) (r_t_kind : Nat → Int32) (r_t_trips : Nat → Int32) (r_t_markInspector : Nat → Int32) (r_t_markDay : Nat → Int32) (r_t_markEvents : Nat → Int32) (r_t_markValue : Nat → Int32) (r_t_markTrips : Nat → Int32) : Option (Int64) :=
  lq2 (f_X0_digestOn_B5 v_t_laws v_t_inspectors v_t_marks r_t_knownEvent r_t_kind r_t_trips r_t_markInspector r_t_markDay r_t_markEvents r_t_markValue r_t_markTrips ) FU x1 (0 : Int32)
def f_X2_byteAt (x1 : Int32) (v_t_length : Int32) (r_t_bytes : Nat → Int32) : Option (Int32) :=
  if x1 < 0 then
    some (-1 : Int32)
  else
    if v_t_length ≤ x1 then
      some (-1 : Int32)
    else
      if (150 : Int32) ≤ x1 then
        some (-1 : Int32)
      else
        ckI x1 150 <|
        some (r_t_bytes (Int32.toNatClampNeg x1))
def f_X2_behindRun_B3 (x2 : Int32) (x3 : Int32) (v_t_length : Int32) (r_t_bytes : Nat → Int32) (k3 : Int32 → Option (Int32)) (y4 : Int32) : Option (Int32) :=
  if v_t_length ≤ y4 then
    some y4
  else
    bd1 (f_X2_byteAt y4 v_t_length r_t_bytes) fun z2 =>
    if z2 < x2 then
      some y4
    else
      bd1 (f_X2_byteAt y4 v_t_length r_t_bytes) fun z5 =>
      if x3 < z5 then
        some y4
      else
        k3 (y4 + (1 : Int32))
def f_X2_behindRun (x1 : Int32) (x2 : Int32) (x3 : Int32) (v_t_length : Int32) (r_t_bytes : Nat → Int32) : Option (Int32) :=
  lq1 (f_X2_behindRun_B3 x2 x3 v_t_length r_t_bytes ) FU x1
def f_X2_isLetter (x0 : Int32) : Int32 :=
  if x0 < (97 : Int32) then
    (0 : Int32)
  else
    if (122 : Int32) < x0 then
      (0 : Int32)
    else
      (1 : Int32)
theorem nb_X2_isLetter (x0 : Int32) : f_X2_isLetter x0 &&& 1 = f_X2_isLetter x0 := by
  simp only [f_X2_isLetter]
  (repeat' split) <;> first | rfl | decide
def f_X2_put (x1 : Int32) (x2 : Int32) (x3 : Int32) (v_t_tokens : Int32) (r_t_token : Nat → Int32) (r_t_start : Nat → Int32) (r_t_value : Nat → Int32) : Option (Int32 × (Nat → Int32) × (Nat → Int32) × (Nat → Int32)) :=
  if (150 : Int32) < v_t_tokens then
    some (v_t_tokens, r_t_token, r_t_start, r_t_value)
  else
    ckI v_t_tokens 151 <|
    some ((v_t_tokens + (1 : Int32)), (upd r_t_token (Int32.toNatClampNeg v_t_tokens) x2), (upd r_t_start (Int32.toNatClampNeg v_t_tokens) x1), (upd r_t_value (Int32.toNatClampNeg v_t_tokens) x3))
def f_X2_isFigure (x0 : Int32) : Int32 :=
  if x0 < (48 : Int32) then
    (0 : Int32)
  else
    if (57 : Int32) < x0 then
      (0 : Int32)
    else
      (1 : Int32)
theorem nb_X2_isFigure (x0 : Int32) : f_X2_isFigure x0 &&& 1 = f_X2_isFigure x0 := by
  simp only [f_X2_isFigure]
  (repeat' split) <;> first | rfl | decide
def f_X2_number_B5 (x2 : Int32) (v_t_length : Int32) (r_t_bytes : Nat → Int32) (k5 : Int32 → Int32 → Option (Int32)) (y3 : Int32) (y4 : Int32) : Option (Int32) :=
  if x2 ≤ y4 then
    some y3
  else
    bd1 (f_X2_byteAt y4 v_t_length r_t_bytes) fun z2 =>
    k5 ((((10 : Int32) * y3) + z2) - (48 : Int32)) (y4 + (1 : Int32))
def f_X2_number (x1 : Int32) (x2 : Int32) (v_t_length : Int32) (r_t_bytes : Nat → Int32) : Option (Int32) :=
  lq2 (f_X2_number_B5 x2 v_t_length r_t_bytes ) FU (0 : Int32) x1
def f_X1_advance_J20 (r_p1_token : Nat → Int32)  (v_t_at : Int32) (v_t_token : Int32) : Option (Int32 × Int32) :=
  ckI v_t_at 151 <|
  some (v_t_at, (r_p1_token (Int32.toNatClampNeg v_t_at)))
def f_X1_advance (v_t_at : Int32) (v_t_token : Int32) (r_p1_token : Nat → Int32) : Option (Int32 × Int32) :=
  if (150 : Int32) ≤ v_t_at then
    f_X1_advance_J20 r_p1_token  v_t_at v_t_token
  else
    f_X1_advance_J20 r_p1_token  (v_t_at + (1 : Int32)) v_t_token
def f_X1_reject (v_t_at : Int32) (v_t_token : Int32) (v_t_fault : Int32) (r_p1_start : Nat → Int32) : Option (Int32 × Int32) :=
  if v_t_fault = (-1 : Int32) then
    ckI v_t_at 151 <|
    some ((1 : Int32), (r_p1_start (Int32.toNatClampNeg v_t_at)))
  else
    some ((1 : Int32), v_t_fault)
def f_X1_takeIf (x2 : Int32) (v_t_at : Int32) (v_t_token : Int32) (v_t_fault : Int32) (r_p1_token : Nat → Int32) (r_p1_start : Nat → Int32) : Option (Int32 × Int32 × Int32) :=
  if x2 = 0 then
    bd2 (f_X1_reject v_t_at v_t_token v_t_fault r_p1_start) fun u2 u3 =>
    some (v_t_at, u2, u3)
  else
    bd2 (f_X1_advance v_t_at v_t_token r_p1_token) fun u5 u6 =>
    some (u5, u6, v_t_fault)
def f_X1_takeStop (v_t_at : Int32) (v_t_token : Int32) (v_t_fault : Int32) (r_p1_token : Nat → Int32) (r_p1_start : Nat → Int32) : Option (Int32 × Int32 × Int32) :=
  if v_t_token = (2 : Int32) then
    bd3 (f_X1_takeIf (1 : Int32) v_t_at v_t_token v_t_fault r_p1_token r_p1_start) fun u6 u7 u8 =>
    some (u6, u7, u8)
  else
    bd3 (f_X1_takeIf (0 : Int32) v_t_at v_t_token v_t_fault r_p1_token r_p1_start) fun u2 u3 u4 =>
    some (u2, u3, u4)
def f_X1_takeNumber_J23 (r_p1_start : Nat → Int32)  (v_t_at : Int32) (v_t_token : Int32) (v_t_fault : Int32) : Option (Int32 × Int32 × Int32 × Int32) :=
  bd2 (f_X1_reject v_t_at v_t_token v_t_fault r_p1_start) fun u3 u4 =>
  some ((0 : Int32), v_t_at, u3, u4)
def f_X1_takeNumber (x2 : Int32) (v_t_at : Int32) (v_t_token : Int32) (v_t_fault : Int32) (r_p1_token : Nat → Int32) (r_p1_start : Nat → Int32) (r_p1_value : Nat → Int32) : Option (Int32 × Int32 × Int32 × Int32) :=
  ckI v_t_at 151 <|
  if v_t_token = (3 : Int32) then
    if (r_p1_value (Int32.toNatClampNeg v_t_at)) < x2 then
      bd2 (f_X1_advance v_t_at v_t_token r_p1_token) fun u7 u8 =>
      some ((r_p1_value (Int32.toNatClampNeg v_t_at)), u7, u8, v_t_fault)
    else
      f_X1_takeNumber_J23 r_p1_start  v_t_at v_t_token v_t_fault
  else
    f_X1_takeNumber_J23 r_p1_start  v_t_at v_t_token v_t_fault
def f_X1_takeLaw (v_t_at : Int32) (v_t_token : Int32) (v_t_fault : Int32) (r_p1_token : Nat → Int32) (r_p1_start : Nat → Int32) (r_p1_value : Nat → Int32) (v_p2_laws : Int32) : Option (Int32 × Int32 × Int32 × Int32) :=
  bd2 (f_X1_advance v_t_at v_t_token r_p1_token) fun u1 u2 =>
  bd4 (f_X1_takeNumber (4 : Int32) u1 u2 v_t_fault r_p1_token r_p1_start r_p1_value) fun z4 u5 u6 u7 =>
  bd4 (f_X1_takeNumber (4 : Int32) u5 u6 u7 r_p1_token r_p1_start r_p1_value) fun z9 u10 u11 u12 =>
  bd3 (f_X1_takeStop u10 u11 u12 r_p1_token r_p1_start) fun u14 u15 u16 =>
  if u16 = (-1 : Int32) then
    bd1 (f_X0_addLaw z4 z9 v_p2_laws) fun u19 =>
    some (u14, u15, u16, u19)
  else
    some (u14, u15, u16, v_p2_laws)
def f_X1_takeKnown (v_t_at : Int32) (v_t_token : Int32) (v_t_fault : Int32) (r_p1_token : Nat → Int32) (r_p1_start : Nat → Int32) (r_p1_value : Nat → Int32) (v_p2_undos : Int32) (r_p2_knownEvent : Nat → Int32) (r_p2_undoDay : Nat → Int32) (r_p2_undoEvent : Nat → Int32) : Option (Int32 × Int32 × Int32 × Int32 × (Nat → Int32) × (Nat → Int32) × (Nat → Int32)) :=
  bd2 (f_X1_advance v_t_at v_t_token r_p1_token) fun u1 u2 =>
  bd4 (f_X1_takeNumber (6 : Int32) u1 u2 v_t_fault r_p1_token r_p1_start r_p1_value) fun z4 u5 u6 u7 =>
  bd4 (f_X1_takeNumber (4 : Int32) u5 u6 u7 r_p1_token r_p1_start r_p1_value) fun z9 u10 u11 u12 =>
  bd3 (f_X1_takeStop u10 u11 u12 r_p1_token r_p1_start) fun u14 u15 u16 =>
  if u16 = (-1 : Int32) then
    bd4 (f_X0_learn z4 z9 v_p2_undos r_p2_knownEvent r_p2_undoDay r_p2_undoEvent) fun u19 u20 u21 u22 =>
    some (u14, u15, u16, u19, u20, u21, u22)
  else
    some (u14, u15, u16, v_p2_undos, r_p2_knownEvent, r_p2_undoDay, r_p2_undoEvent)
def f_X1_takeInspector (v_t_at : Int32) (v_t_token : Int32) (v_t_fault : Int32) (r_p1_token : Nat → Int32) (r_p1_start : Nat → Int32) (r_p1_value : Nat → Int32) (v_p2_inspectors : Int32) (r_p2_kind : Nat → Int32) (r_p2_trips : Nat → Int32) : Option (Int32 × Int32 × Int32 × Int32 × (Nat → Int32) × (Nat → Int32)) :=
  if (4 : Int32) ≤ v_p2_inspectors then
    bd3 (f_X1_takeIf (0 : Int32) v_t_at v_t_token v_t_fault r_p1_token r_p1_start) fun u2 u3 u4 =>
    bd4 (f_X1_takeNumber (6 : Int32) u2 u3 u4 r_p1_token r_p1_start r_p1_value) fun z6 u7 u8 u9 =>
    bd4 (f_X1_takeNumber (10 : Int32) u7 u8 u9 r_p1_token r_p1_start r_p1_value) fun z11 u12 u13 u14 =>
    bd3 (f_X1_takeStop u12 u13 u14 r_p1_token r_p1_start) fun u16 u17 u18 =>
    if u18 = (-1 : Int32) then
      bd3 (f_X0_addInspector z6 z11 v_p2_inspectors r_p2_kind r_p2_trips) fun u21 u22 u23 =>
      some (u16, u17, u18, u21, u22, u23)
    else
      some (u16, u17, u18, v_p2_inspectors, r_p2_kind, r_p2_trips)
  else
    bd3 (f_X1_takeIf (1 : Int32) v_t_at v_t_token v_t_fault r_p1_token r_p1_start) fun u25 u26 u27 =>
    bd4 (f_X1_takeNumber (6 : Int32) u25 u26 u27 r_p1_token r_p1_start r_p1_value) fun z29 u30 u31 u32 =>
    bd4 (f_X1_takeNumber (10 : Int32) u30 u31 u32 r_p1_token r_p1_start r_p1_value) fun z34 u35 u36 u37 =>
    bd3 (f_X1_takeStop u35 u36 u37 r_p1_token r_p1_start) fun u39 u40 u41 =>
    if u41 = (-1 : Int32) then
      bd3 (f_X0_addInspector z29 z34 v_p2_inspectors r_p2_kind r_p2_trips) fun u44 u45 u46 =>
      some (u39, u40, u41, u44, u45, u46)
    else
      some (u39, u40, u41, v_p2_inspectors, r_p2_kind, r_p2_trips)
def f_X1_takeUnlike_J31 (x2 : Int32) (r_p1_token : Nat → Int32) (r_p1_start : Nat → Int32) (r_p1_value : Nat → Int32)  (v_t_at : Int32) (v_t_token : Int32) (v_t_fault : Int32) : Option (Int32 × Int32 × Int32 × Int32) :=
  bd4 (f_X1_takeNumber (4 : Int32) v_t_at v_t_token v_t_fault r_p1_token r_p1_start r_p1_value) fun z3 u4 u5 u6 =>
  some ((x2 ||| ((1 : Int32) <<< (z3 &&& 31))), u4, u5, u6)
def f_X1_takeUnlike (x2 : Int32) (v_t_at : Int32) (v_t_token : Int32) (v_t_fault : Int32) (r_p1_token : Nat → Int32) (r_p1_start : Nat → Int32) (r_p1_value : Nat → Int32) : Option (Int32 × Int32 × Int32 × Int32) :=
  ckI v_t_at 151 <|
  if (4 : Int32) ≤ (r_p1_value (Int32.toNatClampNeg v_t_at)) then
    f_X1_takeUnlike_J31 x2 r_p1_token r_p1_start r_p1_value  v_t_at v_t_token v_t_fault
  else
    if ((x2 >>> ((r_p1_value (Int32.toNatClampNeg v_t_at)) &&& 31)) &&& (1 : Int32)) = (1 : Int32) then
      bd2 (f_X1_reject v_t_at v_t_token v_t_fault r_p1_start) fun u9 u10 =>
      some (x2, v_t_at, u9, u10)
    else
      f_X1_takeUnlike_J31 x2 r_p1_token r_p1_start r_p1_value  v_t_at v_t_token v_t_fault
def f_X1_takeMark_J88 (r_p1_token : Nat → Int32) (r_p1_start : Nat → Int32)  (y3 : Int32) (y4 : Int32) (y5 : Int32) (y6 : Int32) (v_t_at : Int32) (v_t_token : Int32) (v_t_fault : Int32) (v_p2_marks : Int32) (v_p2_undos : Int32) (r_p2_trips : Nat → Int32) (r_p2_markInspector : Nat → Int32) (r_p2_markDay : Nat → Int32) (r_p2_markEvents : Nat → Int32) (r_p2_markValue : Nat → Int32) (r_p2_markTrips : Nat → Int32) (r_p2_undoDay : Nat → Int32) (r_p2_undoEvent : Nat → Int32) : Option (Int32 × Int32 × Int32 × Int32 × Int32 × (Nat → Int32) × (Nat → Int32) × (Nat → Int32) × (Nat → Int32) × (Nat → Int32) × (Nat → Int32) × (Nat → Int32) × (Nat → Int32)) :=
  bd3 (f_X1_takeStop v_t_at v_t_token v_t_fault r_p1_token r_p1_start) fun u27 u28 u29 =>
  if u29 = (-1 : Int32) then
    bd10 (f_X0_addMark y3 y4 y6 y5 v_p2_marks v_p2_undos r_p2_trips r_p2_markInspector r_p2_markDay r_p2_markEvents r_p2_markValue r_p2_markTrips r_p2_undoDay r_p2_undoEvent) fun u32 u33 u34 u35 u36 u37 u38 u39 u40 u41 =>
    some (u27, u28, u29, u32, u33, u34, u35, u36, u37, u38, u39, u40, u41)
  else
    some (u27, u28, u29, v_p2_marks, v_p2_undos, r_p2_trips, r_p2_markInspector, r_p2_markDay, r_p2_markEvents, r_p2_markValue, r_p2_markTrips, r_p2_undoDay, r_p2_undoEvent)
def f_X1_takeMark_B59 (r_p1_token : Nat → Int32) (r_p1_start : Nat → Int32) (r_p1_value : Nat → Int32) (k59 : Int32 → Int32 → Int32 → Int32 → Int32 → Int32 → Int32 → Int32 → Int32 → Int32 → (Nat → Int32) → (Nat → Int32) → (Nat → Int32) → (Nat → Int32) → (Nat → Int32) → (Nat → Int32) → (Nat → Int32) → (Nat → Int32) → Option (Int32 × Int32 × Int32 × Int32 × Int32 × (Nat → Int32) × (Nat → Int32) × (Nat → Int32) × (Nat → Int32) × (Nat → Int32) × (Nat → Int32) × (Nat → Int32) × (Nat → Int32))) (y3 : Int32) (y4 : Int32) (y5 : Int32) (y6 : Int32) (y7 : Int32) (v_t_at : Int32) (v_t_token : Int32) (v_t_fault : Int32) (v_p2_marks : Int32) (v_p2_undos : Int32) (r_p2_trips : Nat → Int32) (r_p2_markInspector : Nat → Int32) (r_p2_markDay : Nat → Int32) (r_p2_markEvents : Nat → Int32) (r_p2_markValue : Nat → Int32) (r_p2_markTrips : Nat → Int32) (r_p2_undoDay : Nat → Int32) (r_p2_undoEvent : Nat → Int32) : Option (Int32 × Int32 × Int32 × Int32 × Int32 × (Nat → Int32) × (Nat → Int32) × (Nat → Int32) × (Nat → Int32) × (Nat → Int32) × (Nat → Int32) × (Nat → Int32) × (Nat → Int32)) :=
  if (3 : Int32) ≤ y7 then
    f_X1_takeMark_J88 r_p1_token r_p1_start  y3 y4 y5 y6 v_t_at v_t_token v_t_fault v_p2_marks v_p2_undos r_p2_trips r_p2_markInspector r_p2_markDay r_p2_markEvents r_p2_markValue r_p2_markTrips r_p2_undoDay r_p2_undoEvent
  else
    if v_t_token = (3 : Int32) then
      bd4 (f_X1_takeUnlike y6 v_t_at v_t_token v_t_fault r_p1_token r_p1_start r_p1_value) fun z44 u45 u46 u47 =>
      k59 y3 y4 y5 z44 (y7 + (1 : Int32)) u45 u46 u47 v_p2_marks v_p2_undos r_p2_trips r_p2_markInspector r_p2_markDay r_p2_markEvents r_p2_markValue r_p2_markTrips r_p2_undoDay r_p2_undoEvent
    else
      f_X1_takeMark_J88 r_p1_token r_p1_start  y3 y4 y5 y6 v_t_at v_t_token v_t_fault v_p2_marks v_p2_undos r_p2_trips r_p2_markInspector r_p2_markDay r_p2_markEvents r_p2_markValue r_p2_markTrips r_p2_undoDay r_p2_undoEvent
def f_X1_takeMark (v_t_at : Int32) (v_t_token : Int32) (v_t_fault : Int32) (r_p1_token : Nat → Int32) (r_p1_start : Nat → Int32) (r_p1_value : Nat → Int32) (v_p2_inspectors : Int32) (v_p2_marks : Int32) (v_p2_undos : Int32) (r_p2_trips : Nat → Int32) (r_p2_markInspector : Nat → Int32) (r_p2_markDay : Nat → Int32) (r_p2_markEvents : Nat → Int32) (r_p2_markValue : Nat → Int32) (r_p2_markTrips : Nat → Int32) (r_p2_undoDay : Nat → Int32) (r_p2_undoEvent : Nat → Int32) : Option (Int32 × Int32 × Int32 × Int32 × Int32 × (Nat → Int32) × (Nat → Int32) × (Nat → Int32) × (Nat → Int32) × (Nat → Int32) × (Nat → Int32) × (Nat → Int32) × (Nat → Int32)) :=
  if (8 : Int32) ≤ v_p2_marks then
    bd3 (f_X1_takeIf (0 : Int32) v_t_at v_t_token v_t_fault r_p1_token r_p1_start) fun u2 u3 u4 =>
    bd4 (f_X1_takeNumber v_p2_inspectors u2 u3 u4 r_p1_token r_p1_start r_p1_value) fun z6 u7 u8 u9 =>
    bd4 (f_X1_takeNumber (6 : Int32) u7 u8 u9 r_p1_token r_p1_start r_p1_value) fun z11 u12 u13 u14 =>
    bd4 (f_X1_takeNumber (3 : Int32) u12 u13 u14 r_p1_token r_p1_start r_p1_value) fun z16 u17 u18 u19 =>
    bd4 (f_X1_takeNumber (4 : Int32) u17 u18 u19 r_p1_token r_p1_start r_p1_value) fun z21 u22 u23 u24 =>
    lq18 (f_X1_takeMark_B59 r_p1_token r_p1_start r_p1_value ) FU z6 z11 z16 ((1 : Int32) <<< (z21 &&& 31)) (1 : Int32) u22 u23 u24 v_p2_marks v_p2_undos r_p2_trips r_p2_markInspector r_p2_markDay r_p2_markEvents r_p2_markValue r_p2_markTrips r_p2_undoDay r_p2_undoEvent
  else
    bd3 (f_X1_takeIf (1 : Int32) v_t_at v_t_token v_t_fault r_p1_token r_p1_start) fun u49 u50 u51 =>
    bd4 (f_X1_takeNumber v_p2_inspectors u49 u50 u51 r_p1_token r_p1_start r_p1_value) fun z53 u54 u55 u56 =>
    bd4 (f_X1_takeNumber (6 : Int32) u54 u55 u56 r_p1_token r_p1_start r_p1_value) fun z58 u59 u60 u61 =>
    bd4 (f_X1_takeNumber (3 : Int32) u59 u60 u61 r_p1_token r_p1_start r_p1_value) fun z63 u64 u65 u66 =>
    bd4 (f_X1_takeNumber (4 : Int32) u64 u65 u66 r_p1_token r_p1_start r_p1_value) fun z68 u69 u70 u71 =>
    lq18 (f_X1_takeMark_B59 r_p1_token r_p1_start r_p1_value ) FU z53 z58 z63 ((1 : Int32) <<< (z68 &&& 31)) (1 : Int32) u69 u70 u71 v_p2_marks v_p2_undos r_p2_trips r_p2_markInspector r_p2_markDay r_p2_markEvents r_p2_markValue r_p2_markTrips r_p2_undoDay r_p2_undoEvent
def f_X1_takeItem (v_t_at : Int32) (v_t_token : Int32) (v_t_fault : Int32) (r_p1_token : Nat → Int32) (r_p1_start : Nat → Int32) (r_p1_value : Nat → Int32) (v_p2_laws : Int32) (v_p2_inspectors : Int32) (v_p2_marks : Int32) (v_p2_undos : Int32) (r_p2_knownEvent : Nat → Int32) (r_p2_kind : Nat → Int32) (r_p2_trips : Nat → Int32) (r_p2_markInspector : Nat → Int32) (r_p2_markDay : Nat → Int32) (r_p2_markEvents : Nat → Int32) (r_p2_markValue : Nat → Int32) (r_p2_markTrips : Nat → Int32) (r_p2_undoDay : Nat → Int32) (r_p2_undoEvent : Nat → Int32) : Option (Int32 × Int32 × Int32 × Int32 × Int32 × Int32 × Int32 × (Nat → Int32) × (Nat → Int32) × (Nat → Int32) × (Nat → Int32) × (Nat → Int32) × (Nat → Int32) × (Nat → Int32) × (Nat → Int32) × (Nat → Int32) × (Nat → Int32)) :=
  if v_t_token = (5 : Int32) then
    bd4 (f_X1_takeLaw v_t_at v_t_token v_t_fault r_p1_token r_p1_start r_p1_value v_p2_laws) fun u37 u38 u39 u40 =>
    some (u37, u38, u39, u40, v_p2_inspectors, v_p2_marks, v_p2_undos, r_p2_knownEvent, r_p2_kind, r_p2_trips, r_p2_markInspector, r_p2_markDay, r_p2_markEvents, r_p2_markValue, r_p2_markTrips, r_p2_undoDay, r_p2_undoEvent)
  else
    if v_t_token = (6 : Int32) then
      bd7 (f_X1_takeKnown v_t_at v_t_token v_t_fault r_p1_token r_p1_start r_p1_value v_p2_undos r_p2_knownEvent r_p2_undoDay r_p2_undoEvent) fun u29 u30 u31 u32 u33 u34 u35 =>
      some (u29, u30, u31, v_p2_laws, v_p2_inspectors, v_p2_marks, u32, u33, r_p2_kind, r_p2_trips, r_p2_markInspector, r_p2_markDay, r_p2_markEvents, r_p2_markValue, r_p2_markTrips, u34, u35)
    else
      if v_t_token = (7 : Int32) then
        bd6 (f_X1_takeInspector v_t_at v_t_token v_t_fault r_p1_token r_p1_start r_p1_value v_p2_inspectors r_p2_kind r_p2_trips) fun u22 u23 u24 u25 u26 u27 =>
        some (u22, u23, u24, v_p2_laws, u25, v_p2_marks, v_p2_undos, r_p2_knownEvent, u26, u27, r_p2_markInspector, r_p2_markDay, r_p2_markEvents, r_p2_markValue, r_p2_markTrips, r_p2_undoDay, r_p2_undoEvent)
      else
        if v_t_token = (8 : Int32) then
          bd13 (f_X1_takeMark v_t_at v_t_token v_t_fault r_p1_token r_p1_start r_p1_value v_p2_inspectors v_p2_marks v_p2_undos r_p2_trips r_p2_markInspector r_p2_markDay r_p2_markEvents r_p2_markValue r_p2_markTrips r_p2_undoDay r_p2_undoEvent) fun u8 u9 u10 u11 u12 u13 u14 u15 u16 u17 u18 u19 u20 =>
          some (u8, u9, u10, v_p2_laws, v_p2_inspectors, u11, u12, r_p2_knownEvent, r_p2_kind, u13, u14, u15, u16, u17, u18, u19, u20)
        else
          bd2 (f_X1_reject v_t_at v_t_token v_t_fault r_p1_start) fun u5 u6 =>
          some (v_t_at, u5, u6, v_p2_laws, v_p2_inspectors, v_p2_marks, v_p2_undos, r_p2_knownEvent, r_p2_kind, r_p2_trips, r_p2_markInspector, r_p2_markDay, r_p2_markEvents, r_p2_markValue, r_p2_markTrips, r_p2_undoDay, r_p2_undoEvent)
def f_X2_append (x1 : Int32) (v_t_length : Int32) (r_t_bytes : Nat → Int32) : Option (Int32 × (Nat → Int32)) :=
  if (150 : Int32) ≤ v_t_length then
    some (v_t_length, r_t_bytes)
  else
    ckI v_t_length 150 <|
    some ((v_t_length + (1 : Int32)), (upd r_t_bytes (Int32.toNatClampNeg v_t_length) x1))
def f_X3_place (x0 : Int32) (x1 : Int32) : Int32 :=
  (((4 : Int32) * x0) + x1)
def f_X3_weighFits_J46  (k2 : Int32 → (Nat → Int64) → Option ((Nat → Int64))) (k11 : Int32 → Int32 → (Nat → Int64) → Option ((Nat → Int64))) (y3 : Int32) (y4 : Int32) (r_t_weight : Nat → Int64) (s0 : Int32) : Option ((Nat → Int64)) :=
  if s0 = 0 then
    ckI (f_X3_place y3 y4) 24 <|
    k11 y3 (y4 + (1 : Int32)) (vp_updL r_t_weight (Int32.toNatClampNeg (f_X3_place y3 y4)) (0 : Int64))
  else
    ckI (f_X3_place y3 y4) 24 <|
    k11 y3 (y4 + (1 : Int32)) (vp_updL r_t_weight (Int32.toNatClampNeg (f_X3_place y3 y4)) (1 : Int64))
def f_X3_weighFits_B11 (x2 : Int32) (v_p1_marks : Int32) (r_p1_knownEvent : Nat → Int32) (r_p1_kind : Nat → Int32) (r_p1_markInspector : Nat → Int32) (r_p1_markDay : Nat → Int32) (r_p1_markEvents : Nat → Int32) (r_p1_markValue : Nat → Int32) (r_p1_markTrips : Nat → Int32) (k2 : Int32 → (Nat → Int64) → Option ((Nat → Int64))) (k11 : Int32 → Int32 → (Nat → Int64) → Option ((Nat → Int64))) (y3 : Int32) (y4 : Int32) (r_t_weight : Nat → Int64) : Option ((Nat → Int64)) :=
  if (4 : Int32) ≤ y4 then
    k2 (y3 + (1 : Int32)) r_t_weight
  else
    bd1 (f_X0_allows y3 y4 r_p1_knownEvent) fun z3 =>
    if z3 = 0 then
      f_X3_weighFits_J46  k2 k11 y3 y4 r_t_weight (0 : Int32)
    else
      bd1 (f_X0_missed y3 y4 v_p1_marks r_p1_kind r_p1_markInspector r_p1_markDay r_p1_markEvents r_p1_markValue r_p1_markTrips) fun z9 =>
      if (z9 &&& (x2 ^^^ (-1 : Int32))) = 0 then
        f_X3_weighFits_J46  k2 k11 y3 y4 r_t_weight (1 : Int32)
      else
        f_X3_weighFits_J46  k2 k11 y3 y4 r_t_weight (0 : Int32)
def f_X3_weighFits_B2 (x2 : Int32) (v_p1_marks : Int32) (r_p1_knownEvent : Nat → Int32) (r_p1_kind : Nat → Int32) (r_p1_markInspector : Nat → Int32) (r_p1_markDay : Nat → Int32) (r_p1_markEvents : Nat → Int32) (r_p1_markValue : Nat → Int32) (r_p1_markTrips : Nat → Int32) (k2 : Int32 → (Nat → Int64) → Option ((Nat → Int64))) (y3 : Int32) (r_t_weight : Nat → Int64) : Option ((Nat → Int64)) :=
  if (6 : Int32) ≤ y3 then
    some r_t_weight
  else
    lq3 (f_X3_weighFits_B11 x2 v_p1_marks r_p1_knownEvent r_p1_kind r_p1_markInspector r_p1_markDay r_p1_markEvents r_p1_markValue r_p1_markTrips k2) FU y3 (0 : Int32) r_t_weight
def f_X3_weighFits (x2 : Int32) (r_t_weight : Nat → Int64) (v_p1_marks : Int32) (r_p1_knownEvent : Nat → Int32) (r_p1_kind : Nat → Int32) (r_p1_markInspector : Nat → Int32) (r_p1_markDay : Nat → Int32) (r_p1_markEvents : Nat → Int32) (r_p1_markValue : Nat → Int32) (r_p1_markTrips : Nat → Int32) : Option ((Nat → Int64)) :=
  lq2 (f_X3_weighFits_B2 x2 v_p1_marks r_p1_knownEvent r_p1_kind r_p1_markInspector r_p1_markDay r_p1_markEvents r_p1_markValue r_p1_markTrips ) FU (0 : Int32) r_t_weight
def f_X3_weighOdds_B56 (x2 : Int32) (k2 : Int32 → (Nat → Int64) → Option ((Nat → Int64))) (k11 : Int32 → Int32 → (Nat → Int64) → Option ((Nat → Int64))) (k56 : Int32 → Int32 → Int32 → Int32 → Int64 → Int32 → (Nat → Int64) → Option ((Nat → Int64))) (y3 : Int32) (y4 : Int32) (y5 : Int32) (y6 : Int32) (y7 : Int64) (y9 : Int32) (r_t_weight : Nat → Int64) : Option ((Nat → Int64)) :=
  if y6 ≤ y9 then
    ckI (f_X3_place y3 y4) 24 <|
    k11 y3 (y4 + (1 : Int32)) (vp_updL r_t_weight (Int32.toNatClampNeg (f_X3_place y3 y4)) y7)
  else
    if y5 ≤ y9 then
      k56 y3 y4 y5 y6 (y7 * (10 : Int64)) (y9 + (1 : Int32)) r_t_weight
    else
      k56 y3 y4 y5 y6 (y7 * (Int32.toInt64 x2)) (y9 + (1 : Int32)) r_t_weight
def f_X3_weighOdds_B11 (x2 : Int32) (v_p1_marks : Int32) (r_p1_knownEvent : Nat → Int32) (r_p1_kind : Nat → Int32) (r_p1_markInspector : Nat → Int32) (r_p1_markDay : Nat → Int32) (r_p1_markEvents : Nat → Int32) (r_p1_markValue : Nat → Int32) (r_p1_markTrips : Nat → Int32) (k2 : Int32 → (Nat → Int64) → Option ((Nat → Int64))) (k11 : Int32 → Int32 → (Nat → Int64) → Option ((Nat → Int64))) (y3 : Int32) (y4 : Int32) (r_t_weight : Nat → Int64) : Option ((Nat → Int64)) :=
  if (4 : Int32) ≤ y4 then
    k2 (y3 + (1 : Int32)) r_t_weight
  else
    bd1 (f_X0_missed y3 y4 v_p1_marks r_p1_kind r_p1_markInspector r_p1_markDay r_p1_markEvents r_p1_markValue r_p1_markTrips) fun z3 =>
    bd1 (f_X0_marksOf y3 v_p1_marks r_p1_markDay) fun z5 =>
    bd1 (f_X0_allows y3 y4 r_p1_knownEvent) fun z7 =>
    if z7 = 0 then
      lq7 (f_X3_weighOdds_B56 x2 k2 k11) FU y3 y4 (f_J6_bitCount_0f7a4 z3) z5 (0 : Int64) (0 : Int32) r_t_weight
    else
      lq7 (f_X3_weighOdds_B56 x2 k2 k11) FU y3 y4 (f_J6_bitCount_0f7a4 z3) z5 (1 : Int64) (0 : Int32) r_t_weight
def f_X3_weighOdds_B2 (x2 : Int32) (v_p1_marks : Int32) (r_p1_knownEvent : Nat → Int32) (r_p1_kind : Nat → Int32) (r_p1_markInspector : Nat → Int32) (r_p1_markDay : Nat → Int32) (r_p1_markEvents : Nat → Int32) (r_p1_markValue : Nat → Int32) (r_p1_markTrips : Nat → Int32) (k2 : Int32 → (Nat → Int64) → Option ((Nat → Int64))) (y3 : Int32) (r_t_weight : Nat → Int64) : Option ((Nat → Int64)) :=
  if (6 : Int32) ≤ y3 then
    some r_t_weight
  else
    lq3 (f_X3_weighOdds_B11 x2 v_p1_marks r_p1_knownEvent r_p1_kind r_p1_markInspector r_p1_markDay r_p1_markEvents r_p1_markValue r_p1_markTrips k2) FU y3 (0 : Int32) r_t_weight
def f_X3_weighOdds (x2 : Int32) (r_t_weight : Nat → Int64) (v_p1_marks : Int32) (r_p1_knownEvent : Nat → Int32) (r_p1_kind : Nat → Int32) (r_p1_markInspector : Nat → Int32) (r_p1_markDay : Nat → Int32) (r_p1_markEvents : Nat → Int32) (r_p1_markValue : Nat → Int32) (r_p1_markTrips : Nat → Int32) : Option ((Nat → Int64)) :=
  lq2 (f_X3_weighOdds_B2 x2 v_p1_marks r_p1_knownEvent r_p1_kind r_p1_markInspector r_p1_markDay r_p1_markEvents r_p1_markValue r_p1_markTrips ) FU (0 : Int32) r_t_weight
def f_X3_weighMissed_B10 (v_p1_marks : Int32) (r_p1_knownEvent : Nat → Int32) (r_p1_kind : Nat → Int32) (r_p1_markInspector : Nat → Int32) (r_p1_markDay : Nat → Int32) (r_p1_markEvents : Nat → Int32) (r_p1_markValue : Nat → Int32) (r_p1_markTrips : Nat → Int32) (k2 : Int32 → (Nat → Int64) → Option ((Nat → Int64))) (k10 : Int32 → Int32 → (Nat → Int64) → Option ((Nat → Int64))) (y2 : Int32) (y3 : Int32) (r_t_weight : Nat → Int64) : Option ((Nat → Int64)) :=
  if (4 : Int32) ≤ y3 then
    k2 (y2 + (1 : Int32)) r_t_weight
  else
    bd1 (f_X0_missed y2 y3 v_p1_marks r_p1_kind r_p1_markInspector r_p1_markDay r_p1_markEvents r_p1_markValue r_p1_markTrips) fun z3 =>
    bd1 (f_X0_allows y2 y3 r_p1_knownEvent) fun z5 =>
    if z5 = 0 then
      ckI (f_X3_place y2 y3) 24 <|
      k10 y2 (y3 + (1 : Int32)) (vp_updL r_t_weight (Int32.toNatClampNeg (f_X3_place y2 y3)) (1048576 : Int64))
    else
      ckI (f_X3_place y2 y3) 24 <|
      k10 y2 (y3 + (1 : Int32)) (vp_updL r_t_weight (Int32.toNatClampNeg (f_X3_place y2 y3)) (((256 : Int64) * (Int32.toInt64 (f_J6_bitCount_0f7a4 z3))) + (Int32.toInt64 z3)))
def f_X3_weighMissed_B2 (v_p1_marks : Int32) (r_p1_knownEvent : Nat → Int32) (r_p1_kind : Nat → Int32) (r_p1_markInspector : Nat → Int32) (r_p1_markDay : Nat → Int32) (r_p1_markEvents : Nat → Int32) (r_p1_markValue : Nat → Int32) (r_p1_markTrips : Nat → Int32) (k2 : Int32 → (Nat → Int64) → Option ((Nat → Int64))) (y2 : Int32) (r_t_weight : Nat → Int64) : Option ((Nat → Int64)) :=
  if (6 : Int32) ≤ y2 then
    some r_t_weight
  else
    lq3 (f_X3_weighMissed_B10 v_p1_marks r_p1_knownEvent r_p1_kind r_p1_markInspector r_p1_markDay r_p1_markEvents r_p1_markValue r_p1_markTrips k2) FU y2 (0 : Int32) r_t_weight
def f_X3_weighMissed (r_t_weight : Nat → Int64) (v_p1_marks : Int32) (r_p1_knownEvent : Nat → Int32) (r_p1_kind : Nat → Int32) (r_p1_markInspector : Nat → Int32) (r_p1_markDay : Nat → Int32) (r_p1_markEvents : Nat → Int32) (r_p1_markValue : Nat → Int32) (r_p1_markTrips : Nat → Int32) : Option ((Nat → Int64)) :=
  lq2 (f_X3_weighMissed_B2 v_p1_marks r_p1_knownEvent r_p1_kind r_p1_markInspector r_p1_markDay r_p1_markEvents r_p1_markValue r_p1_markTrips ) FU (0 : Int32) r_t_weight
def f_X3_sumBefore_B6 (x2 : Int32) (x3 : Int32) (r_t_upTo : Nat → Int64) (v_p1_laws : Int32) (k6 : Int64 → Int32 → Option (Int64)) (y4 : Int64) (y6 : Int32) : Option (Int64) :=
  if (4 : Int32) ≤ y6 then
    some y4
  else
    if (f_X0_isLaw y6 x3 v_p1_laws) = 0 then
      ckI (f_X3_place (x2 - (1 : Int32)) y6) 24 <|
      k6 (y4 + (r_t_upTo (Int32.toNatClampNeg (f_X3_place (x2 - (1 : Int32)) y6)))) (y6 + (1 : Int32))
    else
      k6 y4 (y6 + (1 : Int32))
def f_X3_sumBefore (x2 : Int32) (x3 : Int32) (r_t_upTo : Nat → Int64) (v_p1_laws : Int32) : Option (Int64) :=
  lq2 (f_X3_sumBefore_B6 x2 x3 r_t_upTo v_p1_laws ) FU (0 : Int64) (0 : Int32)
def f_X3_sumBehind_B6 (x2 : Int32) (x3 : Int32) (r_t_weight : Nat → Int64) (r_t_behind : Nat → Int64) (v_p1_laws : Int32) (k6 : Int64 → Int32 → Option (Int64)) (y4 : Int64) (y6 : Int32) : Option (Int64) :=
  if (4 : Int32) ≤ y6 then
    some y4
  else
    if (f_X0_isLaw x3 y6 v_p1_laws) = 0 then
      ckI (f_X3_place (x2 + (1 : Int32)) y6) 24 <|
      k6 (y4 + ((r_t_weight (Int32.toNatClampNeg (f_X3_place (x2 + (1 : Int32)) y6))) * (r_t_behind (Int32.toNatClampNeg (f_X3_place (x2 + (1 : Int32)) y6))))) (y6 + (1 : Int32))
    else
      k6 y4 (y6 + (1 : Int32))
def f_X3_sumBehind (x2 : Int32) (x3 : Int32) (r_t_weight : Nat → Int64) (r_t_behind : Nat → Int64) (v_p1_laws : Int32) : Option (Int64) :=
  lq2 (f_X3_sumBehind_B6 x2 x3 r_t_weight r_t_behind v_p1_laws ) FU (0 : Int64) (0 : Int32)
def f_X3_sum_B107 (r_t_weight : Nat → Int64) (v_p1_laws : Int32) (k101 : Int32 → (Nat → Int64) → (Nat → Int64) → Option ((Nat → Int64) × (Nat → Int64))) (k107 : Int32 → Int32 → (Nat → Int64) → (Nat → Int64) → Option ((Nat → Int64) × (Nat → Int64))) (y2 : Int32) (y3 : Int32) (r_t_upTo : Nat → Int64) (r_t_behind : Nat → Int64) : Option ((Nat → Int64) × (Nat → Int64)) :=
  if (4 : Int32) ≤ y3 then
    k101 (y2 + (-1 : Int32)) r_t_upTo r_t_behind
  else
    bd1 (f_X3_sumBehind y2 y3 r_t_weight r_t_behind v_p1_laws) fun z5 =>
    ckI (f_X3_place y2 y3) 24 <|
    k107 y2 (y3 + (1 : Int32)) r_t_upTo (vp_updL r_t_behind (Int32.toNatClampNeg (f_X3_place y2 y3)) z5)
def f_X3_sum_B101 (r_t_weight : Nat → Int64) (v_p1_laws : Int32) (k101 : Int32 → (Nat → Int64) → (Nat → Int64) → Option ((Nat → Int64) × (Nat → Int64))) (y2 : Int32) (r_t_upTo : Nat → Int64) (r_t_behind : Nat → Int64) : Option ((Nat → Int64) × (Nat → Int64)) :=
  if y2 < 0 then
    some (r_t_upTo, r_t_behind)
  else
    lq4 (f_X3_sum_B107 r_t_weight v_p1_laws k101) FU y2 (0 : Int32) r_t_upTo r_t_behind
def f_X3_sum_B54 (r_t_weight : Nat → Int64) (v_p1_laws : Int32) (k46 : Int32 → (Nat → Int64) → (Nat → Int64) → Option ((Nat → Int64) × (Nat → Int64))) (k54 : Int32 → Int32 → (Nat → Int64) → (Nat → Int64) → Option ((Nat → Int64) × (Nat → Int64))) (y2 : Int32) (y3 : Int32) (r_t_upTo : Nat → Int64) (r_t_behind : Nat → Int64) : Option ((Nat → Int64) × (Nat → Int64)) :=
  if (4 : Int32) ≤ y3 then
    k46 (y2 + (1 : Int32)) r_t_upTo r_t_behind
  else
    ckI (f_X3_place y2 y3) 24 <|
    bd1 (f_X3_sumBefore y2 y3 r_t_upTo v_p1_laws) fun z10 =>
    k54 y2 (y3 + (1 : Int32)) (vp_updL r_t_upTo (Int32.toNatClampNeg (f_X3_place y2 y3)) ((r_t_weight (Int32.toNatClampNeg (f_X3_place y2 y3))) * z10)) r_t_behind
def f_X3_sum_B46 (r_t_weight : Nat → Int64) (v_p1_laws : Int32) (k46 : Int32 → (Nat → Int64) → (Nat → Int64) → Option ((Nat → Int64) × (Nat → Int64))) (y2 : Int32) (r_t_upTo : Nat → Int64) (r_t_behind : Nat → Int64) : Option ((Nat → Int64) × (Nat → Int64)) :=
  if (6 : Int32) ≤ y2 then
    lq3 (f_X3_sum_B101 r_t_weight v_p1_laws ) FU (4 : Int32) r_t_upTo r_t_behind
  else
    lq4 (f_X3_sum_B54 r_t_weight v_p1_laws k46) FU y2 (0 : Int32) r_t_upTo r_t_behind
def f_X3_sum_B2 (r_t_weight : Nat → Int64) (v_p1_laws : Int32) (k2 : Int32 → (Nat → Int64) → (Nat → Int64) → Option ((Nat → Int64) × (Nat → Int64))) (y2 : Int32) (r_t_upTo : Nat → Int64) (r_t_behind : Nat → Int64) : Option ((Nat → Int64) × (Nat → Int64)) :=
  if (4 : Int32) ≤ y2 then
    lq3 (f_X3_sum_B46 r_t_weight v_p1_laws ) FU (1 : Int32) r_t_upTo r_t_behind
  else
    ckI (f_X3_place (0 : Int32) y2) 24 <|
    ckI (f_X3_place (5 : Int32) y2) 24 <|
    k2 (y2 + (1 : Int32)) (vp_updL r_t_upTo (Int32.toNatClampNeg (f_X3_place (0 : Int32) y2)) (r_t_weight (Int32.toNatClampNeg (f_X3_place (0 : Int32) y2)))) (vp_updL r_t_behind (Int32.toNatClampNeg (f_X3_place (5 : Int32) y2)) (1 : Int64))
def f_X3_sum (r_t_weight : Nat → Int64) (r_t_upTo : Nat → Int64) (r_t_behind : Nat → Int64) (v_p1_laws : Int32) : Option ((Nat → Int64) × (Nat → Int64)) :=
  lq3 (f_X3_sum_B2 r_t_weight v_p1_laws ) FU (0 : Int32) r_t_upTo r_t_behind
def f_X3_all_B4 (r_t_upTo : Nat → Int64) (k4 : Int64 → Int32 → Option (Int64)) (y1 : Int64) (y3 : Int32) : Option (Int64) :=
  if (4 : Int32) ≤ y3 then
    some y1
  else
    ckI (f_X3_place (5 : Int32) y3) 24 <|
    k4 (y1 + (r_t_upTo (Int32.toNatClampNeg (f_X3_place (5 : Int32) y3)))) (y3 + (1 : Int32))
def f_X3_all (r_t_upTo : Nat → Int64) : Option (Int64) :=
  lq2 (f_X3_all_B4 r_t_upTo ) FU (0 : Int64) (0 : Int32)
def f_X3_having (x1 : Int32) (x2 : Int32) (r_t_upTo : Nat → Int64) (r_t_behind : Nat → Int64) : Option (Int64) :=
  ckI (f_X3_place x1 x2) 24 <|
  some ((r_t_upTo (Int32.toNatClampNeg (f_X3_place x1 x2))) * (r_t_behind (Int32.toNatClampNeg (f_X3_place x1 x2))))
def f_X3_eventsOn_B4 (x1 : Int32) (r_t_upTo : Nat → Int64) (r_t_behind : Nat → Int64) (k4 : Int32 → Int32 → Option (Int32)) (y2 : Int32) (y3 : Int32) : Option (Int32) :=
  if (4 : Int32) ≤ y3 then
    some y2
  else
    bd1 (f_X3_having x1 y3 r_t_upTo r_t_behind) fun z2 =>
    if (lg_cmp z2 (0 : Int64)) ≤ 0 then
      k4 y2 (y3 + (1 : Int32))
    else
      k4 (y2 ||| ((1 : Int32) <<< (y3 &&& 31))) (y3 + (1 : Int32))
def f_X3_eventsOn (x1 : Int32) (r_t_upTo : Nat → Int64) (r_t_behind : Nat → Int64) : Option (Int32) :=
  lq2 (f_X3_eventsOn_B4 x1 r_t_upTo r_t_behind ) FU (0 : Int32) (0 : Int32)
def f_X3_goesOn_J24 (x2 : Int32) (x4 : Int32) (r_t_weight : Nat → Int64)  (s0 : Int32) : Option (Int32) :=
  if s0 = 0 then
    some (0 : Int32)
  else
    ckI (f_X3_place x2 x4) 24 <|
    if (lg_cmp (r_t_weight (Int32.toNatClampNeg (f_X3_place x2 x4))) (0 : Int64)) ≤ 0 then
      some (0 : Int32)
    else
      some (1 : Int32)
def f_X3_goesOn (x2 : Int32) (x3 : Int32) (x4 : Int32) (r_t_weight : Nat → Int64) (v_p1_laws : Int32) : Option (Int32) :=
  if x2 = 0 then
    f_X3_goesOn_J24 x2 x4 r_t_weight  (1 : Int32)
  else
    if x3 = (-1 : Int32) then
      f_X3_goesOn_J24 x2 x4 r_t_weight  (1 : Int32)
    else
      if (f_X0_isLaw x3 x4 v_p1_laws) = 0 then
        f_X3_goesOn_J24 x2 x4 r_t_weight  (1 : Int32)
      else
        f_X3_goesOn_J24 x2 x4 r_t_weight  (0 : Int32)
def f_X3_leastBefore_B8 (x2 : Int32) (x3 : Int32) (r_t_upTo : Nat → Int64) (v_p1_laws : Int32) (k8 : Int64 → Int32 → Option (Int64)) (y4 : Int64) (y6 : Int32) : Option (Int64) :=
  if (4 : Int32) ≤ y6 then
    some y4
  else
    if (f_X0_isLaw y6 x3 v_p1_laws) = 0 then
      ckI (f_X3_place (x2 - (1 : Int32)) y6) 24 <|
      k8 (if (r_t_upTo (Int32.toNatClampNeg (f_X3_place (x2 - (1 : Int32)) y6))) < y4 then (r_t_upTo (Int32.toNatClampNeg (f_X3_place (x2 - (1 : Int32)) y6))) else y4) (y6 + (1 : Int32))
    else
      k8 y4 (y6 + (1 : Int32))
def f_X3_leastBefore (x2 : Int32) (x3 : Int32) (r_t_upTo : Nat → Int64) (v_p1_laws : Int32) : Option (Int64) :=
  lq2 (f_X3_leastBefore_B8 x2 x3 r_t_upTo v_p1_laws ) FU (1048576 : Int64) (0 : Int32)
def f_X3_leastSum_B95  (k95 : Int64 → Int32 → (Nat → Int64) → Option (Int64 × (Nat → Int64))) (y2 : Int64) (y4 : Int32) (r_t_upTo : Nat → Int64) : Option (Int64 × (Nat → Int64)) :=
  if (4 : Int32) ≤ y4 then
    some (y2, r_t_upTo)
  else
    ckI (f_X3_place (5 : Int32) y4) 24 <|
    k95 (if (r_t_upTo (Int32.toNatClampNeg (f_X3_place (5 : Int32) y4))) < y2 then (r_t_upTo (Int32.toNatClampNeg (f_X3_place (5 : Int32) y4))) else y2) (y4 + (1 : Int32)) r_t_upTo
def f_X3_leastSum_B43 (r_t_weight : Nat → Int64) (v_p1_laws : Int32) (k35 : Int32 → (Nat → Int64) → Option (Int64 × (Nat → Int64))) (k43 : Int32 → Int32 → (Nat → Int64) → Option (Int64 × (Nat → Int64))) (y2 : Int32) (y3 : Int32) (r_t_upTo : Nat → Int64) : Option (Int64 × (Nat → Int64)) :=
  if (4 : Int32) ≤ y3 then
    k35 (y2 + (1 : Int32)) r_t_upTo
  else
    ckI (f_X3_place y2 y3) 24 <|
    bd1 (f_X3_leastBefore y2 y3 r_t_upTo v_p1_laws) fun z7 =>
    k43 y2 (y3 + (1 : Int32)) (vp_updL r_t_upTo (Int32.toNatClampNeg (f_X3_place y2 y3)) ((r_t_weight (Int32.toNatClampNeg (f_X3_place y2 y3))) + z7))
def f_X3_leastSum_B35 (r_t_weight : Nat → Int64) (v_p1_laws : Int32) (k35 : Int32 → (Nat → Int64) → Option (Int64 × (Nat → Int64))) (y2 : Int32) (r_t_upTo : Nat → Int64) : Option (Int64 × (Nat → Int64)) :=
  if (6 : Int32) ≤ y2 then
    lq3 (f_X3_leastSum_B95  ) FU (1048576 : Int64) (0 : Int32) r_t_upTo
  else
    lq3 (f_X3_leastSum_B43 r_t_weight v_p1_laws k35) FU y2 (0 : Int32) r_t_upTo
def f_X3_leastSum_B2 (r_t_weight : Nat → Int64) (v_p1_laws : Int32) (k2 : Int32 → (Nat → Int64) → Option (Int64 × (Nat → Int64))) (y2 : Int32) (r_t_upTo : Nat → Int64) : Option (Int64 × (Nat → Int64)) :=
  if (4 : Int32) ≤ y2 then
    lq2 (f_X3_leastSum_B35 r_t_weight v_p1_laws ) FU (1 : Int32) r_t_upTo
  else
    ckI (f_X3_place (0 : Int32) y2) 24 <|
    k2 (y2 + (1 : Int32)) (vp_updL r_t_upTo (Int32.toNatClampNeg (f_X3_place (0 : Int32) y2)) (r_t_weight (Int32.toNatClampNeg (f_X3_place (0 : Int32) y2))))
def f_X3_leastSum (r_t_weight : Nat → Int64) (r_t_upTo : Nat → Int64) (v_p1_laws : Int32) : Option (Int64 × (Nat → Int64)) :=
  lq2 (f_X3_leastSum_B2 r_t_weight v_p1_laws ) FU (0 : Int32) r_t_upTo
def f_X4_office (v_t_now_laws : Int32) (v_t_now_inspectors : Int32) (v_t_now_marks : Int32) (v_t_now_undos : Int32) (r_t_now_knownEvent : Nat → Int32) : Option (Int32 × Int32 × Int32 × Int32 × Int32 × (Nat → Int32)) :=
  bd5 (f_X0_reset v_t_now_laws v_t_now_inspectors v_t_now_marks v_t_now_undos r_t_now_knownEvent) fun u1 u2 u3 u4 u5 =>
  some (v_t_now_inspectors, u1, u2, u3, u4, u5)
def f_X4_isEvent (x0 : Int32) : Int32 :=
  if x0 < 0 then
    (0 : Int32)
  else
    if (4 : Int32) ≤ x0 then
      (0 : Int32)
    else
      (1 : Int32)
theorem nb_X4_isEvent (x0 : Int32) : f_X4_isEvent x0 &&& 1 = f_X4_isEvent x0 := by
  simp only [f_X4_isEvent]
  (repeat' split) <;> first | rfl | decide
def f_X4_refuseBad (v_t_refusedBad : Int32) : Option (Int32 × Int32) :=
  some ((-2 : Int32), (v_t_refusedBad + (1 : Int32)))
def f_X4_never_J14   (v_t_refusedBad : Int32) (v_t_now_laws : Int32) (v_t_now_undos : Int32) : Option (Int32 × Int32 × Int32 × Int32) :=
  bd2 (f_X4_refuseBad v_t_refusedBad) fun z2 u3 =>
  some (z2, u3, v_t_now_laws, v_t_now_undos)
def f_X4_never (x1 : Int32) (x2 : Int32) (v_t_refusedBad : Int32) (v_t_now_laws : Int32) (v_t_now_undos : Int32) : Option (Int32 × Int32 × Int32 × Int32) :=
  if (f_X4_isEvent x1) = 0 then
    f_X4_never_J14   v_t_refusedBad v_t_now_laws v_t_now_undos
  else
    if (f_X4_isEvent x2) = 0 then
      f_X4_never_J14   v_t_refusedBad v_t_now_laws v_t_now_undos
    else
      bd1 (f_X0_addLaw x1 x2 v_t_now_laws) fun u6 =>
      some ((f_J6_bitCount_0f7a4 u6), v_t_refusedBad, u6, (0 : Int32))
def f_X4_refuseFull (v_t_refusedFull : Int32) : Option (Int32 × Int32) :=
  some ((-4 : Int32), (v_t_refusedFull + (1 : Int32)))
def f_X4_one_J20   (v_t_refusedBad : Int32) (v_t_refusedFull : Int32) (v_t_now_inspectors : Int32) (v_t_now_undos : Int32) (r_t_now_kind : Nat → Int32) (r_t_now_trips : Nat → Int32) : Option (Int32 × Int32 × Int32 × Int32 × Int32 × (Nat → Int32) × (Nat → Int32)) :=
  bd2 (f_X4_refuseBad v_t_refusedBad) fun z2 u3 =>
  some (z2, u3, v_t_refusedFull, v_t_now_inspectors, v_t_now_undos, r_t_now_kind, r_t_now_trips)
def f_X4_one (x1 : Int32) (x2 : Int32) (v_t_refusedBad : Int32) (v_t_refusedFull : Int32) (v_t_now_inspectors : Int32) (v_t_now_undos : Int32) (r_t_now_kind : Nat → Int32) (r_t_now_trips : Nat → Int32) : Option (Int32 × Int32 × Int32 × Int32 × Int32 × (Nat → Int32) × (Nat → Int32)) :=
  if x1 < 0 then
    f_X4_one_J20   v_t_refusedBad v_t_refusedFull v_t_now_inspectors v_t_now_undos r_t_now_kind r_t_now_trips
  else
    if (6 : Int32) ≤ x1 then
      f_X4_one_J20   v_t_refusedBad v_t_refusedFull v_t_now_inspectors v_t_now_undos r_t_now_kind r_t_now_trips
    else
      if x2 < 0 then
        f_X4_one_J20   v_t_refusedBad v_t_refusedFull v_t_now_inspectors v_t_now_undos r_t_now_kind r_t_now_trips
      else
        if x2 < (10 : Int32) then
          if v_t_now_inspectors < (4 : Int32) then
            bd3 (f_X0_addInspector x1 x2 v_t_now_inspectors r_t_now_kind r_t_now_trips) fun u9 u10 u11 =>
            some ((u9 - (1 : Int32)), v_t_refusedBad, v_t_refusedFull, u9, (0 : Int32), u10, u11)
          else
            bd2 (f_X4_refuseFull v_t_refusedFull) fun z13 u14 =>
            some (z13, v_t_refusedBad, u14, v_t_now_inspectors, v_t_now_undos, r_t_now_kind, r_t_now_trips)
        else
          f_X4_one_J20   v_t_refusedBad v_t_refusedFull v_t_now_inspectors v_t_now_undos r_t_now_kind r_t_now_trips
def f_X4_type_J10   (v_t_refusedBad : Int32) (v_t_refusedFull : Int32) (v_t_text_length : Int32) (r_t_text_bytes : Nat → Int32) : Option (Int32 × Int32 × Int32 × Int32 × (Nat → Int32)) :=
  bd2 (f_X4_refuseBad v_t_refusedBad) fun z2 u3 =>
  some (z2, u3, v_t_refusedFull, v_t_text_length, r_t_text_bytes)
def f_X4_type (x1 : Int32) (v_t_refusedBad : Int32) (v_t_refusedFull : Int32) (v_t_text_length : Int32) (r_t_text_bytes : Nat → Int32) : Option (Int32 × Int32 × Int32 × Int32 × (Nat → Int32)) :=
  if x1 < 0 then
    f_X4_type_J10   v_t_refusedBad v_t_refusedFull v_t_text_length r_t_text_bytes
  else
    if x1 ≤ (127 : Int32) then
      if v_t_text_length < (150 : Int32) then
        bd2 (f_X2_append x1 v_t_text_length r_t_text_bytes) fun u7 u8 =>
        some (u7, v_t_refusedBad, v_t_refusedFull, u7, u8)
      else
        bd2 (f_X4_refuseFull v_t_refusedFull) fun z10 u11 =>
        some (z10, v_t_refusedBad, u11, v_t_text_length, r_t_text_bytes)
    else
      f_X4_type_J10   v_t_refusedBad v_t_refusedFull v_t_text_length r_t_text_bytes
def f_X4_clear (v_t_text_length : Int32) : Option (Int32 × Int32) :=
  some (v_t_text_length, (0 : Int32))
def f_X4_isInspector (x1 : Int32) (v_t_now_inspectors : Int32) : Int32 :=
  if x1 < 0 then
    (0 : Int32)
  else
    if v_t_now_inspectors ≤ x1 then
      (0 : Int32)
    else
      if (4 : Int32) ≤ x1 then
        (0 : Int32)
      else
        (1 : Int32)
theorem nb_X4_isInspector (x1 : Int32) (v_t_now_inspectors : Int32) : f_X4_isInspector x1 v_t_now_inspectors &&& 1 = f_X4_isInspector x1 v_t_now_inspectors := by
  simp only [f_X4_isInspector]
  (repeat' split) <;> first | rfl | decide
def f_X4_isAsked (x1 : Int32) (x2 : Int32) (x3 : Int32) (x4 : Int32) (v_t_now_inspectors : Int32) : Int32 :=
  if (f_X4_isInspector x1 v_t_now_inspectors) = 0 then
    (0 : Int32)
  else
    if (f_X4_isDay x2) = 0 then
      (0 : Int32)
    else
      if x3 < (1 : Int32) then
        (0 : Int32)
      else
        if (15 : Int32) ≤ x3 then
          (0 : Int32)
        else
          if x4 < 0 then
            (0 : Int32)
          else
            if (3 : Int32) ≤ x4 then
              (0 : Int32)
            else
              (1 : Int32)
theorem nb_X4_isAsked (x1 : Int32) (x2 : Int32) (x3 : Int32) (x4 : Int32) (v_t_now_inspectors : Int32) : f_X4_isAsked x1 x2 x3 x4 v_t_now_inspectors &&& 1 = f_X4_isAsked x1 x2 x3 x4 v_t_now_inspectors := by
  simp only [f_X4_isAsked]
  (repeat' split) <;> first | rfl | decide | exact nb_X4_isInspector _ _ | exact nb_X4_isDay _
def f_X4_mark (x1 : Int32) (x2 : Int32) (x3 : Int32) (x4 : Int32) (v_t_refusedBad : Int32) (v_t_refusedFull : Int32) (v_t_now_inspectors : Int32) (v_t_now_marks : Int32) (v_t_now_undos : Int32) (r_t_now_trips : Nat → Int32) (r_t_now_markInspector : Nat → Int32) (r_t_now_markDay : Nat → Int32) (r_t_now_markEvents : Nat → Int32) (r_t_now_markValue : Nat → Int32) (r_t_now_markTrips : Nat → Int32) (r_t_now_undoDay : Nat → Int32) (r_t_now_undoEvent : Nat → Int32) : Option (Int32 × Int32 × Int32 × Int32 × Int32 × (Nat → Int32) × (Nat → Int32) × (Nat → Int32) × (Nat → Int32) × (Nat → Int32) × (Nat → Int32) × (Nat → Int32) × (Nat → Int32)) :=
  if (f_X4_isAsked x1 x2 x3 x4 v_t_now_inspectors) = 0 then
    bd2 (f_X4_refuseBad v_t_refusedBad) fun z17 u18 =>
    some (z17, u18, v_t_refusedFull, v_t_now_marks, v_t_now_undos, r_t_now_trips, r_t_now_markInspector, r_t_now_markDay, r_t_now_markEvents, r_t_now_markValue, r_t_now_markTrips, r_t_now_undoDay, r_t_now_undoEvent)
  else
    if v_t_now_marks < (8 : Int32) then
      bd10 (f_X0_addMark x1 x2 x3 x4 v_t_now_marks v_t_now_undos r_t_now_trips r_t_now_markInspector r_t_now_markDay r_t_now_markEvents r_t_now_markValue r_t_now_markTrips r_t_now_undoDay r_t_now_undoEvent) fun u3 u4 u5 u6 u7 u8 u9 u10 u11 u12 =>
      some (u3, v_t_refusedBad, v_t_refusedFull, u3, u4, u5, u6, u7, u8, u9, u10, u11, u12)
    else
      bd2 (f_X4_refuseFull v_t_refusedFull) fun z14 u15 =>
      some (z14, v_t_refusedBad, u15, v_t_now_marks, v_t_now_undos, r_t_now_trips, r_t_now_markInspector, r_t_now_markDay, r_t_now_markEvents, r_t_now_markValue, r_t_now_markTrips, r_t_now_undoDay, r_t_now_undoEvent)
def f_X4_known_J19   (v_t_refusedBad : Int32) (v_t_now_undos : Int32) (r_t_now_knownEvent : Nat → Int32) (r_t_now_undoDay : Nat → Int32) (r_t_now_undoEvent : Nat → Int32) : Option (Int32 × Int32 × Int32 × (Nat → Int32) × (Nat → Int32) × (Nat → Int32)) :=
  bd2 (f_X4_refuseBad v_t_refusedBad) fun z2 u3 =>
  some ((-10 : Int32), u3, v_t_now_undos, r_t_now_knownEvent, r_t_now_undoDay, r_t_now_undoEvent)
def f_X4_known_J27 (x1 : Int32) (x2 : Int32)  (v_t_refusedBad : Int32) (v_t_now_undos : Int32) (r_t_now_knownEvent : Nat → Int32) (r_t_now_undoDay : Nat → Int32) (r_t_now_undoEvent : Nat → Int32) : Option (Int32 × Int32 × Int32 × (Nat → Int32) × (Nat → Int32) × (Nat → Int32)) :=
  ckI x1 6 <|
  bd4 (f_X0_learn x1 x2 v_t_now_undos r_t_now_knownEvent r_t_now_undoDay r_t_now_undoEvent) fun u7 u8 u9 u10 =>
  some ((r_t_now_knownEvent (Int32.toNatClampNeg x1)), v_t_refusedBad, u7, u8, u9, u10)
def f_X4_known (x1 : Int32) (x2 : Int32) (v_t_refusedBad : Int32) (v_t_now_undos : Int32) (r_t_now_knownEvent : Nat → Int32) (r_t_now_undoDay : Nat → Int32) (r_t_now_undoEvent : Nat → Int32) : Option (Int32 × Int32 × Int32 × (Nat → Int32) × (Nat → Int32) × (Nat → Int32)) :=
  if (f_X4_isDay x1) = 0 then
    f_X4_known_J19   v_t_refusedBad v_t_now_undos r_t_now_knownEvent r_t_now_undoDay r_t_now_undoEvent
  else
    if x2 = (-1 : Int32) then
      f_X4_known_J27 x1 x2  v_t_refusedBad v_t_now_undos r_t_now_knownEvent r_t_now_undoDay r_t_now_undoEvent
    else
      if (f_X4_isEvent x2) = 0 then
        f_X4_known_J19   v_t_refusedBad v_t_now_undos r_t_now_knownEvent r_t_now_undoDay r_t_now_undoEvent
      else
        f_X4_known_J27 x1 x2  v_t_refusedBad v_t_now_undos r_t_now_knownEvent r_t_now_undoDay r_t_now_undoEvent
def f_X4_refuseNo (v_t_refusedNo : Int32) : Option (Int32 × Int32) :=
  some ((-3 : Int32), (v_t_refusedNo + (1 : Int32)))
def f_X4_undo (v_t_refusedNo : Int32) (v_t_now_marks : Int32) (v_t_now_undos : Int32) (r_t_now_knownEvent : Nat → Int32) (r_t_now_trips : Nat → Int32) (r_t_now_markInspector : Nat → Int32) (r_t_now_markTrips : Nat → Int32) (r_t_now_undoDay : Nat → Int32) (r_t_now_undoEvent : Nat → Int32) : Option (Int32 × Int32 × Int32 × Int32 × (Nat → Int32) × (Nat → Int32)) :=
  if 0 < v_t_now_undos then
    bd4 (f_X0_takeBack v_t_now_marks v_t_now_undos r_t_now_knownEvent r_t_now_trips r_t_now_markInspector r_t_now_markTrips r_t_now_undoDay r_t_now_undoEvent) fun u2 u3 u4 u5 =>
    some (u2, v_t_refusedNo, u2, u3, u4, u5)
  else
    bd2 (f_X4_refuseNo v_t_refusedNo) fun z7 u8 =>
    some (z7, u8, v_t_now_marks, v_t_now_undos, r_t_now_knownEvent, r_t_now_trips)
def f_X4_of_J17   (v_t_refusedBad : Int32) : Option (Int32 × Int32) :=
  bd2 (f_X4_refuseBad v_t_refusedBad) fun z2 u3 =>
  some (z2, u3)
def f_X4_of (x1 : Int32) (x2 : Int32) (v_t_refusedBad : Int32) (v_t_now_inspectors : Int32) (r_t_now_kind : Nat → Int32) (r_t_now_trips : Nat → Int32) : Option (Int32 × Int32) :=
  if (f_X4_isInspector x1 v_t_now_inspectors) = 0 then
    f_X4_of_J17   v_t_refusedBad
  else
    if x2 < 0 then
      f_X4_of_J17   v_t_refusedBad
    else
      if x2 ≤ (1 : Int32) then
        if x2 = 0 then
          ckI x1 4 <|
          some ((r_t_now_kind (Int32.toNatClampNeg x1)), v_t_refusedBad)
        else
          ckI x1 4 <|
          some ((r_t_now_trips (Int32.toNatClampNeg x1)), v_t_refusedBad)
      else
        f_X4_of_J17   v_t_refusedBad
def f_X4_sumFits (v_t_now_laws : Int32) (v_t_now_marks : Int32) (r_t_now_knownEvent : Nat → Int32) (r_t_now_kind : Nat → Int32) (r_t_now_markInspector : Nat → Int32) (r_t_now_markDay : Nat → Int32) (r_t_now_markEvents : Nat → Int32) (r_t_now_markValue : Nat → Int32) (r_t_now_markTrips : Nat → Int32) (r_t_ways_weight : Nat → Int64) (r_t_ways_upTo : Nat → Int64) (r_t_ways_behind : Nat → Int64) : Option ((Nat → Int64) × (Nat → Int64) × (Nat → Int64)) :=
  bd1 (f_X3_weighFits (0 : Int32) r_t_ways_weight v_t_now_marks r_t_now_knownEvent r_t_now_kind r_t_now_markInspector r_t_now_markDay r_t_now_markEvents r_t_now_markValue r_t_now_markTrips) fun u1 =>
  bd2 (f_X3_sum u1 r_t_ways_upTo r_t_ways_behind v_t_now_laws) fun u3 u4 =>
  some (u1, u3, u4)
def f_X4_worlds (v_t_now_laws : Int32) (v_t_now_marks : Int32) (r_t_now_knownEvent : Nat → Int32) (r_t_now_kind : Nat → Int32) (r_t_now_markInspector : Nat → Int32) (r_t_now_markDay : Nat → Int32) (r_t_now_markEvents : Nat → Int32) (r_t_now_markValue : Nat → Int32) (r_t_now_markTrips : Nat → Int32) (r_t_ways_weight : Nat → Int64) (r_t_ways_upTo : Nat → Int64) (r_t_ways_behind : Nat → Int64) : Option (Int32 × (Nat → Int64) × (Nat → Int64) × (Nat → Int64)) :=
  bd3 (f_X4_sumFits v_t_now_laws v_t_now_marks r_t_now_knownEvent r_t_now_kind r_t_now_markInspector r_t_now_markDay r_t_now_markEvents r_t_now_markValue r_t_now_markTrips r_t_ways_weight r_t_ways_upTo r_t_ways_behind) fun u1 u2 u3 =>
  bd1 (f_X3_all u2) fun z5 =>
  some ((Int64.toInt32 z5), u1, u2, u3)
def f_X4_may (x1 : Int32) (v_t_refusedBad : Int32) (v_t_now_laws : Int32) (v_t_now_marks : Int32) (r_t_now_knownEvent : Nat → Int32) (r_t_now_kind : Nat → Int32) (r_t_now_markInspector : Nat → Int32) (r_t_now_markDay : Nat → Int32) (r_t_now_markEvents : Nat → Int32) (r_t_now_markValue : Nat → Int32) (r_t_now_markTrips : Nat → Int32) (r_t_ways_weight : Nat → Int64) (r_t_ways_upTo : Nat → Int64) (r_t_ways_behind : Nat → Int64) : Option (Int32 × Int32 × (Nat → Int64) × (Nat → Int64) × (Nat → Int64)) :=
  if (f_X4_isDay x1) = 0 then
    bd2 (f_X4_refuseBad v_t_refusedBad) fun z8 u9 =>
    some (z8, u9, r_t_ways_weight, r_t_ways_upTo, r_t_ways_behind)
  else
    bd3 (f_X4_sumFits v_t_now_laws v_t_now_marks r_t_now_knownEvent r_t_now_kind r_t_now_markInspector r_t_now_markDay r_t_now_markEvents r_t_now_markValue r_t_now_markTrips r_t_ways_weight r_t_ways_upTo r_t_ways_behind) fun u2 u3 u4 =>
    bd1 (f_X3_eventsOn x1 u3 u4) fun z6 =>
    some (z6, v_t_refusedBad, u2, u3, u4)
def f_X4_commonDivisor_B9  (k9 : Int64 → Int64 → Int32 → Option (Int64)) (y4 : Int64) (y6 : Int64) (y8 : Int32) : Option (Int64) :=
  if (100 : Int32) ≤ y8 then
    some y4
  else
    if (lg_cmp y6 (0 : Int64)) = 0 then
      some y4
    else
      ckZ y6 <|
      k9 y6 (y4 - y4 / y6 * y6) (y8 + (1 : Int32))
def f_X4_commonDivisor (x0 : Int64) (x2 : Int64) : Option (Int64) :=
  lq3 (f_X4_commonDivisor_B9  ) FU x0 x2 (0 : Int32)
def f_X4_setFraction (x1 : Int64) (x3 : Int64) (v_t_above : Int64) (v_t_below : Int64) : Option (Int64 × Int64) :=
  bd1 (f_X4_commonDivisor x1 x3) fun z1 =>
  if (lg_cmp z1 (0 : Int64)) ≤ 0 then
    some (v_t_above, v_t_below)
  else
    ckZ z1 <|
    ckZ z1 <|
    some ((x1 / z1), (x3 / z1))
def f_X4_chance_J14   (v_t_above : Int64) (v_t_below : Int64) (v_t_refusedBad : Int32) (v_t_refusedNo : Int32) (r_t_ways_weight : Nat → Int64) (r_t_ways_upTo : Nat → Int64) (r_t_ways_behind : Nat → Int64) : Option (Int32 × Int64 × Int64 × Int32 × Int32 × (Nat → Int64) × (Nat → Int64) × (Nat → Int64)) :=
  bd2 (f_X4_refuseBad v_t_refusedBad) fun z2 u3 =>
  some (z2, v_t_above, v_t_below, u3, v_t_refusedNo, r_t_ways_weight, r_t_ways_upTo, r_t_ways_behind)
def f_X4_chance (x1 : Int32) (x2 : Int32) (v_t_above : Int64) (v_t_below : Int64) (v_t_refusedBad : Int32) (v_t_refusedNo : Int32) (v_t_now_laws : Int32) (v_t_now_marks : Int32) (r_t_now_knownEvent : Nat → Int32) (r_t_now_kind : Nat → Int32) (r_t_now_markInspector : Nat → Int32) (r_t_now_markDay : Nat → Int32) (r_t_now_markEvents : Nat → Int32) (r_t_now_markValue : Nat → Int32) (r_t_now_markTrips : Nat → Int32) (r_t_ways_weight : Nat → Int64) (r_t_ways_upTo : Nat → Int64) (r_t_ways_behind : Nat → Int64) : Option (Int32 × Int64 × Int64 × Int32 × Int32 × (Nat → Int64) × (Nat → Int64) × (Nat → Int64)) :=
  if (f_X4_isDay x1) = 0 then
    f_X4_chance_J14   v_t_above v_t_below v_t_refusedBad v_t_refusedNo r_t_ways_weight r_t_ways_upTo r_t_ways_behind
  else
    if (f_X4_isEvent x2) = 0 then
      f_X4_chance_J14   v_t_above v_t_below v_t_refusedBad v_t_refusedNo r_t_ways_weight r_t_ways_upTo r_t_ways_behind
    else
      bd3 (f_X4_sumFits v_t_now_laws v_t_now_marks r_t_now_knownEvent r_t_now_kind r_t_now_markInspector r_t_now_markDay r_t_now_markEvents r_t_now_markValue r_t_now_markTrips r_t_ways_weight r_t_ways_upTo r_t_ways_behind) fun u6 u7 u8 =>
      bd1 (f_X3_all u7) fun z10 =>
      if (lg_cmp z10 (0 : Int64)) = 0 then
        bd2 (f_X4_refuseNo v_t_refusedNo) fun z18 u19 =>
        some (z18, v_t_above, v_t_below, v_t_refusedBad, u19, u6, u7, u8)
      else
        bd1 (f_X3_having x1 x2 u7 u8) fun z13 =>
        bd2 (f_X4_setFraction z13 z10 v_t_above v_t_below) fun u15 u16 =>
        some ((1 : Int32), u15, u16, v_t_refusedBad, v_t_refusedNo, u6, u7, u8)
def f_X4_must_B23  (k23 : Int32 → Int32 → (Nat → Int64) → (Nat → Int64) → (Nat → Int64) → Option (Int32 × (Nat → Int64) × (Nat → Int64) × (Nat → Int64))) (y1 : Int32) (y2 : Int32) (r_t_ways_weight : Nat → Int64) (r_t_ways_upTo : Nat → Int64) (r_t_ways_behind : Nat → Int64) : Option (Int32 × (Nat → Int64) × (Nat → Int64) × (Nat → Int64)) :=
  if (6 : Int32) ≤ y2 then
    some (y1, r_t_ways_weight, r_t_ways_upTo, r_t_ways_behind)
  else
    bd1 (f_X3_eventsOn y2 r_t_ways_upTo r_t_ways_behind) fun z9 =>
    if (f_J6_bitCount_0f7a4 z9) = (1 : Int32) then
      k23 (y1 ||| ((1 : Int32) <<< (y2 &&& 31))) (y2 + (1 : Int32)) r_t_ways_weight r_t_ways_upTo r_t_ways_behind
    else
      k23 y1 (y2 + (1 : Int32)) r_t_ways_weight r_t_ways_upTo r_t_ways_behind
def f_X4_must (v_t_now_laws : Int32) (v_t_now_marks : Int32) (r_t_now_knownEvent : Nat → Int32) (r_t_now_kind : Nat → Int32) (r_t_now_markInspector : Nat → Int32) (r_t_now_markDay : Nat → Int32) (r_t_now_markEvents : Nat → Int32) (r_t_now_markValue : Nat → Int32) (r_t_now_markTrips : Nat → Int32) (r_t_ways_weight : Nat → Int64) (r_t_ways_upTo : Nat → Int64) (r_t_ways_behind : Nat → Int64) : Option (Int32 × (Nat → Int64) × (Nat → Int64) × (Nat → Int64)) :=
  bd3 (f_X4_sumFits v_t_now_laws v_t_now_marks r_t_now_knownEvent r_t_now_kind r_t_now_markInspector r_t_now_markDay r_t_now_markEvents r_t_now_markValue r_t_now_markTrips r_t_ways_weight r_t_ways_upTo r_t_ways_behind) fun u1 u2 u3 =>
  bd1 (f_X3_all u2) fun z5 =>
  if (lg_cmp z5 (0 : Int64)) = 0 then
    some ((63 : Int32), u1, u2, u3)
  else
    lq5 (f_X4_must_B23  ) FU (0 : Int32) (0 : Int32) u1 u2 u3
def f_X4_ruled (x1 : Int32) (v_t_refusedBad : Int32) (v_t_now_laws : Int32) (v_t_now_marks : Int32) (r_t_now_knownEvent : Nat → Int32) (r_t_now_kind : Nat → Int32) (r_t_now_markInspector : Nat → Int32) (r_t_now_markDay : Nat → Int32) (r_t_now_markEvents : Nat → Int32) (r_t_now_markValue : Nat → Int32) (r_t_now_markTrips : Nat → Int32) (r_t_ways_weight : Nat → Int64) (r_t_ways_upTo : Nat → Int64) (r_t_ways_behind : Nat → Int64) : Option (Int32 × Int32 × (Nat → Int64) × (Nat → Int64) × (Nat → Int64)) :=
  if (f_X4_isDay x1) = 0 then
    bd2 (f_X4_refuseBad v_t_refusedBad) fun z9 u10 =>
    some (z9, u10, r_t_ways_weight, r_t_ways_upTo, r_t_ways_behind)
  else
    bd1 (f_X3_weighFits (255 : Int32) r_t_ways_weight v_t_now_marks r_t_now_knownEvent r_t_now_kind r_t_now_markInspector r_t_now_markDay r_t_now_markEvents r_t_now_markValue r_t_now_markTrips) fun u2 =>
    bd2 (f_X3_sum u2 r_t_ways_upTo r_t_ways_behind v_t_now_laws) fun u4 u5 =>
    bd1 (f_X3_eventsOn x1 u4 u5) fun z7 =>
    some (((15 : Int32) &&& (z7 ^^^ (-1 : Int32))), v_t_refusedBad, u2, u4, u5)
def f_X4_gives_B27 (x1 : Int32) (x2 : Int32) (x3 : Int32) (x4 : Int32) (r_t_now_kind : Nat → Int32) (r_t_now_trips : Nat → Int32) (k27 : Int32 → Int32 → Int32 → (Nat → Int64) → (Nat → Int64) → (Nat → Int64) → Option (Int32 × Int32 × (Nat → Int64) × (Nat → Int64) × (Nat → Int64))) (y5 : Int32) (y6 : Int32) (v_t_refusedBad : Int32) (r_t_ways_weight : Nat → Int64) (r_t_ways_upTo : Nat → Int64) (r_t_ways_behind : Nat → Int64) : Option (Int32 × Int32 × (Nat → Int64) × (Nat → Int64) × (Nat → Int64)) :=
  if (4 : Int32) ≤ y6 then
    some (y5, v_t_refusedBad, r_t_ways_weight, r_t_ways_upTo, r_t_ways_behind)
  else
    ckI x1 4 <|
    if (f_X4_given (r_t_now_kind (Int32.toNatClampNeg x1)) (f_X4_truth x3 y6) x2 x3 (r_t_now_trips (Int32.toNatClampNeg x1))) = x4 then
      bd1 (f_X3_having x2 y6 r_t_ways_upTo r_t_ways_behind) fun z9 =>
      k27 (y5 + (Int64.toInt32 z9)) (y6 + (1 : Int32)) v_t_refusedBad r_t_ways_weight r_t_ways_upTo r_t_ways_behind
    else
      k27 y5 (y6 + (1 : Int32)) v_t_refusedBad r_t_ways_weight r_t_ways_upTo r_t_ways_behind
def f_X4_gives (x1 : Int32) (x2 : Int32) (x3 : Int32) (x4 : Int32) (v_t_refusedBad : Int32) (v_t_now_laws : Int32) (v_t_now_inspectors : Int32) (v_t_now_marks : Int32) (r_t_now_knownEvent : Nat → Int32) (r_t_now_kind : Nat → Int32) (r_t_now_trips : Nat → Int32) (r_t_now_markInspector : Nat → Int32) (r_t_now_markDay : Nat → Int32) (r_t_now_markEvents : Nat → Int32) (r_t_now_markValue : Nat → Int32) (r_t_now_markTrips : Nat → Int32) (r_t_ways_weight : Nat → Int64) (r_t_ways_upTo : Nat → Int64) (r_t_ways_behind : Nat → Int64) : Option (Int32 × Int32 × (Nat → Int64) × (Nat → Int64) × (Nat → Int64)) :=
  if (f_X4_isAsked x1 x2 x3 x4 v_t_now_inspectors) = 0 then
    bd2 (f_X4_refuseBad v_t_refusedBad) fun z11 u12 =>
    some (z11, u12, r_t_ways_weight, r_t_ways_upTo, r_t_ways_behind)
  else
    bd3 (f_X4_sumFits v_t_now_laws v_t_now_marks r_t_now_knownEvent r_t_now_kind r_t_now_markInspector r_t_now_markDay r_t_now_markEvents r_t_now_markValue r_t_now_markTrips r_t_ways_weight r_t_ways_upTo r_t_ways_behind) fun u2 u3 u4 =>
    lq6 (f_X4_gives_B27 x1 x2 x3 x4 r_t_now_kind r_t_now_trips ) FU (0 : Int32) (0 : Int32) v_t_refusedBad u2 u3 u4
def f_X4_tellsTruth (x0 : Int32) (x1 : Int32) (x2 : Int32) (x3 : Int32) : Int32 :=
  if (f_X4_given x0 (1 : Int32) x1 x2 x3) = (f_X4_given x0 (0 : Int32) x1 x2 x3) then
    (0 : Int32)
  else
    (1 : Int32)
theorem nb_X4_tellsTruth (x0 : Int32) (x1 : Int32) (x2 : Int32) (x3 : Int32) : f_X4_tellsTruth x0 x1 x2 x3 &&& 1 = f_X4_tellsTruth x0 x1 x2 x3 := by
  simp only [f_X4_tellsTruth]
  (repeat' split) <;> first | rfl | decide
def f_X4_mostAlike_B35 (x2 : Int32) (x3 : Int32) (x4 : Int64) (r_t_ways_upTo : Nat → Int64) (r_t_ways_behind : Nat → Int64) (k35 : Int64 → Int32 → Option (Int64)) (y6 : Int64) (y8 : Int32) : Option (Int64) :=
  if (4 : Int32) ≤ y8 then
    some (if (x4 - y6) < y6 then y6 else (x4 - y6))
  else
    if (f_X4_truth x3 y8) = (1 : Int32) then
      bd1 (f_X3_having x2 y8 r_t_ways_upTo r_t_ways_behind) fun z5 =>
      k35 (y6 + z5) (y8 + (1 : Int32))
    else
      k35 y6 (y8 + (1 : Int32))
def f_X4_mostAlike (x1 : Int32) (x2 : Int32) (x3 : Int32) (x4 : Int64) (r_t_now_kind : Nat → Int32) (r_t_now_trips : Nat → Int32) (r_t_ways_upTo : Nat → Int64) (r_t_ways_behind : Nat → Int64) : Option (Int64) :=
  ckI x1 4 <|
  if (f_X4_tellsTruth (r_t_now_kind (Int32.toNatClampNeg x1)) x2 x3 (r_t_now_trips (Int32.toNatClampNeg x1))) = 0 then
    some x4
  else
    lq2 (f_X4_mostAlike_B35 x2 x3 x4 r_t_ways_upTo r_t_ways_behind ) FU (0 : Int64) (0 : Int32)
def f_X4_next_B54 (x1 : Int32) (r_t_now_kind : Nat → Int32) (r_t_now_trips : Nat → Int32) (k44 : Int64 → Int32 → Int64 → Int32 → Int32 → (Nat → Int64) → (Nat → Int64) → (Nat → Int64) → Option (Int32 × Int32 × (Nat → Int64) × (Nat → Int64) × (Nat → Int64))) (k54 : Int64 → Int32 → Int64 → Int32 → Int32 → Int32 → (Nat → Int64) → (Nat → Int64) → (Nat → Int64) → Option (Int32 × Int32 × (Nat → Int64) × (Nat → Int64) × (Nat → Int64))) (y2 : Int64) (y4 : Int32) (y5 : Int64) (y7 : Int32) (y8 : Int32) (v_t_refusedBad : Int32) (r_t_ways_weight : Nat → Int64) (r_t_ways_upTo : Nat → Int64) (r_t_ways_behind : Nat → Int64) : Option (Int32 × Int32 × (Nat → Int64) × (Nat → Int64) × (Nat → Int64)) :=
  if (15 : Int32) ≤ y8 then
    k44 y2 y4 y5 (y7 + (1 : Int32)) v_t_refusedBad r_t_ways_weight r_t_ways_upTo r_t_ways_behind
  else
    bd1 (f_X4_mostAlike x1 y7 y8 y2 r_t_now_kind r_t_now_trips r_t_ways_upTo r_t_ways_behind) fun z11 =>
    if 0 ≤ (lg_cmp z11 y5) then
      k54 y2 y4 y5 y7 (y8 + (1 : Int32)) v_t_refusedBad r_t_ways_weight r_t_ways_upTo r_t_ways_behind
    else
      k54 y2 (((16 : Int32) * y7) + y8) z11 y7 (y8 + (1 : Int32)) v_t_refusedBad r_t_ways_weight r_t_ways_upTo r_t_ways_behind
def f_X4_next_B44 (x1 : Int32) (r_t_now_kind : Nat → Int32) (r_t_now_trips : Nat → Int32) (k44 : Int64 → Int32 → Int64 → Int32 → Int32 → (Nat → Int64) → (Nat → Int64) → (Nat → Int64) → Option (Int32 × Int32 × (Nat → Int64) × (Nat → Int64) × (Nat → Int64))) (y2 : Int64) (y4 : Int32) (y5 : Int64) (y7 : Int32) (v_t_refusedBad : Int32) (r_t_ways_weight : Nat → Int64) (r_t_ways_upTo : Nat → Int64) (r_t_ways_behind : Nat → Int64) : Option (Int32 × Int32 × (Nat → Int64) × (Nat → Int64) × (Nat → Int64)) :=
  if (6 : Int32) ≤ y7 then
    some (y4, v_t_refusedBad, r_t_ways_weight, r_t_ways_upTo, r_t_ways_behind)
  else
    lq9 (f_X4_next_B54 x1 r_t_now_kind r_t_now_trips k44) FU y2 y4 y5 y7 (1 : Int32) v_t_refusedBad r_t_ways_weight r_t_ways_upTo r_t_ways_behind
def f_X4_next (x1 : Int32) (v_t_refusedBad : Int32) (v_t_now_laws : Int32) (v_t_now_inspectors : Int32) (v_t_now_marks : Int32) (r_t_now_knownEvent : Nat → Int32) (r_t_now_kind : Nat → Int32) (r_t_now_trips : Nat → Int32) (r_t_now_markInspector : Nat → Int32) (r_t_now_markDay : Nat → Int32) (r_t_now_markEvents : Nat → Int32) (r_t_now_markValue : Nat → Int32) (r_t_now_markTrips : Nat → Int32) (r_t_ways_weight : Nat → Int64) (r_t_ways_upTo : Nat → Int64) (r_t_ways_behind : Nat → Int64) : Option (Int32 × Int32 × (Nat → Int64) × (Nat → Int64) × (Nat → Int64)) :=
  if (f_X4_isInspector x1 v_t_now_inspectors) = 0 then
    bd2 (f_X4_refuseBad v_t_refusedBad) fun z14 u15 =>
    some (z14, u15, r_t_ways_weight, r_t_ways_upTo, r_t_ways_behind)
  else
    bd3 (f_X4_sumFits v_t_now_laws v_t_now_marks r_t_now_knownEvent r_t_now_kind r_t_now_markInspector r_t_now_markDay r_t_now_markEvents r_t_now_markValue r_t_now_markTrips r_t_ways_weight r_t_ways_upTo r_t_ways_behind) fun u2 u3 u4 =>
    bd1 (f_X3_all u3) fun z6 =>
    if (lg_cmp z6 (0 : Int64)) = 0 then
      some ((-1 : Int32), v_t_refusedBad, u2, u3, u4)
    else
      lq8 (f_X4_next_B44 x1 r_t_now_kind r_t_now_trips ) FU z6 (-1 : Int32) (z6 + (1 : Int64)) (0 : Int32) v_t_refusedBad u2 u3 u4
def f_X4_tellingSayings_B5 (x0 : Int32) (x1 : Int32) (x2 : Int32) (k5 : Int32 → Int32 → Option (Int32)) (y3 : Int32) (y4 : Int32) : Option (Int32) :=
  if (15 : Int32) ≤ y4 then
    some y3
  else
    if (f_X4_tellsTruth x0 x1 y4 x2) = 0 then
      k5 y3 (y4 + (1 : Int32))
    else
      k5 (y3 ||| ((1 : Int32) <<< (y4 &&& 31))) (y4 + (1 : Int32))
def f_X4_tellingSayings (x0 : Int32) (x1 : Int32) (x2 : Int32) : Option (Int32) :=
  lq2 (f_X4_tellingSayings_B5 x0 x1 x2 ) FU (0 : Int32) (1 : Int32)
def f_X4_leavesApart (x0 : Int32) (x1 : Int32) (x2 : Int32) (x3 : Int32) : Int32 :=
  if ((x2 >>> (x1 &&& 31)) &&& (1 : Int32)) = 0 then
    if ((x3 >>> (x0 &&& 31)) &&& (1 : Int32)) = (1 : Int32) then
      (1 : Int32)
    else
      (0 : Int32)
  else
    if ((x3 >>> ((x0 &&& x1) &&& 31)) &&& (1 : Int32)) = (1 : Int32) then
      if ((x3 >>> ((x0 &&& (x1 ^^^ (-1 : Int32))) &&& 31)) &&& (1 : Int32)) = (1 : Int32) then
        (1 : Int32)
      else
        (0 : Int32)
    else
      (0 : Int32)
theorem nb_X4_leavesApart (x0 : Int32) (x1 : Int32) (x2 : Int32) (x3 : Int32) : f_X4_leavesApart x0 x1 x2 x3 &&& 1 = f_X4_leavesApart x0 x1 x2 x3 := by
  simp only [f_X4_leavesApart]
  (repeat' split) <;> first | rfl | decide
def f_X4_isApartBySome_B2 (x0 : Int32) (x1 : Int32) (x2 : Int32) (k2 : Int32 → Option (Int32)) (y3 : Int32) : Option (Int32) :=
  if (15 : Int32) ≤ y3 then
    some (0 : Int32)
  else
    if (f_X4_leavesApart x0 y3 x1 x2) = 0 then
      k2 (y3 + (1 : Int32))
    else
      some (1 : Int32)
def f_X4_isApartBySome (x0 : Int32) (x1 : Int32) (x2 : Int32) : Option (Int32) :=
  lq1 (f_X4_isApartBySome_B2 x0 x1 x2 ) FU (1 : Int32)
def f_X4_toldApart_B32  (k10 : Int32 → Int32 → Option (Int32)) (k32 : Int32 → Int32 → Int32 → Int32 → Int32 → Option (Int32)) (y4 : Int32) (y5 : Int32) (y6 : Int32) (y7 : Int32) (y8 : Int32) : Option (Int32) :=
  if (15 : Int32) < y8 then
    k10 y7 (y5 + (-1 : Int32))
  else
    bd1 (f_X4_isApartBySome y8 y6 y4) fun z5 =>
    if z5 = 0 then
      k32 y4 y5 y6 y7 (y8 + (1 : Int32))
    else
      k32 y4 y5 y6 (y7 ||| ((1 : Int32) <<< (y8 &&& 31))) (y8 + (1 : Int32))
def f_X4_toldApart_B10 (x0 : Int32) (x1 : Int32) (x2 : Int32) (k10 : Int32 → Int32 → Option (Int32)) (y4 : Int32) (y5 : Int32) : Option (Int32) :=
  if y5 < 0 then
    some y4
  else
    bd1 (f_X4_tellingSayings x0 x1 (x2 + y5)) fun z2 =>
    lq5 (f_X4_toldApart_B32  k10) FU y4 y5 z2 (0 : Int32) (0 : Int32)
def f_X4_toldApart (x0 : Int32) (x1 : Int32) (x2 : Int32) (x3 : Int32) : Option (Int32) :=
  lq2 (f_X4_toldApart_B10 x0 x1 x2 ) FU (279 : Int32) (x3 - (1 : Int32))
def f_X4_fewestSayings_B3 (x1 : Int32) (x2 : Int32) (x3 : Int32) (r_t_now_kind : Nat → Int32) (r_t_now_trips : Nat → Int32) (k3 : Int32 → Option (Int32)) (y4 : Int32) : Option (Int32) :=
  if (9 : Int32) < y4 then
    some (-1 : Int32)
  else
    ckI x1 4 <|
    bd1 (f_X4_toldApart (r_t_now_kind (Int32.toNatClampNeg x1)) x2 (r_t_now_trips (Int32.toNatClampNeg x1)) y4) fun z3 =>
    if ((z3 >>> (x3 &&& 31)) &&& (1 : Int32)) = (1 : Int32) then
      some y4
    else
      k3 (y4 + (1 : Int32))
def f_X4_fewestSayings (x1 : Int32) (x2 : Int32) (x3 : Int32) (r_t_now_kind : Nat → Int32) (r_t_now_trips : Nat → Int32) : Option (Int32) :=
  lq1 (f_X4_fewestSayings_B3 x1 x2 x3 r_t_now_kind r_t_now_trips ) FU (0 : Int32)
def f_X4_firstSaying_B54 (x3 : Int32) (k54 : Int32 → Int32 → Int32 → Option (Int32)) (y6 : Int32) (y7 : Int32) (y8 : Int32) : Option (Int32) :=
  if (15 : Int32) ≤ y8 then
    some (-1 : Int32)
  else
    if (f_X4_leavesApart x3 y8 y7 y6) = 0 then
      k54 y6 y7 (y8 + (1 : Int32))
    else
      some y8
def f_X4_firstSaying (x1 : Int32) (x2 : Int32) (x3 : Int32) (x4 : Int32) (r_t_now_kind : Nat → Int32) (r_t_now_trips : Nat → Int32) : Option (Int32) :=
  ckI x1 4 <|
  bd1 (f_X4_toldApart (r_t_now_kind (Int32.toNatClampNeg x1)) x2 ((r_t_now_trips (Int32.toNatClampNeg x1)) + (1 : Int32)) (x4 - (1 : Int32))) fun z2 =>
  bd1 (f_X4_tellingSayings (r_t_now_kind (Int32.toNatClampNeg x1)) x2 (r_t_now_trips (Int32.toNatClampNeg x1))) fun z4 =>
  lq3 (f_X4_firstSaying_B54 x3 ) FU z2 z4 (1 : Int32)
def f_X4_sure_J24   (v_t_refusedBad : Int32) (r_t_ways_weight : Nat → Int64) (r_t_ways_upTo : Nat → Int64) (r_t_ways_behind : Nat → Int64) : Option (Int32 × Int32 × (Nat → Int64) × (Nat → Int64) × (Nat → Int64)) :=
  bd2 (f_X4_refuseBad v_t_refusedBad) fun z2 u3 =>
  some (z2, u3, r_t_ways_weight, r_t_ways_upTo, r_t_ways_behind)
def f_X4_sure (x1 : Int32) (x2 : Int32) (x3 : Int32) (v_t_refusedBad : Int32) (v_t_now_laws : Int32) (v_t_now_inspectors : Int32) (v_t_now_marks : Int32) (r_t_now_knownEvent : Nat → Int32) (r_t_now_kind : Nat → Int32) (r_t_now_trips : Nat → Int32) (r_t_now_markInspector : Nat → Int32) (r_t_now_markDay : Nat → Int32) (r_t_now_markEvents : Nat → Int32) (r_t_now_markValue : Nat → Int32) (r_t_now_markTrips : Nat → Int32) (r_t_ways_weight : Nat → Int64) (r_t_ways_upTo : Nat → Int64) (r_t_ways_behind : Nat → Int64) : Option (Int32 × Int32 × (Nat → Int64) × (Nat → Int64) × (Nat → Int64)) :=
  if (f_X4_isInspector x1 v_t_now_inspectors) = 0 then
    f_X4_sure_J24   v_t_refusedBad r_t_ways_weight r_t_ways_upTo r_t_ways_behind
  else
    if (f_X4_isDay x2) = 0 then
      f_X4_sure_J24   v_t_refusedBad r_t_ways_weight r_t_ways_upTo r_t_ways_behind
    else
      if x3 < 0 then
        f_X4_sure_J24   v_t_refusedBad r_t_ways_weight r_t_ways_upTo r_t_ways_behind
      else
        if x3 ≤ (1 : Int32) then
          bd3 (f_X4_sumFits v_t_now_laws v_t_now_marks r_t_now_knownEvent r_t_now_kind r_t_now_markInspector r_t_now_markDay r_t_now_markEvents r_t_now_markValue r_t_now_markTrips r_t_ways_weight r_t_ways_upTo r_t_ways_behind) fun u8 u9 u10 =>
          bd1 (f_X3_all u9) fun z12 =>
          if (lg_cmp z12 (0 : Int64)) = 0 then
            some ((-1 : Int32), v_t_refusedBad, u8, u9, u10)
          else
            bd1 (f_X3_eventsOn x2 u9 u10) fun z15 =>
            bd1 (f_X4_fewestSayings x1 x2 z15 r_t_now_kind r_t_now_trips) fun z17 =>
            if x3 = 0 then
              some (z17, v_t_refusedBad, u8, u9, u10)
            else
              if z17 = (-1 : Int32) then
                some (z17, v_t_refusedBad, u8, u9, u10)
              else
                if z17 = 0 then
                  some ((0 : Int32), v_t_refusedBad, u8, u9, u10)
                else
                  bd1 (f_X4_firstSaying x1 x2 z15 z17 r_t_now_kind r_t_now_trips) fun z22 =>
                  some (z22, v_t_refusedBad, u8, u9, u10)
        else
          f_X4_sure_J24   v_t_refusedBad r_t_ways_weight r_t_ways_upTo r_t_ways_behind
def f_X4_wrong (v_t_now_laws : Int32) (v_t_now_marks : Int32) (r_t_now_knownEvent : Nat → Int32) (r_t_now_kind : Nat → Int32) (r_t_now_markInspector : Nat → Int32) (r_t_now_markDay : Nat → Int32) (r_t_now_markEvents : Nat → Int32) (r_t_now_markValue : Nat → Int32) (r_t_now_markTrips : Nat → Int32) (r_t_ways_weight : Nat → Int64) (r_t_ways_upTo : Nat → Int64) : Option (Int32 × (Nat → Int64) × (Nat → Int64)) :=
  bd1 (f_X3_weighMissed r_t_ways_weight v_t_now_marks r_t_now_knownEvent r_t_now_kind r_t_now_markInspector r_t_now_markDay r_t_now_markEvents r_t_now_markValue r_t_now_markTrips) fun u1 =>
  bd2 (f_X3_leastSum u1 r_t_ways_upTo v_t_now_laws) fun z3 u4 =>
  if (lg_cmp z3 (1048576 : Int64)) < 0 then
    some (((Int64.toInt32 z3) &&& (255 : Int32)), u1, u4)
  else
    some ((-1 : Int32), u1, u4)
def f_X4_is_B28 (x1 : Int32) (k28 : Int32 → Int32 → Int32 → Int32 → Int32 → Int32 → Int32 → (Nat → Int32) → (Nat → Int32) → (Nat → Int32) → (Nat → Int32) → (Nat → Int32) → (Nat → Int32) → (Nat → Int32) → (Nat → Int32) → (Nat → Int32) → (Nat → Int32) → (Nat → Int64) → (Nat → Int64) → (Nat → Int64) → Option (Int32 × Int32 × Int32 × Int32 × Int32 × Int32 × (Nat → Int32) × (Nat → Int32) × (Nat → Int32) × (Nat → Int32) × (Nat → Int32) × (Nat → Int32) × (Nat → Int32) × (Nat → Int32) × (Nat → Int32) × (Nat → Int32) × (Nat → Int64) × (Nat → Int64) × (Nat → Int64))) (y2 : Int32) (y3 : Int32) (v_t_refusedBad : Int32) (v_t_spare_laws : Int32) (v_t_spare_inspectors : Int32) (v_t_spare_marks : Int32) (v_t_spare_undos : Int32) (r_t_spare_knownEvent : Nat → Int32) (r_t_spare_kind : Nat → Int32) (r_t_spare_trips : Nat → Int32) (r_t_spare_markInspector : Nat → Int32) (r_t_spare_markDay : Nat → Int32) (r_t_spare_markEvents : Nat → Int32) (r_t_spare_markValue : Nat → Int32) (r_t_spare_markTrips : Nat → Int32) (r_t_spare_undoDay : Nat → Int32) (r_t_spare_undoEvent : Nat → Int32) (r_t_ways_weight : Nat → Int64) (r_t_ways_upTo : Nat → Int64) (r_t_ways_behind : Nat → Int64) : Option (Int32 × Int32 × Int32 × Int32 × Int32 × Int32 × (Nat → Int32) × (Nat → Int32) × (Nat → Int32) × (Nat → Int32) × (Nat → Int32) × (Nat → Int32) × (Nat → Int32) × (Nat → Int32) × (Nat → Int32) × (Nat → Int32) × (Nat → Int64) × (Nat → Int64) × (Nat → Int64)) :=
  if (6 : Int32) ≤ y3 then
    some (y2, v_t_refusedBad, v_t_spare_laws, v_t_spare_inspectors, v_t_spare_marks, v_t_spare_undos, r_t_spare_knownEvent, r_t_spare_kind, r_t_spare_trips, r_t_spare_markInspector, r_t_spare_markDay, r_t_spare_markEvents, r_t_spare_markValue, r_t_spare_markTrips, r_t_spare_undoDay, r_t_spare_undoEvent, r_t_ways_weight, r_t_ways_upTo, r_t_ways_behind)
  else
    ckI x1 4 <|
    bd1 (f_X3_weighFits (0 : Int32) r_t_ways_weight v_t_spare_marks r_t_spare_knownEvent (upd r_t_spare_kind (Int32.toNatClampNeg x1) y3) r_t_spare_markInspector r_t_spare_markDay r_t_spare_markEvents r_t_spare_markValue r_t_spare_markTrips) fun u19 =>
    bd2 (f_X3_sum u19 r_t_ways_upTo r_t_ways_behind v_t_spare_laws) fun u21 u22 =>
    bd1 (f_X3_all u21) fun z24 =>
    if (lg_cmp z24 (0 : Int64)) ≤ 0 then
      k28 y2 (y3 + (1 : Int32)) v_t_refusedBad v_t_spare_laws v_t_spare_inspectors v_t_spare_marks v_t_spare_undos r_t_spare_knownEvent (upd r_t_spare_kind (Int32.toNatClampNeg x1) y3) r_t_spare_trips r_t_spare_markInspector r_t_spare_markDay r_t_spare_markEvents r_t_spare_markValue r_t_spare_markTrips r_t_spare_undoDay r_t_spare_undoEvent u19 u21 u22
    else
      k28 (y2 ||| ((1 : Int32) <<< (y3 &&& 31))) (y3 + (1 : Int32)) v_t_refusedBad v_t_spare_laws v_t_spare_inspectors v_t_spare_marks v_t_spare_undos r_t_spare_knownEvent (upd r_t_spare_kind (Int32.toNatClampNeg x1) y3) r_t_spare_trips r_t_spare_markInspector r_t_spare_markDay r_t_spare_markEvents r_t_spare_markValue r_t_spare_markTrips r_t_spare_undoDay r_t_spare_undoEvent u19 u21 u22
def f_X4_is (x1 : Int32) (v_t_refusedBad : Int32) (v_t_now_laws : Int32) (v_t_now_inspectors : Int32) (v_t_now_marks : Int32) (v_t_now_undos : Int32) (r_t_now_knownEvent : Nat → Int32) (r_t_now_kind : Nat → Int32) (r_t_now_trips : Nat → Int32) (r_t_now_markInspector : Nat → Int32) (r_t_now_markDay : Nat → Int32) (r_t_now_markEvents : Nat → Int32) (r_t_now_markValue : Nat → Int32) (r_t_now_markTrips : Nat → Int32) (r_t_now_undoDay : Nat → Int32) (r_t_now_undoEvent : Nat → Int32) (v_t_spare_laws : Int32) (v_t_spare_inspectors : Int32) (v_t_spare_marks : Int32) (v_t_spare_undos : Int32) (r_t_spare_knownEvent : Nat → Int32) (r_t_spare_kind : Nat → Int32) (r_t_spare_trips : Nat → Int32) (r_t_spare_markInspector : Nat → Int32) (r_t_spare_markDay : Nat → Int32) (r_t_spare_markEvents : Nat → Int32) (r_t_spare_markValue : Nat → Int32) (r_t_spare_markTrips : Nat → Int32) (r_t_spare_undoDay : Nat → Int32) (r_t_spare_undoEvent : Nat → Int32) (r_t_ways_weight : Nat → Int64) (r_t_ways_upTo : Nat → Int64) (r_t_ways_behind : Nat → Int64) : Option (Int32 × Int32 × Int32 × Int32 × Int32 × Int32 × (Nat → Int32) × (Nat → Int32) × (Nat → Int32) × (Nat → Int32) × (Nat → Int32) × (Nat → Int32) × (Nat → Int32) × (Nat → Int32) × (Nat → Int32) × (Nat → Int32) × (Nat → Int64) × (Nat → Int64) × (Nat → Int64)) :=
  if (f_X4_isInspector x1 v_t_now_inspectors) = 0 then
    bd2 (f_X4_refuseBad v_t_refusedBad) fun z27 u28 =>
    some (z27, u28, v_t_spare_laws, v_t_spare_inspectors, v_t_spare_marks, v_t_spare_undos, r_t_spare_knownEvent, r_t_spare_kind, r_t_spare_trips, r_t_spare_markInspector, r_t_spare_markDay, r_t_spare_markEvents, r_t_spare_markValue, r_t_spare_markTrips, r_t_spare_undoDay, r_t_spare_undoEvent, r_t_ways_weight, r_t_ways_upTo, r_t_ways_behind)
  else
    bd14 (f_X0_copyFrom v_t_spare_laws v_t_spare_inspectors v_t_spare_marks v_t_spare_undos r_t_spare_knownEvent r_t_spare_kind r_t_spare_trips r_t_spare_markInspector r_t_spare_markDay r_t_spare_markEvents r_t_spare_markValue r_t_spare_markTrips r_t_spare_undoDay r_t_spare_undoEvent v_t_now_laws v_t_now_inspectors v_t_now_marks v_t_now_undos r_t_now_knownEvent r_t_now_kind r_t_now_trips r_t_now_markInspector r_t_now_markDay r_t_now_markEvents r_t_now_markValue r_t_now_markTrips r_t_now_undoDay r_t_now_undoEvent) fun u2 u3 u4 u5 u6 u7 u8 u9 u10 u11 u12 u13 u14 u15 =>
    lq20 (f_X4_is_B28 x1 ) FU (0 : Int32) (0 : Int32) v_t_refusedBad u2 u3 u4 u5 u6 u7 u8 u9 u10 u11 u12 u13 u14 u15 r_t_ways_weight r_t_ways_upTo r_t_ways_behind
def f_X4_tells_B17 (v_t_now_laws : Int32) (v_t_now_marks : Int32) (r_t_now_knownEvent : Nat → Int32) (r_t_now_kind : Nat → Int32) (r_t_now_markInspector : Nat → Int32) (r_t_now_markDay : Nat → Int32) (r_t_now_markEvents : Nat → Int32) (r_t_now_markValue : Nat → Int32) (r_t_now_markTrips : Nat → Int32) (k17 : Int64 → Int32 → Int32 → (Nat → Int64) → (Nat → Int64) → (Nat → Int64) → Option (Int32 × (Nat → Int64) × (Nat → Int64) × (Nat → Int64))) (y1 : Int64) (y3 : Int32) (y4 : Int32) (r_t_ways_weight : Nat → Int64) (r_t_ways_upTo : Nat → Int64) (r_t_ways_behind : Nat → Int64) : Option (Int32 × (Nat → Int64) × (Nat → Int64) × (Nat → Int64)) :=
  if v_t_now_marks ≤ y4 then
    some (y3, r_t_ways_weight, r_t_ways_upTo, r_t_ways_behind)
  else
    bd1 (f_X3_weighFits ((1 : Int32) <<< (y4 &&& 31)) r_t_ways_weight v_t_now_marks r_t_now_knownEvent r_t_now_kind r_t_now_markInspector r_t_now_markDay r_t_now_markEvents r_t_now_markValue r_t_now_markTrips) fun u8 =>
    bd2 (f_X3_sum u8 r_t_ways_upTo r_t_ways_behind v_t_now_laws) fun u10 u11 =>
    bd1 (f_X3_all u10) fun z13 =>
    if (lg_cmp z13 y1) ≤ 0 then
      k17 y1 y3 (y4 + (1 : Int32)) u8 u10 u11
    else
      k17 y1 (y3 ||| ((1 : Int32) <<< (y4 &&& 31))) (y4 + (1 : Int32)) u8 u10 u11
def f_X4_tells (v_t_now_laws : Int32) (v_t_now_marks : Int32) (r_t_now_knownEvent : Nat → Int32) (r_t_now_kind : Nat → Int32) (r_t_now_markInspector : Nat → Int32) (r_t_now_markDay : Nat → Int32) (r_t_now_markEvents : Nat → Int32) (r_t_now_markValue : Nat → Int32) (r_t_now_markTrips : Nat → Int32) (r_t_ways_weight : Nat → Int64) (r_t_ways_upTo : Nat → Int64) (r_t_ways_behind : Nat → Int64) : Option (Int32 × (Nat → Int64) × (Nat → Int64) × (Nat → Int64)) :=
  bd3 (f_X4_sumFits v_t_now_laws v_t_now_marks r_t_now_knownEvent r_t_now_kind r_t_now_markInspector r_t_now_markDay r_t_now_markEvents r_t_now_markValue r_t_now_markTrips r_t_ways_weight r_t_ways_upTo r_t_ways_behind) fun u1 u2 u3 =>
  bd1 (f_X3_all u2) fun z5 =>
  lq6 (f_X4_tells_B17 v_t_now_laws v_t_now_marks r_t_now_knownEvent r_t_now_kind r_t_now_markInspector r_t_now_markDay r_t_now_markEvents r_t_now_markValue r_t_now_markTrips ) FU z5 (0 : Int32) (0 : Int32) u1 u2 u3
def f_X4_gain (x1 : Int32) (x2 : Int32) (x3 : Int32) (r_t_ways_upTo : Nat → Int64) (r_t_ways_behind : Nat → Int64) : Option (Int64) :=
  bd1 (f_X3_having x1 x2 r_t_ways_upTo r_t_ways_behind) fun z1 =>
  if x2 = x3 then
    some (z1 / (2 : Int64))
  else
    some z1
def f_X4_rests_B3 (x1 : Int32) (x2 : Int32) (x3 : Int32) (r_t_ways_upTo : Nat → Int64) (r_t_ways_behind : Nat → Int64) (k3 : Int32 → Option (Int32)) (y4 : Int32) : Option (Int32) :=
  if (4 : Int32) ≤ y4 then
    some (1 : Int32)
  else
    bd1 (f_X4_gain x1 y4 x3 r_t_ways_upTo r_t_ways_behind) fun z2 =>
    bd1 (f_X4_gain x1 x2 x3 r_t_ways_upTo r_t_ways_behind) fun z4 =>
    if 0 < (lg_cmp z2 z4) then
      some (0 : Int32)
    else
      bd1 (f_X4_gain x1 y4 x2 r_t_ways_upTo r_t_ways_behind) fun z7 =>
      bd1 (f_X4_gain x1 x3 x2 r_t_ways_upTo r_t_ways_behind) fun z9 =>
      if (lg_cmp z7 z9) ≤ 0 then
        k3 (y4 + (1 : Int32))
      else
        some (0 : Int32)
def f_X4_rests (x1 : Int32) (x2 : Int32) (x3 : Int32) (r_t_ways_upTo : Nat → Int64) (r_t_ways_behind : Nat → Int64) : Option (Int32) :=
  lq1 (f_X4_rests_B3 x1 x2 x3 r_t_ways_upTo r_t_ways_behind ) FU (0 : Int32)
def f_X4_bets_J12   (v_t_refusedBad : Int32) (r_t_ways_weight : Nat → Int64) (r_t_ways_upTo : Nat → Int64) (r_t_ways_behind : Nat → Int64) : Option (Int32 × Int32 × (Nat → Int64) × (Nat → Int64) × (Nat → Int64)) :=
  bd2 (f_X4_refuseBad v_t_refusedBad) fun z2 u3 =>
  some ((-10 : Int32), u3, r_t_ways_weight, r_t_ways_upTo, r_t_ways_behind)
def f_X4_bets_B29 (x1 : Int32) (x2 : Int32) (k29 : Int32 → Int32 → Int32 → (Nat → Int64) → (Nat → Int64) → (Nat → Int64) → Option (Int32 × Int32 × (Nat → Int64) × (Nat → Int64) × (Nat → Int64))) (y3 : Int32) (y4 : Int32) (v_t_refusedBad : Int32) (r_t_ways_weight : Nat → Int64) (r_t_ways_upTo : Nat → Int64) (r_t_ways_behind : Nat → Int64) : Option (Int32 × Int32 × (Nat → Int64) × (Nat → Int64) × (Nat → Int64)) :=
  if (16 : Int32) ≤ y4 then
    if x2 = (-1 : Int32) then
      some (y3, v_t_refusedBad, r_t_ways_weight, r_t_ways_upTo, r_t_ways_behind)
    else
      some ((-5 : Int32), v_t_refusedBad, r_t_ways_weight, r_t_ways_upTo, r_t_ways_behind)
  else
    bd1 (f_X4_rests x1 (y4 / (4 : Int32)) (y4 - y4 / (4 : Int32) * (4 : Int32)) r_t_ways_upTo r_t_ways_behind) fun z12 =>
    if z12 = 0 then
      k29 y3 (y4 + (1 : Int32)) v_t_refusedBad r_t_ways_weight r_t_ways_upTo r_t_ways_behind
    else
      if y3 = x2 then
        some (y4, v_t_refusedBad, r_t_ways_weight, r_t_ways_upTo, r_t_ways_behind)
      else
        k29 (y3 + (1 : Int32)) (y4 + (1 : Int32)) v_t_refusedBad r_t_ways_weight r_t_ways_upTo r_t_ways_behind
def f_X4_bets (x1 : Int32) (x2 : Int32) (v_t_refusedBad : Int32) (v_t_now_laws : Int32) (v_t_now_marks : Int32) (r_t_now_knownEvent : Nat → Int32) (r_t_now_kind : Nat → Int32) (r_t_now_markInspector : Nat → Int32) (r_t_now_markDay : Nat → Int32) (r_t_now_markEvents : Nat → Int32) (r_t_now_markValue : Nat → Int32) (r_t_now_markTrips : Nat → Int32) (r_t_ways_weight : Nat → Int64) (r_t_ways_upTo : Nat → Int64) (r_t_ways_behind : Nat → Int64) : Option (Int32 × Int32 × (Nat → Int64) × (Nat → Int64) × (Nat → Int64)) :=
  if (f_X4_isDay x1) = 0 then
    f_X4_bets_J12   v_t_refusedBad r_t_ways_weight r_t_ways_upTo r_t_ways_behind
  else
    if (-1 : Int32) ≤ x2 then
      bd3 (f_X4_sumFits v_t_now_laws v_t_now_marks r_t_now_knownEvent r_t_now_kind r_t_now_markInspector r_t_now_markDay r_t_now_markEvents r_t_now_markValue r_t_now_markTrips r_t_ways_weight r_t_ways_upTo r_t_ways_behind) fun u6 u7 u8 =>
      lq6 (f_X4_bets_B29 x1 x2 ) FU (0 : Int32) (0 : Int32) v_t_refusedBad u6 u7 u8
    else
      f_X4_bets_J12   v_t_refusedBad r_t_ways_weight r_t_ways_upTo r_t_ways_behind
def f_X4_journeys_J10   (v_t_above : Int64) (v_t_below : Int64) (v_t_refusedBad : Int32) (r_t_ways_weight : Nat → Int64) (r_t_ways_upTo : Nat → Int64) (r_t_ways_behind : Nat → Int64) : Option (Int32 × Int64 × Int64 × Int32 × (Nat → Int64) × (Nat → Int64) × (Nat → Int64)) :=
  bd2 (f_X4_refuseBad v_t_refusedBad) fun z2 u3 =>
  some (z2, v_t_above, v_t_below, u3, r_t_ways_weight, r_t_ways_upTo, r_t_ways_behind)
def f_X4_journeys_B43 (v_t_now_marks : Int32) (k43 : Int64 → Int32 → Int64 → Int64 → Int32 → (Nat → Int64) → (Nat → Int64) → (Nat → Int64) → Option (Int32 × Int64 × Int64 × Int32 × (Nat → Int64) × (Nat → Int64) × (Nat → Int64))) (y2 : Int64) (y4 : Int32) (v_t_above : Int64) (v_t_below : Int64) (v_t_refusedBad : Int32) (r_t_ways_weight : Nat → Int64) (r_t_ways_upTo : Nat → Int64) (r_t_ways_behind : Nat → Int64) : Option (Int32 × Int64 × Int64 × Int32 × (Nat → Int64) × (Nat → Int64) × (Nat → Int64)) :=
  if v_t_now_marks ≤ y4 then
    bd1 (f_X3_all r_t_ways_upTo) fun z12 =>
    bd2 (f_X4_setFraction z12 y2 v_t_above v_t_below) fun u14 u15 =>
    some ((1 : Int32), u14, u15, v_t_refusedBad, r_t_ways_weight, r_t_ways_upTo, r_t_ways_behind)
  else
    k43 (y2 * (10 : Int64)) (y4 + (1 : Int32)) v_t_above v_t_below v_t_refusedBad r_t_ways_weight r_t_ways_upTo r_t_ways_behind
def f_X4_journeys (x1 : Int32) (v_t_above : Int64) (v_t_below : Int64) (v_t_refusedBad : Int32) (v_t_now_laws : Int32) (v_t_now_marks : Int32) (r_t_now_knownEvent : Nat → Int32) (r_t_now_kind : Nat → Int32) (r_t_now_markInspector : Nat → Int32) (r_t_now_markDay : Nat → Int32) (r_t_now_markEvents : Nat → Int32) (r_t_now_markValue : Nat → Int32) (r_t_now_markTrips : Nat → Int32) (r_t_ways_weight : Nat → Int64) (r_t_ways_upTo : Nat → Int64) (r_t_ways_behind : Nat → Int64) : Option (Int32 × Int64 × Int64 × Int32 × (Nat → Int64) × (Nat → Int64) × (Nat → Int64)) :=
  if x1 < 0 then
    f_X4_journeys_J10   v_t_above v_t_below v_t_refusedBad r_t_ways_weight r_t_ways_upTo r_t_ways_behind
  else
    if x1 ≤ (10 : Int32) then
      bd1 (f_X3_weighOdds x1 r_t_ways_weight v_t_now_marks r_t_now_knownEvent r_t_now_kind r_t_now_markInspector r_t_now_markDay r_t_now_markEvents r_t_now_markValue r_t_now_markTrips) fun u6 =>
      bd2 (f_X3_sum u6 r_t_ways_upTo r_t_ways_behind v_t_now_laws) fun u8 u9 =>
      lq8 (f_X4_journeys_B43 v_t_now_marks ) FU (1 : Int64) (0 : Int32) v_t_above v_t_below v_t_refusedBad u6 u8 u9
    else
      f_X4_journeys_J10   v_t_above v_t_below v_t_refusedBad r_t_ways_weight r_t_ways_upTo r_t_ways_behind
def f_X4_drawn (x0 : Int64) : Int64 :=
  (((x0 * (1103515245 : Int64)) + (12345 : Int64)) - ((x0 * (1103515245 : Int64)) + (12345 : Int64)) / (2147483648 : Int64) * (2147483648 : Int64))
def f_X4_years_J20   (v_t_refusedBad : Int32) (r_t_ways_weight : Nat → Int64) : Option (Int32 × Int32 × (Nat → Int64)) :=
  bd2 (f_X4_refuseBad v_t_refusedBad) fun z2 u3 =>
  some (z2, u3, r_t_ways_weight)
def f_X4_years_B61 (v_t_now_laws : Int32) (k46 : Int64 → Int32 → Int32 → Int32 → (Nat → Int64) → Option (Int32 × Int32 × (Nat → Int64))) (k61 : Int64 → Int32 → Int32 → Int32 → Int32 → Int32 → Int32 → (Nat → Int64) → Option (Int32 × Int32 × (Nat → Int64))) (y3 : Int64) (y5 : Int32) (y6 : Int32) (y7 : Int32) (y8 : Int32) (y9 : Int32) (v_t_refusedBad : Int32) (r_t_ways_weight : Nat → Int64) : Option (Int32 × Int32 × (Nat → Int64)) :=
  if (6 : Int32) ≤ y9 then
    if y7 = 0 then
      k46 y3 y5 (y6 + (1 : Int32)) v_t_refusedBad r_t_ways_weight
    else
      k46 y3 (y5 + (1 : Int32)) (y6 + (1 : Int32)) v_t_refusedBad r_t_ways_weight
  else
    if y7 = 0 then
      k61 (f_X4_drawn y3) y5 y6 (0 : Int32) (Int64.toInt32 (((f_X4_drawn y3) / (65536 : Int64)) - ((f_X4_drawn y3) / (65536 : Int64)) / (4 : Int64) * (4 : Int64))) (y9 + (1 : Int32)) v_t_refusedBad r_t_ways_weight
    else
      bd1 (f_X3_goesOn y9 y8 (Int64.toInt32 (((f_X4_drawn y3) / (65536 : Int64)) - ((f_X4_drawn y3) / (65536 : Int64)) / (4 : Int64) * (4 : Int64))) r_t_ways_weight v_t_now_laws) fun z14 =>
      if z14 = 0 then
        k61 (f_X4_drawn y3) y5 y6 (0 : Int32) (Int64.toInt32 (((f_X4_drawn y3) / (65536 : Int64)) - ((f_X4_drawn y3) / (65536 : Int64)) / (4 : Int64) * (4 : Int64))) (y9 + (1 : Int32)) v_t_refusedBad r_t_ways_weight
      else
        k61 (f_X4_drawn y3) y5 y6 (1 : Int32) (Int64.toInt32 (((f_X4_drawn y3) / (65536 : Int64)) - ((f_X4_drawn y3) / (65536 : Int64)) / (4 : Int64) * (4 : Int64))) (y9 + (1 : Int32)) v_t_refusedBad r_t_ways_weight
def f_X4_years_B46 (x2 : Int32) (v_t_now_laws : Int32) (k46 : Int64 → Int32 → Int32 → Int32 → (Nat → Int64) → Option (Int32 × Int32 × (Nat → Int64))) (y3 : Int64) (y5 : Int32) (y6 : Int32) (v_t_refusedBad : Int32) (r_t_ways_weight : Nat → Int64) : Option (Int32 × Int32 × (Nat → Int64)) :=
  if x2 ≤ y6 then
    some (y5, v_t_refusedBad, r_t_ways_weight)
  else
    lq8 (f_X4_years_B61 v_t_now_laws k46) FU y3 y5 y6 (1 : Int32) (-1 : Int32) (0 : Int32) v_t_refusedBad r_t_ways_weight
def f_X4_years (x1 : Int32) (x2 : Int32) (v_t_refusedBad : Int32) (v_t_now_laws : Int32) (v_t_now_marks : Int32) (r_t_now_knownEvent : Nat → Int32) (r_t_now_kind : Nat → Int32) (r_t_now_markInspector : Nat → Int32) (r_t_now_markDay : Nat → Int32) (r_t_now_markEvents : Nat → Int32) (r_t_now_markValue : Nat → Int32) (r_t_now_markTrips : Nat → Int32) (r_t_ways_weight : Nat → Int64) : Option (Int32 × Int32 × (Nat → Int64)) :=
  if x1 < 0 then
    f_X4_years_J20   v_t_refusedBad r_t_ways_weight
  else
    if (999999 : Int32) < x1 then
      f_X4_years_J20   v_t_refusedBad r_t_ways_weight
    else
      if x2 < 0 then
        f_X4_years_J20   v_t_refusedBad r_t_ways_weight
      else
        if x2 ≤ (60 : Int32) then
          bd1 (f_X3_weighFits (0 : Int32) r_t_ways_weight v_t_now_marks r_t_now_knownEvent r_t_now_kind r_t_now_markInspector r_t_now_markDay r_t_now_markEvents r_t_now_markValue r_t_now_markTrips) fun u8 =>
          lq5 (f_X4_years_B46 x2 v_t_now_laws ) FU (Int32.toInt64 x1) (0 : Int32) (0 : Int32) v_t_refusedBad u8
        else
          f_X4_years_J20   v_t_refusedBad r_t_ways_weight
def f_X4_part_J9   (v_t_refusedBad : Int32) : Option (Int64 × Int32) :=
  bd2 (f_X4_refuseBad v_t_refusedBad) fun z2 u3 =>
  some ((Int32.toInt64 z2), u3)
def f_X4_part (x1 : Int32) (v_t_above : Int64) (v_t_below : Int64) (v_t_refusedBad : Int32) : Option (Int64 × Int32) :=
  if x1 < 0 then
    f_X4_part_J9   v_t_refusedBad
  else
    if x1 ≤ (1 : Int32) then
      if x1 = 0 then
        some (v_t_above, v_t_refusedBad)
      else
        some (v_t_below, v_t_refusedBad)
    else
      f_X4_part_J9   v_t_refusedBad
def f_X4_isImage (x0 : Int32) : Int32 :=
  if x0 = 0 then
    (1 : Int32)
  else
    if x0 = (1 : Int32) then
      (1 : Int32)
    else
      (0 : Int32)
theorem nb_X4_isImage (x0 : Int32) : f_X4_isImage x0 &&& 1 = f_X4_isImage x0 := by
  simp only [f_X4_isImage]
  (repeat' split) <;> first | rfl | decide
def f_X4_image (x1 : Int32) (v_t_firstKept : Int32) (v_t_secondKept : Int32) (v_t_refusedBad : Int32) (v_t_now_laws : Int32) (v_t_now_inspectors : Int32) (v_t_now_marks : Int32) (v_t_now_undos : Int32) (r_t_now_knownEvent : Nat → Int32) (r_t_now_kind : Nat → Int32) (r_t_now_trips : Nat → Int32) (r_t_now_markInspector : Nat → Int32) (r_t_now_markDay : Nat → Int32) (r_t_now_markEvents : Nat → Int32) (r_t_now_markValue : Nat → Int32) (r_t_now_markTrips : Nat → Int32) (r_t_now_undoDay : Nat → Int32) (r_t_now_undoEvent : Nat → Int32) (v_t_firstImage_laws : Int32) (v_t_firstImage_inspectors : Int32) (v_t_firstImage_marks : Int32) (v_t_firstImage_undos : Int32) (r_t_firstImage_knownEvent : Nat → Int32) (r_t_firstImage_kind : Nat → Int32) (r_t_firstImage_trips : Nat → Int32) (r_t_firstImage_markInspector : Nat → Int32) (r_t_firstImage_markDay : Nat → Int32) (r_t_firstImage_markEvents : Nat → Int32) (r_t_firstImage_markValue : Nat → Int32) (r_t_firstImage_markTrips : Nat → Int32) (r_t_firstImage_undoDay : Nat → Int32) (r_t_firstImage_undoEvent : Nat → Int32) (v_t_secondImage_laws : Int32) (v_t_secondImage_inspectors : Int32) (v_t_secondImage_marks : Int32) (v_t_secondImage_undos : Int32) (r_t_secondImage_knownEvent : Nat → Int32) (r_t_secondImage_kind : Nat → Int32) (r_t_secondImage_trips : Nat → Int32) (r_t_secondImage_markInspector : Nat → Int32) (r_t_secondImage_markDay : Nat → Int32) (r_t_secondImage_markEvents : Nat → Int32) (r_t_secondImage_markValue : Nat → Int32) (r_t_secondImage_markTrips : Nat → Int32) (r_t_secondImage_undoDay : Nat → Int32) (r_t_secondImage_undoEvent : Nat → Int32) : Option (Int32 × Int32 × Int32 × Int32 × Int32 × Int32 × Int32 × Int32 × (Nat → Int32) × (Nat → Int32) × (Nat → Int32) × (Nat → Int32) × (Nat → Int32) × (Nat → Int32) × (Nat → Int32) × (Nat → Int32) × (Nat → Int32) × (Nat → Int32) × Int32 × Int32 × Int32 × Int32 × (Nat → Int32) × (Nat → Int32) × (Nat → Int32) × (Nat → Int32) × (Nat → Int32) × (Nat → Int32) × (Nat → Int32) × (Nat → Int32) × (Nat → Int32) × (Nat → Int32)) :=
  if (f_X4_isImage x1) = 0 then
    bd2 (f_X4_refuseBad v_t_refusedBad) fun z33 u34 =>
    some (z33, v_t_firstKept, v_t_secondKept, u34, v_t_firstImage_laws, v_t_firstImage_inspectors, v_t_firstImage_marks, v_t_firstImage_undos, r_t_firstImage_knownEvent, r_t_firstImage_kind, r_t_firstImage_trips, r_t_firstImage_markInspector, r_t_firstImage_markDay, r_t_firstImage_markEvents, r_t_firstImage_markValue, r_t_firstImage_markTrips, r_t_firstImage_undoDay, r_t_firstImage_undoEvent, v_t_secondImage_laws, v_t_secondImage_inspectors, v_t_secondImage_marks, v_t_secondImage_undos, r_t_secondImage_knownEvent, r_t_secondImage_kind, r_t_secondImage_trips, r_t_secondImage_markInspector, r_t_secondImage_markDay, r_t_secondImage_markEvents, r_t_secondImage_markValue, r_t_secondImage_markTrips, r_t_secondImage_undoDay, r_t_secondImage_undoEvent)
  else
    if x1 = 0 then
      bd14 (f_X0_copyFrom v_t_firstImage_laws v_t_firstImage_inspectors v_t_firstImage_marks v_t_firstImage_undos r_t_firstImage_knownEvent r_t_firstImage_kind r_t_firstImage_trips r_t_firstImage_markInspector r_t_firstImage_markDay r_t_firstImage_markEvents r_t_firstImage_markValue r_t_firstImage_markTrips r_t_firstImage_undoDay r_t_firstImage_undoEvent v_t_now_laws v_t_now_inspectors v_t_now_marks v_t_now_undos r_t_now_knownEvent r_t_now_kind r_t_now_trips r_t_now_markInspector r_t_now_markDay r_t_now_markEvents r_t_now_markValue r_t_now_markTrips r_t_now_undoDay r_t_now_undoEvent) fun u18 u19 u20 u21 u22 u23 u24 u25 u26 u27 u28 u29 u30 u31 =>
      some ((1 : Int32), (1 : Int32), v_t_secondKept, v_t_refusedBad, u18, u19, u20, u21, u22, u23, u24, u25, u26, u27, u28, u29, u30, u31, v_t_secondImage_laws, v_t_secondImage_inspectors, v_t_secondImage_marks, v_t_secondImage_undos, r_t_secondImage_knownEvent, r_t_secondImage_kind, r_t_secondImage_trips, r_t_secondImage_markInspector, r_t_secondImage_markDay, r_t_secondImage_markEvents, r_t_secondImage_markValue, r_t_secondImage_markTrips, r_t_secondImage_undoDay, r_t_secondImage_undoEvent)
    else
      bd14 (f_X0_copyFrom v_t_secondImage_laws v_t_secondImage_inspectors v_t_secondImage_marks v_t_secondImage_undos r_t_secondImage_knownEvent r_t_secondImage_kind r_t_secondImage_trips r_t_secondImage_markInspector r_t_secondImage_markDay r_t_secondImage_markEvents r_t_secondImage_markValue r_t_secondImage_markTrips r_t_secondImage_undoDay r_t_secondImage_undoEvent v_t_now_laws v_t_now_inspectors v_t_now_marks v_t_now_undos r_t_now_knownEvent r_t_now_kind r_t_now_trips r_t_now_markInspector r_t_now_markDay r_t_now_markEvents r_t_now_markValue r_t_now_markTrips r_t_now_undoDay r_t_now_undoEvent) fun u3 u4 u5 u6 u7 u8 u9 u10 u11 u12 u13 u14 u15 u16 =>
      some ((1 : Int32), v_t_firstKept, (1 : Int32), v_t_refusedBad, v_t_firstImage_laws, v_t_firstImage_inspectors, v_t_firstImage_marks, v_t_firstImage_undos, r_t_firstImage_knownEvent, r_t_firstImage_kind, r_t_firstImage_trips, r_t_firstImage_markInspector, r_t_firstImage_markDay, r_t_firstImage_markEvents, r_t_firstImage_markValue, r_t_firstImage_markTrips, r_t_firstImage_undoDay, r_t_firstImage_undoEvent, u3, u4, u5, u6, u7, u8, u9, u10, u11, u12, u13, u14, u15, u16)
def f_X4_from_J38 (x1 : Int32) (v_t_firstImage_laws : Int32) (v_t_firstImage_inspectors : Int32) (v_t_firstImage_marks : Int32) (v_t_firstImage_undos : Int32) (r_t_firstImage_knownEvent : Nat → Int32) (r_t_firstImage_kind : Nat → Int32) (r_t_firstImage_trips : Nat → Int32) (r_t_firstImage_markInspector : Nat → Int32) (r_t_firstImage_markDay : Nat → Int32) (r_t_firstImage_markEvents : Nat → Int32) (r_t_firstImage_markValue : Nat → Int32) (r_t_firstImage_markTrips : Nat → Int32) (r_t_firstImage_undoDay : Nat → Int32) (r_t_firstImage_undoEvent : Nat → Int32) (v_t_secondImage_laws : Int32) (v_t_secondImage_inspectors : Int32) (v_t_secondImage_marks : Int32) (v_t_secondImage_undos : Int32) (r_t_secondImage_knownEvent : Nat → Int32) (r_t_secondImage_kind : Nat → Int32) (r_t_secondImage_trips : Nat → Int32) (r_t_secondImage_markInspector : Nat → Int32) (r_t_secondImage_markDay : Nat → Int32) (r_t_secondImage_markEvents : Nat → Int32) (r_t_secondImage_markValue : Nat → Int32) (r_t_secondImage_markTrips : Nat → Int32) (r_t_secondImage_undoDay : Nat → Int32) (r_t_secondImage_undoEvent : Nat → Int32)  (v_t_refusedBad : Int32) (v_t_refusedNo : Int32) (v_t_now_laws : Int32) (v_t_now_inspectors : Int32) (v_t_now_marks : Int32) (v_t_now_undos : Int32) (r_t_now_knownEvent : Nat → Int32) (r_t_now_kind : Nat → Int32) (r_t_now_trips : Nat → Int32) (r_t_now_markInspector : Nat → Int32) (r_t_now_markDay : Nat → Int32) (r_t_now_markEvents : Nat → Int32) (r_t_now_markValue : Nat → Int32) (r_t_now_markTrips : Nat → Int32) (r_t_now_undoDay : Nat → Int32) (r_t_now_undoEvent : Nat → Int32) : Option (Int32 × Int32 × Int32 × Int32 × Int32 × Int32 × Int32 × (Nat → Int32) × (Nat → Int32) × (Nat → Int32) × (Nat → Int32) × (Nat → Int32) × (Nat → Int32) × (Nat → Int32) × (Nat → Int32) × (Nat → Int32) × (Nat → Int32)) :=
  if x1 = 0 then
    bd14 (f_X0_copyFrom v_t_now_laws v_t_now_inspectors v_t_now_marks v_t_now_undos r_t_now_knownEvent r_t_now_kind r_t_now_trips r_t_now_markInspector r_t_now_markDay r_t_now_markEvents r_t_now_markValue r_t_now_markTrips r_t_now_undoDay r_t_now_undoEvent v_t_firstImage_laws v_t_firstImage_inspectors v_t_firstImage_marks v_t_firstImage_undos r_t_firstImage_knownEvent r_t_firstImage_kind r_t_firstImage_trips r_t_firstImage_markInspector r_t_firstImage_markDay r_t_firstImage_markEvents r_t_firstImage_markValue r_t_firstImage_markTrips r_t_firstImage_undoDay r_t_firstImage_undoEvent) fun u20 u21 u22 u23 u24 u25 u26 u27 u28 u29 u30 u31 u32 u33 =>
    some ((1 : Int32), v_t_refusedBad, v_t_refusedNo, u20, u21, u22, u23, u24, u25, u26, u27, u28, u29, u30, u31, u32, u33)
  else
    bd14 (f_X0_copyFrom v_t_now_laws v_t_now_inspectors v_t_now_marks v_t_now_undos r_t_now_knownEvent r_t_now_kind r_t_now_trips r_t_now_markInspector r_t_now_markDay r_t_now_markEvents r_t_now_markValue r_t_now_markTrips r_t_now_undoDay r_t_now_undoEvent v_t_secondImage_laws v_t_secondImage_inspectors v_t_secondImage_marks v_t_secondImage_undos r_t_secondImage_knownEvent r_t_secondImage_kind r_t_secondImage_trips r_t_secondImage_markInspector r_t_secondImage_markDay r_t_secondImage_markEvents r_t_secondImage_markValue r_t_secondImage_markTrips r_t_secondImage_undoDay r_t_secondImage_undoEvent) fun u5 u6 u7 u8 u9 u10 u11 u12 u13 u14 u15 u16 u17 u18 =>
    some ((1 : Int32), v_t_refusedBad, v_t_refusedNo, u5, u6, u7, u8, u9, u10, u11, u12, u13, u14, u15, u16, u17, u18)
def f_X4_from_J33   (v_t_refusedBad : Int32) (v_t_refusedNo : Int32) (v_t_now_laws : Int32) (v_t_now_inspectors : Int32) (v_t_now_marks : Int32) (v_t_now_undos : Int32) (r_t_now_knownEvent : Nat → Int32) (r_t_now_kind : Nat → Int32) (r_t_now_trips : Nat → Int32) (r_t_now_markInspector : Nat → Int32) (r_t_now_markDay : Nat → Int32) (r_t_now_markEvents : Nat → Int32) (r_t_now_markValue : Nat → Int32) (r_t_now_markTrips : Nat → Int32) (r_t_now_undoDay : Nat → Int32) (r_t_now_undoEvent : Nat → Int32) : Option (Int32 × Int32 × Int32 × Int32 × Int32 × Int32 × Int32 × (Nat → Int32) × (Nat → Int32) × (Nat → Int32) × (Nat → Int32) × (Nat → Int32) × (Nat → Int32) × (Nat → Int32) × (Nat → Int32) × (Nat → Int32) × (Nat → Int32)) :=
  bd2 (f_X4_refuseNo v_t_refusedNo) fun z35 u36 =>
  some (z35, v_t_refusedBad, u36, v_t_now_laws, v_t_now_inspectors, v_t_now_marks, v_t_now_undos, r_t_now_knownEvent, r_t_now_kind, r_t_now_trips, r_t_now_markInspector, r_t_now_markDay, r_t_now_markEvents, r_t_now_markValue, r_t_now_markTrips, r_t_now_undoDay, r_t_now_undoEvent)
def f_X4_from (x1 : Int32) (v_t_firstKept : Int32) (v_t_secondKept : Int32) (v_t_refusedBad : Int32) (v_t_refusedNo : Int32) (v_t_now_laws : Int32) (v_t_now_inspectors : Int32) (v_t_now_marks : Int32) (v_t_now_undos : Int32) (r_t_now_knownEvent : Nat → Int32) (r_t_now_kind : Nat → Int32) (r_t_now_trips : Nat → Int32) (r_t_now_markInspector : Nat → Int32) (r_t_now_markDay : Nat → Int32) (r_t_now_markEvents : Nat → Int32) (r_t_now_markValue : Nat → Int32) (r_t_now_markTrips : Nat → Int32) (r_t_now_undoDay : Nat → Int32) (r_t_now_undoEvent : Nat → Int32) (v_t_firstImage_laws : Int32) (v_t_firstImage_inspectors : Int32) (v_t_firstImage_marks : Int32) (v_t_firstImage_undos : Int32) (r_t_firstImage_knownEvent : Nat → Int32) (r_t_firstImage_kind : Nat → Int32) (r_t_firstImage_trips : Nat → Int32) (r_t_firstImage_markInspector : Nat → Int32) (r_t_firstImage_markDay : Nat → Int32) (r_t_firstImage_markEvents : Nat → Int32) (r_t_firstImage_markValue : Nat → Int32) (r_t_firstImage_markTrips : Nat → Int32) (r_t_firstImage_undoDay : Nat → Int32) (r_t_firstImage_undoEvent : Nat → Int32) (v_t_secondImage_laws : Int32) (v_t_secondImage_inspectors : Int32) (v_t_secondImage_marks : Int32) (v_t_secondImage_undos : Int32) (r_t_secondImage_knownEvent : Nat → Int32) (r_t_secondImage_kind : Nat → Int32) (r_t_secondImage_trips : Nat → Int32) (r_t_secondImage_markInspector : Nat → Int32) (r_t_secondImage_markDay : Nat → Int32) (r_t_secondImage_markEvents : Nat → Int32) (r_t_secondImage_markValue : Nat → Int32) (r_t_secondImage_markTrips : Nat → Int32) (r_t_secondImage_undoDay : Nat → Int32) (r_t_secondImage_undoEvent : Nat → Int32) : Option (Int32 × Int32 × Int32 × Int32 × Int32 × Int32 × Int32 × (Nat → Int32) × (Nat → Int32) × (Nat → Int32) × (Nat → Int32) × (Nat → Int32) × (Nat → Int32) × (Nat → Int32) × (Nat → Int32) × (Nat → Int32) × (Nat → Int32)) :=
  if (f_X4_isImage x1) = 0 then
    bd2 (f_X4_refuseBad v_t_refusedBad) fun z39 u40 =>
    some (z39, u40, v_t_refusedNo, v_t_now_laws, v_t_now_inspectors, v_t_now_marks, v_t_now_undos, r_t_now_knownEvent, r_t_now_kind, r_t_now_trips, r_t_now_markInspector, r_t_now_markDay, r_t_now_markEvents, r_t_now_markValue, r_t_now_markTrips, r_t_now_undoDay, r_t_now_undoEvent)
  else
    if x1 = 0 then
      if v_t_firstKept = 0 then
        f_X4_from_J33   v_t_refusedBad v_t_refusedNo v_t_now_laws v_t_now_inspectors v_t_now_marks v_t_now_undos r_t_now_knownEvent r_t_now_kind r_t_now_trips r_t_now_markInspector r_t_now_markDay r_t_now_markEvents r_t_now_markValue r_t_now_markTrips r_t_now_undoDay r_t_now_undoEvent
      else
        f_X4_from_J38 x1 v_t_firstImage_laws v_t_firstImage_inspectors v_t_firstImage_marks v_t_firstImage_undos r_t_firstImage_knownEvent r_t_firstImage_kind r_t_firstImage_trips r_t_firstImage_markInspector r_t_firstImage_markDay r_t_firstImage_markEvents r_t_firstImage_markValue r_t_firstImage_markTrips r_t_firstImage_undoDay r_t_firstImage_undoEvent v_t_secondImage_laws v_t_secondImage_inspectors v_t_secondImage_marks v_t_secondImage_undos r_t_secondImage_knownEvent r_t_secondImage_kind r_t_secondImage_trips r_t_secondImage_markInspector r_t_secondImage_markDay r_t_secondImage_markEvents r_t_secondImage_markValue r_t_secondImage_markTrips r_t_secondImage_undoDay r_t_secondImage_undoEvent  v_t_refusedBad v_t_refusedNo v_t_now_laws v_t_now_inspectors v_t_now_marks v_t_now_undos r_t_now_knownEvent r_t_now_kind r_t_now_trips r_t_now_markInspector r_t_now_markDay r_t_now_markEvents r_t_now_markValue r_t_now_markTrips r_t_now_undoDay r_t_now_undoEvent
    else
      if v_t_secondKept = 0 then
        f_X4_from_J33   v_t_refusedBad v_t_refusedNo v_t_now_laws v_t_now_inspectors v_t_now_marks v_t_now_undos r_t_now_knownEvent r_t_now_kind r_t_now_trips r_t_now_markInspector r_t_now_markDay r_t_now_markEvents r_t_now_markValue r_t_now_markTrips r_t_now_undoDay r_t_now_undoEvent
      else
        f_X4_from_J38 x1 v_t_firstImage_laws v_t_firstImage_inspectors v_t_firstImage_marks v_t_firstImage_undos r_t_firstImage_knownEvent r_t_firstImage_kind r_t_firstImage_trips r_t_firstImage_markInspector r_t_firstImage_markDay r_t_firstImage_markEvents r_t_firstImage_markValue r_t_firstImage_markTrips r_t_firstImage_undoDay r_t_firstImage_undoEvent v_t_secondImage_laws v_t_secondImage_inspectors v_t_secondImage_marks v_t_secondImage_undos r_t_secondImage_knownEvent r_t_secondImage_kind r_t_secondImage_trips r_t_secondImage_markInspector r_t_secondImage_markDay r_t_secondImage_markEvents r_t_secondImage_markValue r_t_secondImage_markTrips r_t_secondImage_undoDay r_t_secondImage_undoEvent  v_t_refusedBad v_t_refusedNo v_t_now_laws v_t_now_inspectors v_t_now_marks v_t_now_undos r_t_now_knownEvent r_t_now_kind r_t_now_trips r_t_now_markInspector r_t_now_markDay r_t_now_markEvents r_t_now_markValue r_t_now_markTrips r_t_now_undoDay r_t_now_undoEvent
def f_X4_status (x1 : Int32) (v_t_refusedBad : Int32) (v_t_refusedNo : Int32) (v_t_refusedFull : Int32) : Option (Int32 × Int32) :=
  if x1 = (0 : Int32) then
    some (v_t_refusedBad, v_t_refusedBad)
  else
    if x1 = (1 : Int32) then
      some (v_t_refusedNo, v_t_refusedBad)
    else
      if x1 = (2 : Int32) then
        some (v_t_refusedFull, v_t_refusedBad)
      else
        bd2 (f_X4_refuseBad v_t_refusedBad) fun z4 u5 =>
        some ((-1 : Int32), u5)
def f_X4_howMany (x1 : Int32) (v_t_now_laws : Int32) (v_t_now_inspectors : Int32) (v_t_now_marks : Int32) (v_t_now_undos : Int32) (r_t_now_knownEvent : Nat → Int32) (v_t_text_length : Int32) : Option (Int32) :=
  if x1 = (0 : Int32) then
    some v_t_now_inspectors
  else
    if x1 = (1 : Int32) then
      some (f_J6_bitCount_0f7a4 v_t_now_laws)
    else
      if x1 = (2 : Int32) then
        some v_t_now_marks
      else
        if x1 = (3 : Int32) then
          bd1 (f_X0_knownDays r_t_now_knownEvent) fun z6 =>
          some z6
        else
          if x1 = (4 : Int32) then
            some v_t_now_undos
          else
            some v_t_text_length
def f_X4_count_J10   (v_t_refusedBad : Int32) : Option (Int32 × Int32) :=
  bd2 (f_X4_refuseBad v_t_refusedBad) fun z2 u3 =>
  some (z2, u3)
def f_X4_count (x1 : Int32) (v_t_refusedBad : Int32) (v_t_now_laws : Int32) (v_t_now_inspectors : Int32) (v_t_now_marks : Int32) (v_t_now_undos : Int32) (r_t_now_knownEvent : Nat → Int32) (v_t_text_length : Int32) : Option (Int32 × Int32) :=
  if x1 < 0 then
    f_X4_count_J10   v_t_refusedBad
  else
    if x1 < (6 : Int32) then
      bd1 (f_X4_howMany x1 v_t_now_laws v_t_now_inspectors v_t_now_marks v_t_now_undos r_t_now_knownEvent v_t_text_length) fun z6 =>
      some (z6, v_t_refusedBad)
    else
      f_X4_count_J10   v_t_refusedBad
def f_X4_digest_B6 (v_t_above : Int64) (v_t_below : Int64) (v_t_now_laws : Int32) (v_t_now_inspectors : Int32) (v_t_now_marks : Int32) (v_t_now_undos : Int32) (r_t_now_knownEvent : Nat → Int32) (r_t_now_kind : Nat → Int32) (r_t_now_trips : Nat → Int32) (r_t_now_markInspector : Nat → Int32) (r_t_now_markDay : Nat → Int32) (r_t_now_markEvents : Nat → Int32) (r_t_now_markValue : Nat → Int32) (r_t_now_markTrips : Nat → Int32) (v_t_text_length : Int32) (k6 : Int64 → Int32 → Option (Int64)) (y1 : Int64) (y3 : Int32) : Option (Int64) :=
  if (6 : Int32) ≤ y3 then
    bd1 (f_X0_digestOn y1 v_t_now_laws v_t_now_inspectors v_t_now_marks r_t_now_knownEvent r_t_now_kind r_t_now_trips r_t_now_markInspector r_t_now_markDay r_t_now_markEvents r_t_now_markValue r_t_now_markTrips) fun z2 =>
    some (((31 : Int64) * (((31 : Int64) * z2) + v_t_above)) + v_t_below)
  else
    bd1 (f_X4_howMany y3 v_t_now_laws v_t_now_inspectors v_t_now_marks v_t_now_undos r_t_now_knownEvent v_t_text_length) fun z4 =>
    k6 (((31 : Int64) * y1) + (Int32.toInt64 z4)) (y3 + (1 : Int32))
def f_X4_digest (v_t_above : Int64) (v_t_below : Int64) (v_t_now_laws : Int32) (v_t_now_inspectors : Int32) (v_t_now_marks : Int32) (v_t_now_undos : Int32) (r_t_now_knownEvent : Nat → Int32) (r_t_now_kind : Nat → Int32) (r_t_now_trips : Nat → Int32) (r_t_now_markInspector : Nat → Int32) (r_t_now_markDay : Nat → Int32) (r_t_now_markEvents : Nat → Int32) (r_t_now_markValue : Nat → Int32) (r_t_now_markTrips : Nat → Int32) (v_t_text_length : Int32) : Option (Int64) :=
  lq2 (f_X4_digest_B6 v_t_above v_t_below v_t_now_laws v_t_now_inspectors v_t_now_marks v_t_now_undos r_t_now_knownEvent r_t_now_kind r_t_now_trips r_t_now_markInspector r_t_now_markDay r_t_now_markEvents r_t_now_markValue r_t_now_markTrips v_t_text_length ) FU (1291 : Int64) (0 : Int32)
def f_X5_in (x0 : Int64) (x2 : Int64) (x4 : Int64) : Int32 :=
  if (lg_cmp x0 x2) < 0 then
    (0 : Int32)
  else
    if 0 < (lg_cmp x0 x4) then
      (0 : Int32)
    else
      (1 : Int32)
theorem nb_X5_in (x0 : Int64) (x2 : Int64) (x4 : Int64) : f_X5_in x0 x2 x4 &&& 1 = f_X5_in x0 x2 x4 := by
  simp only [f_X5_in]
  (repeat' split) <;> first | rfl | decide
def f_X5_bad (x1 : Int32) (r_t_refused : Nat → Int32) : Option (Int32 × (Nat → Int32)) :=
  some (x1, (upd r_t_refused (Int32.toNatClampNeg (0 : Int32)) ((r_t_refused (Int32.toNatClampNeg (0 : Int32))) + (1 : Int32))))
def f_X5_no (r_t_refused : Nat → Int32) : Option (Int32 × (Nat → Int32)) :=
  some ((-3 : Int32), (upd r_t_refused (Int32.toNatClampNeg (1 : Int32)) ((r_t_refused (Int32.toNatClampNeg (1 : Int32))) + (1 : Int32))))
def f_X5_full (r_t_refused : Nat → Int32) : Option (Int32 × (Nat → Int32)) :=
  some ((-4 : Int32), (upd r_t_refused (Int32.toNatClampNeg (2 : Int32)) ((r_t_refused (Int32.toNatClampNeg (2 : Int32))) + (1 : Int32))))
def f_X5_bits_B4  (k4 : Int32 → Int32 → Option (Int32)) (y1 : Int32) (y2 : Int32) : Option (Int32) :=
  if y2 ≤ 0 then
    some y1
  else
    k4 (y1 + (y2 &&& (1 : Int32))) (y2 >>> ((1 : Int32) &&& 31))
def f_X5_bits (x0 : Int32) : Option (Int32) :=
  lq2 (f_X5_bits_B4  ) FU (0 : Int32) x0
def f_X5_has (x0 : Int32) (x1 : Int32) : Int32 :=
  if ((x0 >>> (x1 &&& 31)) &&& (1 : Int32)) = (1 : Int32) then
    (1 : Int32)
  else
    (0 : Int32)
theorem nb_X5_has (x0 : Int32) (x1 : Int32) : f_X5_has x0 x1 &&& 1 = f_X5_has x0 x1 := by
  simp only [f_X5_has]
  (repeat' split) <;> first | rfl | decide
def f_X5_begin_B20 (n_p0 : Nat) (k20 : Int32 → (Nat → Int32) → Option ((Nat → Int32))) (y1 : Int32) (r_p0 : Nat → Int32) : Option ((Nat → Int32)) :=
  if (6 : Int32) ≤ y1 then
    some r_p0
  else
    ckI ((4 : Int32) + y1) n_p0 <|
    k20 (y1 + (1 : Int32)) (upd r_p0 (Int32.toNatClampNeg ((4 : Int32) + y1)) (-1 : Int32))
def f_X5_begin_B2 (n_p0 : Nat) (k2 : Int32 → (Nat → Int32) → Option ((Nat → Int32))) (y1 : Int32) (r_p0 : Nat → Int32) : Option ((Nat → Int32)) :=
  if (58 : Int32) ≤ y1 then
    lq2 (f_X5_begin_B20 n_p0 ) FU (0 : Int32) r_p0
  else
    ckI y1 n_p0 <|
    k2 (y1 + (1 : Int32)) (upd r_p0 (Int32.toNatClampNeg y1) (0 : Int32))
def f_X5_begin (n_p0 : Nat) (r_p0 : Nat → Int32) : Option ((Nat → Int32)) :=
  lq2 (f_X5_begin_B2 n_p0 ) FU (0 : Int32) r_p0
def f_X5_many (r_t_now : Nat → Int32) : Int32 :=
  (r_t_now (Int32.toNatClampNeg (0 : Int32)))
def f_X5_marks (r_t_now : Nat → Int32) : Int32 :=
  (r_t_now (Int32.toNatClampNeg (3 : Int32)))
def f_X5_isOne (x1 : Int32) (r_t_now : Nat → Int32) : Int32 :=
  (f_X5_in (Int32.toInt64 x1) (0 : Int64) (Int32.toInt64 ((f_X5_many r_t_now) - (1 : Int32))))
theorem nb_X5_isOne (x1 : Int32) (r_t_now : Nat → Int32) : f_X5_isOne x1 r_t_now &&& 1 = f_X5_isOne x1 r_t_now := by
  simp only [f_X5_isOne]
  (repeat' split) <;> first | rfl | decide | exact nb_X5_in _ _ _
def f_X5_isDay (x0 : Int32) : Int32 :=
  (f_X5_in (Int32.toInt64 x0) (0 : Int64) (5 : Int64))
theorem nb_X5_isDay (x0 : Int32) : f_X5_isDay x0 &&& 1 = f_X5_isDay x0 := by
  simp only [f_X5_isDay]
  (repeat' split) <;> first | rfl | decide | exact nb_X5_in _ _ _
def f_X5_isEvent (x0 : Int32) : Int32 :=
  (f_X5_in (Int32.toInt64 x0) (0 : Int64) (3 : Int64))
theorem nb_X5_isEvent (x0 : Int32) : f_X5_isEvent x0 &&& 1 = f_X5_isEvent x0 := by
  simp only [f_X5_isEvent]
  (repeat' split) <;> first | rfl | decide | exact nb_X5_in _ _ _
def f_X5_areEvents (x0 : Int32) : Int32 :=
  (f_X5_in (Int32.toInt64 x0) (1 : Int64) (14 : Int64))
theorem nb_X5_areEvents (x0 : Int32) : f_X5_areEvents x0 &&& 1 = f_X5_areEvents x0 := by
  simp only [f_X5_areEvents]
  (repeat' split) <;> first | rfl | decide | exact nb_X5_in _ _ _
def f_X5_get (x1 : Int32) (x2 : Int32) (r_t_now : Nat → Int32) : Option (Int32) :=
  ckI (((18 : Int32) + ((5 : Int32) * x1)) + x2) 146 <|
  some (r_t_now (Int32.toNatClampNeg (((18 : Int32) + ((5 : Int32) * x1)) + x2)))
def f_X5_office (r_t_now : Nat → Int32) : Option (Int32 × (Nat → Int32)) :=
  bd1 (f_X5_begin 146 r_t_now) fun u1 =>
  some ((f_X5_many r_t_now), u1)
def f_X5_never_J14   (r_t_now : Nat → Int32) (r_t_refused : Nat → Int32) : Option (Int32 × (Nat → Int32) × (Nat → Int32)) :=
  bd2 (f_X5_bad (-2 : Int32) r_t_refused) fun z2 u3 =>
  some (z2, r_t_now, u3)
def f_X5_never (x1 : Int32) (x2 : Int32) (r_t_now : Nat → Int32) (r_t_refused : Nat → Int32) : Option (Int32 × (Nat → Int32) × (Nat → Int32)) :=
  if (f_X5_isEvent x1) = 0 then
    f_X5_never_J14   r_t_now r_t_refused
  else
    if (f_X5_isEvent x2) = 0 then
      f_X5_never_J14   r_t_now r_t_refused
    else
      bd1 (f_X5_bits (((upd (upd r_t_now (Int32.toNatClampNeg (1 : Int32)) ((r_t_now (Int32.toNatClampNeg (1 : Int32))) ||| ((1 : Int32) <<< ((((4 : Int32) * x1) + x2) &&& 31)))) (Int32.toNatClampNeg (2 : Int32)) (0 : Int32))) (Int32.toNatClampNeg (1 : Int32)))) fun z6 =>
      some (z6, (upd (upd r_t_now (Int32.toNatClampNeg (1 : Int32)) ((r_t_now (Int32.toNatClampNeg (1 : Int32))) ||| ((1 : Int32) <<< ((((4 : Int32) * x1) + x2) &&& 31)))) (Int32.toNatClampNeg (2 : Int32)) (0 : Int32)), r_t_refused)
def f_X5_layOne (x1 : Int32) (x2 : Int32) (n_p0 : Nat) (r_p0 : Nat → Int32) : Option ((Nat → Int32)) :=
  ckI (0 : Int32) n_p0 <|
  ckI ((14 : Int32) + (r_p0 (Int32.toNatClampNeg (0 : Int32)))) n_p0 <|
  ckI ((10 : Int32) + (((upd r_p0 (Int32.toNatClampNeg ((14 : Int32) + (r_p0 (Int32.toNatClampNeg (0 : Int32))))) x1)) (Int32.toNatClampNeg (0 : Int32)))) n_p0 <|
  some (upd (upd (upd r_p0 (Int32.toNatClampNeg ((14 : Int32) + (r_p0 (Int32.toNatClampNeg (0 : Int32))))) x1) (Int32.toNatClampNeg ((10 : Int32) + (((upd r_p0 (Int32.toNatClampNeg ((14 : Int32) + (r_p0 (Int32.toNatClampNeg (0 : Int32))))) x1)) (Int32.toNatClampNeg (0 : Int32))))) x2) (Int32.toNatClampNeg (0 : Int32)) ((((upd (upd r_p0 (Int32.toNatClampNeg ((14 : Int32) + (r_p0 (Int32.toNatClampNeg (0 : Int32))))) x1) (Int32.toNatClampNeg ((10 : Int32) + (((upd r_p0 (Int32.toNatClampNeg ((14 : Int32) + (r_p0 (Int32.toNatClampNeg (0 : Int32))))) x1)) (Int32.toNatClampNeg (0 : Int32))))) x2)) (Int32.toNatClampNeg (0 : Int32))) + (1 : Int32)))
def f_X5_one_J24   (r_t_now : Nat → Int32) (r_t_refused : Nat → Int32) : Option (Int32 × (Nat → Int32) × (Nat → Int32)) :=
  bd2 (f_X5_bad (-2 : Int32) r_t_refused) fun z2 u3 =>
  some (z2, r_t_now, u3)
def f_X5_one (x1 : Int32) (x2 : Int32) (r_t_now : Nat → Int32) (r_t_refused : Nat → Int32) : Option (Int32 × (Nat → Int32) × (Nat → Int32)) :=
  if (f_X5_in (Int32.toInt64 x1) (0 : Int64) (5 : Int64)) = 0 then
    f_X5_one_J24   r_t_now r_t_refused
  else
    if (f_X5_in (Int32.toInt64 x2) (0 : Int64) (9 : Int64)) = 0 then
      f_X5_one_J24   r_t_now r_t_refused
    else
      if (f_X5_many r_t_now) = (4 : Int32) then
        bd2 (f_X5_full r_t_refused) fun z9 u10 =>
        some (z9, r_t_now, u10)
      else
        bd1 (f_X5_layOne x1 x2 146 r_t_now) fun u7 =>
        some (((f_X5_many (upd u7 (Int32.toNatClampNeg (2 : Int32)) (0 : Int32))) - (1 : Int32)), (upd u7 (Int32.toNatClampNeg (2 : Int32)) (0 : Int32)), r_t_refused)
def f_X5_markAs_J24 (x0 : Int32) (x2 : Int32) (x3 : Int32) (x4 : Int32)  (y5 : Int32) (s0 : Int32) : Int32 :=
  if x0 = (1 : Int32) then
    if x2 < (4 : Int32) then
      y5
    else
      (1 : Int32)
  else
    if x0 = (2 : Int32) then
      s0
    else
      if x0 = (3 : Int32) then
        ((1 : Int32) - y5)
      else
        if x0 = (4 : Int32) then
          if x4 < (3 : Int32) then
            s0
          else
            (2 : Int32)
        else
          if x0 = (5 : Int32) then
            if x3 = (3 : Int32) then
              (1 : Int32)
            else
              ((1 : Int32) - y5)
          else
            y5
def f_X5_markAs_J9 (x0 : Int32) (x2 : Int32) (x3 : Int32) (x4 : Int32)  (s0 : Int32) : Int32 :=
  if (x2 - x2 / (2 : Int32) * (2 : Int32)) = (1 : Int32) then
    f_X5_markAs_J24 x0 x2 x3 x4  s0 (2 : Int32)
  else
    f_X5_markAs_J24 x0 x2 x3 x4  s0 s0
def f_X5_markAs (x0 : Int32) (x1 : Int32) (x2 : Int32) (x3 : Int32) (x4 : Int32) : Int32 :=
  if x1 = 0 then
    f_X5_markAs_J9 x0 x2 x3 x4  (0 : Int32)
  else
    f_X5_markAs_J9 x0 x2 x3 x4  (1 : Int32)
def f_X5_keep_B53  (k53 : Int32 → (Nat → Int32) → Option ((Nat → Int32))) (y1 : Int32) (r_t_now : Nat → Int32) : Option ((Nat → Int32)) :=
  if (11 : Int32) ≤ y1 then
    some (upd r_t_now (Int32.toNatClampNeg (2 : Int32)) ((r_t_now (Int32.toNatClampNeg (2 : Int32))) + (1 : Int32)))
  else
    ckI ((3 : Int32) + y1) 146 <|
    ckI (((58 : Int32) + ((11 : Int32) * (r_t_now (Int32.toNatClampNeg (2 : Int32))))) + y1) 146 <|
    k53 (y1 + (1 : Int32)) (upd r_t_now (Int32.toNatClampNeg (((58 : Int32) + ((11 : Int32) * (r_t_now (Int32.toNatClampNeg (2 : Int32))))) + y1)) (r_t_now (Int32.toNatClampNeg ((3 : Int32) + y1))))
def f_X5_keep_B13  (k13 : Int32 → (Nat → Int32) → Option ((Nat → Int32))) (y1 : Int32) (r_t_now : Nat → Int32) : Option ((Nat → Int32)) :=
  if (77 : Int32) ≤ y1 then
    lq2 (f_X5_keep_B53  ) FU (0 : Int32) (upd r_t_now (Int32.toNatClampNeg (2 : Int32)) (7 : Int32))
  else
    ckI ((69 : Int32) + y1) 146 <|
    ckI ((58 : Int32) + y1) 146 <|
    k13 (y1 + (1 : Int32)) (upd r_t_now (Int32.toNatClampNeg ((58 : Int32) + y1)) (r_t_now (Int32.toNatClampNeg ((69 : Int32) + y1))))
def f_X5_keep (r_t_now : Nat → Int32) : Option ((Nat → Int32)) :=
  if (r_t_now (Int32.toNatClampNeg (2 : Int32))) = (8 : Int32) then
    lq2 (f_X5_keep_B13  ) FU (0 : Int32) r_t_now
  else
    lq2 (f_X5_keep_B53  ) FU (0 : Int32) r_t_now
def f_X5_layMark (x1 : Int32) (x2 : Int32) (x3 : Int32) (x4 : Int32) (n_p0 : Nat) (r_p0 : Nat → Int32) : Option ((Nat → Int32)) :=
  ckI (3 : Int32) n_p0 <|
  ckI (((18 : Int32) + ((5 : Int32) * (r_p0 (Int32.toNatClampNeg (3 : Int32))))) + (0 : Int32)) n_p0 <|
  ckI (((18 : Int32) + ((5 : Int32) * (r_p0 (Int32.toNatClampNeg (3 : Int32))))) + (1 : Int32)) n_p0 <|
  ckI (((18 : Int32) + ((5 : Int32) * (r_p0 (Int32.toNatClampNeg (3 : Int32))))) + (2 : Int32)) n_p0 <|
  ckI (((18 : Int32) + ((5 : Int32) * (r_p0 (Int32.toNatClampNeg (3 : Int32))))) + (3 : Int32)) n_p0 <|
  ckI ((10 : Int32) + x1) n_p0 <|
  ckI (((18 : Int32) + ((5 : Int32) * (r_p0 (Int32.toNatClampNeg (3 : Int32))))) + (4 : Int32)) n_p0 <|
  some (upd (upd (upd (upd (upd (upd (upd r_p0 (Int32.toNatClampNeg (((18 : Int32) + ((5 : Int32) * (r_p0 (Int32.toNatClampNeg (3 : Int32))))) + (0 : Int32))) x1) (Int32.toNatClampNeg (((18 : Int32) + ((5 : Int32) * (r_p0 (Int32.toNatClampNeg (3 : Int32))))) + (1 : Int32))) x2) (Int32.toNatClampNeg (((18 : Int32) + ((5 : Int32) * (r_p0 (Int32.toNatClampNeg (3 : Int32))))) + (2 : Int32))) x3) (Int32.toNatClampNeg (((18 : Int32) + ((5 : Int32) * (r_p0 (Int32.toNatClampNeg (3 : Int32))))) + (3 : Int32))) x4) (Int32.toNatClampNeg (((18 : Int32) + ((5 : Int32) * (r_p0 (Int32.toNatClampNeg (3 : Int32))))) + (4 : Int32))) (((upd (upd (upd (upd r_p0 (Int32.toNatClampNeg (((18 : Int32) + ((5 : Int32) * (r_p0 (Int32.toNatClampNeg (3 : Int32))))) + (0 : Int32))) x1) (Int32.toNatClampNeg (((18 : Int32) + ((5 : Int32) * (r_p0 (Int32.toNatClampNeg (3 : Int32))))) + (1 : Int32))) x2) (Int32.toNatClampNeg (((18 : Int32) + ((5 : Int32) * (r_p0 (Int32.toNatClampNeg (3 : Int32))))) + (2 : Int32))) x3) (Int32.toNatClampNeg (((18 : Int32) + ((5 : Int32) * (r_p0 (Int32.toNatClampNeg (3 : Int32))))) + (3 : Int32))) x4)) (Int32.toNatClampNeg ((10 : Int32) + x1)))) (Int32.toNatClampNeg ((10 : Int32) + x1)) ((((upd (upd (upd (upd (upd r_p0 (Int32.toNatClampNeg (((18 : Int32) + ((5 : Int32) * (r_p0 (Int32.toNatClampNeg (3 : Int32))))) + (0 : Int32))) x1) (Int32.toNatClampNeg (((18 : Int32) + ((5 : Int32) * (r_p0 (Int32.toNatClampNeg (3 : Int32))))) + (1 : Int32))) x2) (Int32.toNatClampNeg (((18 : Int32) + ((5 : Int32) * (r_p0 (Int32.toNatClampNeg (3 : Int32))))) + (2 : Int32))) x3) (Int32.toNatClampNeg (((18 : Int32) + ((5 : Int32) * (r_p0 (Int32.toNatClampNeg (3 : Int32))))) + (3 : Int32))) x4) (Int32.toNatClampNeg (((18 : Int32) + ((5 : Int32) * (r_p0 (Int32.toNatClampNeg (3 : Int32))))) + (4 : Int32))) (((upd (upd (upd (upd r_p0 (Int32.toNatClampNeg (((18 : Int32) + ((5 : Int32) * (r_p0 (Int32.toNatClampNeg (3 : Int32))))) + (0 : Int32))) x1) (Int32.toNatClampNeg (((18 : Int32) + ((5 : Int32) * (r_p0 (Int32.toNatClampNeg (3 : Int32))))) + (1 : Int32))) x2) (Int32.toNatClampNeg (((18 : Int32) + ((5 : Int32) * (r_p0 (Int32.toNatClampNeg (3 : Int32))))) + (2 : Int32))) x3) (Int32.toNatClampNeg (((18 : Int32) + ((5 : Int32) * (r_p0 (Int32.toNatClampNeg (3 : Int32))))) + (3 : Int32))) x4)) (Int32.toNatClampNeg ((10 : Int32) + x1))))) (Int32.toNatClampNeg ((10 : Int32) + x1))) + (1 : Int32))) (Int32.toNatClampNeg (3 : Int32)) ((((upd (upd (upd (upd (upd (upd r_p0 (Int32.toNatClampNeg (((18 : Int32) + ((5 : Int32) * (r_p0 (Int32.toNatClampNeg (3 : Int32))))) + (0 : Int32))) x1) (Int32.toNatClampNeg (((18 : Int32) + ((5 : Int32) * (r_p0 (Int32.toNatClampNeg (3 : Int32))))) + (1 : Int32))) x2) (Int32.toNatClampNeg (((18 : Int32) + ((5 : Int32) * (r_p0 (Int32.toNatClampNeg (3 : Int32))))) + (2 : Int32))) x3) (Int32.toNatClampNeg (((18 : Int32) + ((5 : Int32) * (r_p0 (Int32.toNatClampNeg (3 : Int32))))) + (3 : Int32))) x4) (Int32.toNatClampNeg (((18 : Int32) + ((5 : Int32) * (r_p0 (Int32.toNatClampNeg (3 : Int32))))) + (4 : Int32))) (((upd (upd (upd (upd r_p0 (Int32.toNatClampNeg (((18 : Int32) + ((5 : Int32) * (r_p0 (Int32.toNatClampNeg (3 : Int32))))) + (0 : Int32))) x1) (Int32.toNatClampNeg (((18 : Int32) + ((5 : Int32) * (r_p0 (Int32.toNatClampNeg (3 : Int32))))) + (1 : Int32))) x2) (Int32.toNatClampNeg (((18 : Int32) + ((5 : Int32) * (r_p0 (Int32.toNatClampNeg (3 : Int32))))) + (2 : Int32))) x3) (Int32.toNatClampNeg (((18 : Int32) + ((5 : Int32) * (r_p0 (Int32.toNatClampNeg (3 : Int32))))) + (3 : Int32))) x4)) (Int32.toNatClampNeg ((10 : Int32) + x1)))) (Int32.toNatClampNeg ((10 : Int32) + x1)) ((((upd (upd (upd (upd (upd r_p0 (Int32.toNatClampNeg (((18 : Int32) + ((5 : Int32) * (r_p0 (Int32.toNatClampNeg (3 : Int32))))) + (0 : Int32))) x1) (Int32.toNatClampNeg (((18 : Int32) + ((5 : Int32) * (r_p0 (Int32.toNatClampNeg (3 : Int32))))) + (1 : Int32))) x2) (Int32.toNatClampNeg (((18 : Int32) + ((5 : Int32) * (r_p0 (Int32.toNatClampNeg (3 : Int32))))) + (2 : Int32))) x3) (Int32.toNatClampNeg (((18 : Int32) + ((5 : Int32) * (r_p0 (Int32.toNatClampNeg (3 : Int32))))) + (3 : Int32))) x4) (Int32.toNatClampNeg (((18 : Int32) + ((5 : Int32) * (r_p0 (Int32.toNatClampNeg (3 : Int32))))) + (4 : Int32))) (((upd (upd (upd (upd r_p0 (Int32.toNatClampNeg (((18 : Int32) + ((5 : Int32) * (r_p0 (Int32.toNatClampNeg (3 : Int32))))) + (0 : Int32))) x1) (Int32.toNatClampNeg (((18 : Int32) + ((5 : Int32) * (r_p0 (Int32.toNatClampNeg (3 : Int32))))) + (1 : Int32))) x2) (Int32.toNatClampNeg (((18 : Int32) + ((5 : Int32) * (r_p0 (Int32.toNatClampNeg (3 : Int32))))) + (2 : Int32))) x3) (Int32.toNatClampNeg (((18 : Int32) + ((5 : Int32) * (r_p0 (Int32.toNatClampNeg (3 : Int32))))) + (3 : Int32))) x4)) (Int32.toNatClampNeg ((10 : Int32) + x1))))) (Int32.toNatClampNeg ((10 : Int32) + x1))) + (1 : Int32)))) (Int32.toNatClampNeg (3 : Int32))) + (1 : Int32)))
def f_X5_mark_J35   (r_t_now : Nat → Int32) (r_t_refused : Nat → Int32) : Option (Int32 × (Nat → Int32) × (Nat → Int32)) :=
  bd2 (f_X5_bad (-2 : Int32) r_t_refused) fun z2 u3 =>
  some (z2, r_t_now, u3)
def f_X5_mark (x1 : Int32) (x2 : Int32) (x3 : Int32) (x4 : Int32) (r_t_now : Nat → Int32) (r_t_refused : Nat → Int32) : Option (Int32 × (Nat → Int32) × (Nat → Int32)) :=
  if (f_X5_isOne x1 r_t_now) = 0 then
    f_X5_mark_J35   r_t_now r_t_refused
  else
    if (f_X5_isDay x2) = 0 then
      f_X5_mark_J35   r_t_now r_t_refused
    else
      if (f_X5_areEvents x3) = 0 then
        f_X5_mark_J35   r_t_now r_t_refused
      else
        if (f_X5_in (Int32.toInt64 x4) (0 : Int64) (2 : Int64)) = 0 then
          f_X5_mark_J35   r_t_now r_t_refused
        else
          if (f_X5_marks r_t_now) = (8 : Int32) then
            bd2 (f_X5_full r_t_refused) fun z13 u14 =>
            some (z13, r_t_now, u14)
          else
            bd1 (f_X5_keep r_t_now) fun u9 =>
            bd1 (f_X5_layMark x1 x2 x3 x4 146 u9) fun u11 =>
            some ((f_X5_marks u11), u11, r_t_refused)
def f_X5_known_J21   (r_t_now : Nat → Int32) (r_t_refused : Nat → Int32) : Option (Int32 × (Nat → Int32) × (Nat → Int32)) :=
  bd2 (f_X5_bad (-10 : Int32) r_t_refused) fun z2 u3 =>
  some (z2, r_t_now, u3)
def f_X5_known (x1 : Int32) (x2 : Int32) (r_t_now : Nat → Int32) (r_t_refused : Nat → Int32) : Option (Int32 × (Nat → Int32) × (Nat → Int32)) :=
  if (f_X5_isDay x1) = 0 then
    f_X5_known_J21   r_t_now r_t_refused
  else
    if (f_X5_in (Int32.toInt64 x2) (-1 : Int64) (3 : Int64)) = 0 then
      f_X5_known_J21   r_t_now r_t_refused
    else
      ckI ((4 : Int32) + x1) 146 <|
      bd1 (f_X5_keep r_t_now) fun u7 =>
      some ((r_t_now (Int32.toNatClampNeg ((4 : Int32) + x1))), (upd u7 (Int32.toNatClampNeg ((4 : Int32) + x1)) x2), r_t_refused)
def f_X5_undo_B26  (k26 : Int32 → (Nat → Int32) → (Nat → Int32) → Option (Int32 × (Nat → Int32) × (Nat → Int32))) (y1 : Int32) (r_t_now : Nat → Int32) (r_t_refused : Nat → Int32) : Option (Int32 × (Nat → Int32) × (Nat → Int32)) :=
  if (11 : Int32) ≤ y1 then
    some ((f_X5_marks r_t_now), r_t_now, r_t_refused)
  else
    ckI (((58 : Int32) + ((11 : Int32) * (r_t_now (Int32.toNatClampNeg (2 : Int32))))) + y1) 146 <|
    ckI ((3 : Int32) + y1) 146 <|
    k26 (y1 + (1 : Int32)) (upd r_t_now (Int32.toNatClampNeg ((3 : Int32) + y1)) (r_t_now (Int32.toNatClampNeg (((58 : Int32) + ((11 : Int32) * (r_t_now (Int32.toNatClampNeg (2 : Int32))))) + y1)))) r_t_refused
def f_X5_undo (r_t_now : Nat → Int32) (r_t_refused : Nat → Int32) : Option (Int32 × (Nat → Int32) × (Nat → Int32)) :=
  if (r_t_now (Int32.toNatClampNeg (2 : Int32))) = 0 then
    bd2 (f_X5_no r_t_refused) fun z5 u6 =>
    some (z5, r_t_now, u6)
  else
    lq3 (f_X5_undo_B26  ) FU (0 : Int32) (upd r_t_now (Int32.toNatClampNeg (2 : Int32)) ((r_t_now (Int32.toNatClampNeg (2 : Int32))) - (1 : Int32))) r_t_refused
def f_X5_of_J18   (r_t_refused : Nat → Int32) : Option (Int32 × (Nat → Int32)) :=
  bd2 (f_X5_bad (-2 : Int32) r_t_refused) fun z2 u3 =>
  some (z2, u3)
def f_X5_of (x1 : Int32) (x2 : Int32) (r_t_now : Nat → Int32) (r_t_refused : Nat → Int32) : Option (Int32 × (Nat → Int32)) :=
  if (f_X5_isOne x1 r_t_now) = 0 then
    f_X5_of_J18   r_t_refused
  else
    if (f_X5_in (Int32.toInt64 x2) (0 : Int64) (1 : Int64)) = 0 then
      f_X5_of_J18   r_t_refused
    else
      if x2 = 0 then
        ckI ((14 : Int32) + x1) 146 <|
        some ((r_t_now (Int32.toNatClampNeg ((14 : Int32) + x1))), r_t_refused)
      else
        ckI ((10 : Int32) + x1) 146 <|
        some ((r_t_now (Int32.toNatClampNeg ((10 : Int32) + x1))), r_t_refused)
def f_X5_eventOf (x0 : Int32) (x1 : Int32) : Int32 :=
  ((x0 >>> (((2 : Int32) * ((5 : Int32) - x1)) &&& 31)) &&& (3 : Int32))
def f_X5_isWorld_J54 (r_t_now : Nat → Int32) (k4 : Int32 → Int32 → Option (Int32)) (y3 : Int32) (y4 : Int32) (s0 : Int32) : Option (Int32) :=
  if s0 = 0 then
    k4 (0 : Int32) (y3 + (1 : Int32))
  else
    ckI ((4 : Int32) + y3) 146 <|
    if (r_t_now (Int32.toNatClampNeg ((4 : Int32) + y3))) = (-1 : Int32) then
      k4 (1 : Int32) (y3 + (1 : Int32))
    else
      if (r_t_now (Int32.toNatClampNeg ((4 : Int32) + y3))) = y4 then
        k4 (1 : Int32) (y3 + (1 : Int32))
      else
        k4 (0 : Int32) (y3 + (1 : Int32))
def f_X5_isWorld_B4 (x1 : Int32) (r_t_now : Nat → Int32) (k4 : Int32 → Int32 → Option (Int32)) (y2 : Int32) (y3 : Int32) : Option (Int32) :=
  if (6 : Int32) ≤ y3 then
    ckB y2 <|
    some y2
  else
    if y2 = 0 then
      ckB y2 <|
      some y2
    else
      if y3 = 0 then
        f_X5_isWorld_J54 r_t_now k4 y3 (f_X5_eventOf x1 y3) (1 : Int32)
      else
        if (f_X5_has (r_t_now (Int32.toNatClampNeg (1 : Int32))) (((4 : Int32) * (f_X5_eventOf x1 (y3 - (1 : Int32)))) + (f_X5_eventOf x1 y3))) = 0 then
          f_X5_isWorld_J54 r_t_now k4 y3 (f_X5_eventOf x1 y3) (1 : Int32)
        else
          f_X5_isWorld_J54 r_t_now k4 y3 (f_X5_eventOf x1 y3) (0 : Int32)
def f_X5_isWorld (x1 : Int32) (r_t_now : Nat → Int32) : Option (Int32) :=
  lq2 (f_X5_isWorld_B4 x1 r_t_now ) FU (1 : Int32) (0 : Int32)
def f_X5_layKinds_B2 (r_t_now : Nat → Int32) (k2 : Int32 → (Nat → Int32) → Option ((Nat → Int32))) (y1 : Int32) (r_t_kinds : Nat → Int32) : Option ((Nat → Int32)) :=
  if (f_X5_many r_t_now) ≤ y1 then
    some r_t_kinds
  else
    ckI ((14 : Int32) + y1) 146 <|
    ckI y1 4 <|
    k2 (y1 + (1 : Int32)) (upd r_t_kinds (Int32.toNatClampNeg y1) (r_t_now (Int32.toNatClampNeg ((14 : Int32) + y1))))
def f_X5_layKinds (r_t_now : Nat → Int32) (r_t_kinds : Nat → Int32) : Option ((Nat → Int32)) :=
  lq2 (f_X5_layKinds_B2 r_t_now ) FU (0 : Int32) r_t_kinds
def f_X5_wrongIn_B4 (x1 : Int32) (r_t_now : Nat → Int32) (r_t_kinds : Nat → Int32) (k4 : Int32 → Int32 → Option (Int32)) (y2 : Int32) (y3 : Int32) : Option (Int32) :=
  if (f_X5_marks r_t_now) ≤ y3 then
    some y2
  else
    bd1 (f_X5_get y3 (2 : Int32) r_t_now) fun z2 =>
    bd1 (f_X5_get y3 (1 : Int32) r_t_now) fun z4 =>
    bd1 (f_X5_get y3 (0 : Int32) r_t_now) fun z6 =>
    ckI z6 4 <|
    bd1 (f_X5_get y3 (1 : Int32) r_t_now) fun z9 =>
    bd1 (f_X5_get y3 (2 : Int32) r_t_now) fun z11 =>
    bd1 (f_X5_bits z11) fun z13 =>
    bd1 (f_X5_get y3 (4 : Int32) r_t_now) fun z15 =>
    bd1 (f_X5_get y3 (3 : Int32) r_t_now) fun z17 =>
    if (f_X5_markAs (r_t_kinds (Int32.toNatClampNeg z6)) (f_X5_has z2 (f_X5_eventOf x1 z4)) z9 z13 z15) = z17 then
      k4 (y2 ||| (0 : Int32)) (y3 + (1 : Int32))
    else
      k4 (y2 ||| ((1 : Int32) <<< (y3 &&& 31))) (y3 + (1 : Int32))
def f_X5_wrongIn (x1 : Int32) (r_t_now : Nat → Int32) (r_t_kinds : Nat → Int32) : Option (Int32) :=
  lq2 (f_X5_wrongIn_B4 x1 r_t_now r_t_kinds ) FU (0 : Int32) (0 : Int32)
def f_X5_layFit_B67  (k32 : Int32 → Int32 → (Nat → Int32) → (Nat → Int32) → Option (Int32 × (Nat → Int32) × (Nat → Int32))) (k67 : Int32 → Int32 → Int32 → (Nat → Int32) → (Nat → Int32) → Option (Int32 × (Nat → Int32) × (Nat → Int32))) (y1 : Int32) (y2 : Int32) (v_t_manyFit : Int32) (r_t_kinds : Nat → Int32) (r_t_have : Nat → Int32) : Option (Int32 × (Nat → Int32) × (Nat → Int32)) :=
  if (6 : Int32) ≤ y2 then
    k32 (y1 + (1 : Int32)) v_t_manyFit r_t_kinds r_t_have
  else
    ckI (((4 : Int32) * y2) + (f_X5_eventOf y1 y2)) 24 <|
    k67 y1 (y2 + (1 : Int32)) v_t_manyFit r_t_kinds (upd r_t_have (Int32.toNatClampNeg (((4 : Int32) * y2) + (f_X5_eventOf y1 y2))) ((r_t_have (Int32.toNatClampNeg (((4 : Int32) * y2) + (f_X5_eventOf y1 y2)))) + (1 : Int32)))
def f_X5_layFit_B32 (r_t_now : Nat → Int32) (k32 : Int32 → Int32 → (Nat → Int32) → (Nat → Int32) → Option (Int32 × (Nat → Int32) × (Nat → Int32))) (y1 : Int32) (v_t_manyFit : Int32) (r_t_kinds : Nat → Int32) (r_t_have : Nat → Int32) : Option (Int32 × (Nat → Int32) × (Nat → Int32)) :=
  if (4096 : Int32) ≤ y1 then
    some (v_t_manyFit, r_t_kinds, r_t_have)
  else
    bd1 (f_X5_isWorld y1 r_t_now) fun z5 =>
    if z5 = 0 then
      k32 (y1 + (1 : Int32)) v_t_manyFit r_t_kinds r_t_have
    else
      bd1 (f_X5_wrongIn y1 r_t_now r_t_kinds) fun z8 =>
      if z8 = 0 then
        lq5 (f_X5_layFit_B67  k32) FU y1 (0 : Int32) (v_t_manyFit + (1 : Int32)) r_t_kinds r_t_have
      else
        k32 (y1 + (1 : Int32)) v_t_manyFit r_t_kinds r_t_have
def f_X5_layFit_B11 (r_t_now : Nat → Int32) (k11 : Int32 → Int32 → (Nat → Int32) → (Nat → Int32) → Option (Int32 × (Nat → Int32) × (Nat → Int32))) (y1 : Int32) (v_t_manyFit : Int32) (r_t_kinds : Nat → Int32) (r_t_have : Nat → Int32) : Option (Int32 × (Nat → Int32) × (Nat → Int32)) :=
  if (24 : Int32) ≤ y1 then
    lq4 (f_X5_layFit_B32 r_t_now ) FU (0 : Int32) v_t_manyFit r_t_kinds r_t_have
  else
    ckI y1 24 <|
    k11 (y1 + (1 : Int32)) v_t_manyFit r_t_kinds (upd r_t_have (Int32.toNatClampNeg y1) (0 : Int32))
def f_X5_layFit (v_t_manyFit : Int32) (r_t_now : Nat → Int32) (r_t_kinds : Nat → Int32) (r_t_have : Nat → Int32) : Option (Int32 × (Nat → Int32) × (Nat → Int32)) :=
  bd1 (f_X5_layKinds r_t_now r_t_kinds) fun u1 =>
  lq4 (f_X5_layFit_B11 r_t_now ) FU (0 : Int32) (0 : Int32) u1 r_t_have
def f_X5_worlds (v_t_manyFit : Int32) (r_t_now : Nat → Int32) (r_t_kinds : Nat → Int32) (r_t_have : Nat → Int32) : Option (Int32 × Int32 × (Nat → Int32) × (Nat → Int32)) :=
  bd3 (f_X5_layFit v_t_manyFit r_t_now r_t_kinds r_t_have) fun u1 u2 u3 =>
  some (u1, u1, u2, u3)
def f_X5_eventsOf_B4 (x1 : Int32) (r_t_have : Nat → Int32) (k4 : Int32 → Int32 → Option (Int32)) (y2 : Int32) (y3 : Int32) : Option (Int32) :=
  if (4 : Int32) ≤ y3 then
    some y2
  else
    ckI (((4 : Int32) * x1) + y3) 24 <|
    if (r_t_have (Int32.toNatClampNeg (((4 : Int32) * x1) + y3))) ≤ 0 then
      k4 (y2 ||| (0 : Int32)) (y3 + (1 : Int32))
    else
      k4 (y2 ||| ((1 : Int32) <<< (y3 &&& 31))) (y3 + (1 : Int32))
def f_X5_eventsOf (x1 : Int32) (r_t_have : Nat → Int32) : Option (Int32) :=
  lq2 (f_X5_eventsOf_B4 x1 r_t_have ) FU (0 : Int32) (0 : Int32)
def f_X5_may (x1 : Int32) (v_t_manyFit : Int32) (r_t_now : Nat → Int32) (r_t_refused : Nat → Int32) (r_t_kinds : Nat → Int32) (r_t_have : Nat → Int32) : Option (Int32 × Int32 × (Nat → Int32) × (Nat → Int32) × (Nat → Int32)) :=
  if (f_X5_isDay x1) = 0 then
    bd2 (f_X5_bad (-2 : Int32) r_t_refused) fun z8 u9 =>
    some (z8, v_t_manyFit, u9, r_t_kinds, r_t_have)
  else
    bd3 (f_X5_layFit v_t_manyFit r_t_now r_t_kinds r_t_have) fun u2 u3 u4 =>
    bd1 (f_X5_eventsOf x1 u4) fun z6 =>
    some (z6, u2, r_t_refused, u3, u4)
def f_X5_fraction_B6 (x1 : Int64) (x3 : Int64) (k6 : Int64 → Int64 → Int64 → Int64 → Option (Int64 × Int64)) (y5 : Int64) (y7 : Int64) (v_t_above : Int64) (v_t_below : Int64) : Option (Int64 × Int64) :=
  if (lg_cmp y7 (0 : Int64)) = 0 then
    ckZ y5 <|
    ckZ y5 <|
    some ((x1 / y5), (x3 / y5))
  else
    ckZ y7 <|
    k6 y7 (y5 - y5 / y7 * y7) v_t_above v_t_below
def f_X5_fraction (x1 : Int64) (x3 : Int64) (v_t_above : Int64) (v_t_below : Int64) : Option (Int64 × Int64) :=
  lq4 (f_X5_fraction_B6 x1 x3 ) FU x1 x3 v_t_above v_t_below
def f_X5_chance_J14   (v_t_above : Int64) (v_t_below : Int64) (v_t_manyFit : Int32) (r_t_refused : Nat → Int32) (r_t_kinds : Nat → Int32) (r_t_have : Nat → Int32) : Option (Int32 × Int64 × Int64 × Int32 × (Nat → Int32) × (Nat → Int32) × (Nat → Int32)) :=
  bd2 (f_X5_bad (-2 : Int32) r_t_refused) fun z2 u3 =>
  some (z2, v_t_above, v_t_below, v_t_manyFit, u3, r_t_kinds, r_t_have)
def f_X5_chance (x1 : Int32) (x2 : Int32) (v_t_above : Int64) (v_t_below : Int64) (v_t_manyFit : Int32) (r_t_now : Nat → Int32) (r_t_refused : Nat → Int32) (r_t_kinds : Nat → Int32) (r_t_have : Nat → Int32) : Option (Int32 × Int64 × Int64 × Int32 × (Nat → Int32) × (Nat → Int32) × (Nat → Int32)) :=
  if (f_X5_isDay x1) = 0 then
    f_X5_chance_J14   v_t_above v_t_below v_t_manyFit r_t_refused r_t_kinds r_t_have
  else
    if (f_X5_isEvent x2) = 0 then
      f_X5_chance_J14   v_t_above v_t_below v_t_manyFit r_t_refused r_t_kinds r_t_have
    else
      bd3 (f_X5_layFit v_t_manyFit r_t_now r_t_kinds r_t_have) fun u6 u7 u8 =>
      if u6 = 0 then
        bd2 (f_X5_no r_t_refused) fun z15 u16 =>
        some (z15, v_t_above, v_t_below, u6, u16, u7, u8)
      else
        ckI (((4 : Int32) * x1) + x2) 24 <|
        bd2 (f_X5_fraction (Int32.toInt64 (u8 (Int32.toNatClampNeg (((4 : Int32) * x1) + x2)))) (Int32.toInt64 u6) v_t_above v_t_below) fun u12 u13 =>
        some ((1 : Int32), u12, u13, u6, r_t_refused, u7, u8)
def f_X5_must_B8  (k8 : Int32 → Int32 → Int32 → (Nat → Int32) → (Nat → Int32) → Option (Int32 × Int32 × (Nat → Int32) × (Nat → Int32))) (y1 : Int32) (y2 : Int32) (v_t_manyFit : Int32) (r_t_kinds : Nat → Int32) (r_t_have : Nat → Int32) : Option (Int32 × Int32 × (Nat → Int32) × (Nat → Int32)) :=
  if (6 : Int32) ≤ y2 then
    some (y1, v_t_manyFit, r_t_kinds, r_t_have)
  else
    bd1 (f_X5_eventsOf y2 r_t_have) fun z6 =>
    bd1 (f_X5_bits z6) fun z8 =>
    if (2 : Int32) ≤ z8 then
      k8 (y1 ||| (0 : Int32)) (y2 + (1 : Int32)) v_t_manyFit r_t_kinds r_t_have
    else
      k8 (y1 ||| ((1 : Int32) <<< (y2 &&& 31))) (y2 + (1 : Int32)) v_t_manyFit r_t_kinds r_t_have
def f_X5_must (v_t_manyFit : Int32) (r_t_now : Nat → Int32) (r_t_kinds : Nat → Int32) (r_t_have : Nat → Int32) : Option (Int32 × Int32 × (Nat → Int32) × (Nat → Int32)) :=
  bd3 (f_X5_layFit v_t_manyFit r_t_now r_t_kinds r_t_have) fun u1 u2 u3 =>
  lq5 (f_X5_must_B8  ) FU (0 : Int32) (0 : Int32) u1 u2 u3
def f_X5_ruled_B19 (x1 : Int32) (r_t_now : Nat → Int32) (k19 : Int32 → Int32 → (Nat → Int32) → Option (Int32 × (Nat → Int32))) (y2 : Int32) (y3 : Int32) (r_t_refused : Nat → Int32) : Option (Int32 × (Nat → Int32)) :=
  if (4096 : Int32) ≤ y3 then
    some (y2, r_t_refused)
  else
    bd1 (f_X5_isWorld y3 r_t_now) fun z3 =>
    if z3 = 0 then
      k19 (y2 &&& (15 : Int32)) (y3 + (1 : Int32)) r_t_refused
    else
      k19 (y2 &&& (((1 : Int32) <<< ((f_X5_eventOf y3 x1) &&& 31)) ^^^ (-1 : Int32))) (y3 + (1 : Int32)) r_t_refused
def f_X5_ruled (x1 : Int32) (r_t_now : Nat → Int32) (r_t_refused : Nat → Int32) : Option (Int32 × (Nat → Int32)) :=
  if (f_X5_isDay x1) = 0 then
    bd2 (f_X5_bad (-2 : Int32) r_t_refused) fun z6 u7 =>
    some (z6, u7)
  else
    lq3 (f_X5_ruled_B19 x1 r_t_now ) FU (15 : Int32) (0 : Int32) r_t_refused
def f_X5_givesIn_B6 (x1 : Int32) (x2 : Int32) (x3 : Int32) (x4 : Int32) (x5 : Int32) (r_t_now : Nat → Int32) (r_t_have : Nat → Int32) (k6 : Int32 → Int32 → Option (Int32)) (y6 : Int32) (y7 : Int32) : Option (Int32) :=
  if (4 : Int32) ≤ y7 then
    some y6
  else
    ckI ((14 : Int32) + x1) 146 <|
    bd1 (f_X5_bits x3) fun z3 =>
    if (f_X5_markAs (r_t_now (Int32.toNatClampNeg ((14 : Int32) + x1))) (f_X5_has x3 y7) x2 z3 x4) = x5 then
      ckI (((4 : Int32) * x2) + y7) 24 <|
      k6 (y6 + (r_t_have (Int32.toNatClampNeg (((4 : Int32) * x2) + y7)))) (y7 + (1 : Int32))
    else
      k6 (y6 + (0 : Int32)) (y7 + (1 : Int32))
def f_X5_givesIn (x1 : Int32) (x2 : Int32) (x3 : Int32) (x4 : Int32) (x5 : Int32) (r_t_now : Nat → Int32) (r_t_have : Nat → Int32) : Option (Int32) :=
  lq2 (f_X5_givesIn_B6 x1 x2 x3 x4 x5 r_t_now r_t_have ) FU (0 : Int32) (0 : Int32)
def f_X5_gives_J35   (v_t_manyFit : Int32) (r_t_refused : Nat → Int32) (r_t_kinds : Nat → Int32) (r_t_have : Nat → Int32) : Option (Int32 × Int32 × (Nat → Int32) × (Nat → Int32) × (Nat → Int32)) :=
  bd2 (f_X5_bad (-2 : Int32) r_t_refused) fun z2 u3 =>
  some (z2, v_t_manyFit, u3, r_t_kinds, r_t_have)
def f_X5_gives (x1 : Int32) (x2 : Int32) (x3 : Int32) (x4 : Int32) (v_t_manyFit : Int32) (r_t_now : Nat → Int32) (r_t_refused : Nat → Int32) (r_t_kinds : Nat → Int32) (r_t_have : Nat → Int32) : Option (Int32 × Int32 × (Nat → Int32) × (Nat → Int32) × (Nat → Int32)) :=
  if (f_X5_isOne x1 r_t_now) = 0 then
    f_X5_gives_J35   v_t_manyFit r_t_refused r_t_kinds r_t_have
  else
    if (f_X5_isDay x2) = 0 then
      f_X5_gives_J35   v_t_manyFit r_t_refused r_t_kinds r_t_have
    else
      if (f_X5_areEvents x3) = 0 then
        f_X5_gives_J35   v_t_manyFit r_t_refused r_t_kinds r_t_have
      else
        if (f_X5_in (Int32.toInt64 x4) (0 : Int64) (2 : Int64)) = 0 then
          f_X5_gives_J35   v_t_manyFit r_t_refused r_t_kinds r_t_have
        else
          bd3 (f_X5_layFit v_t_manyFit r_t_now r_t_kinds r_t_have) fun u8 u9 u10 =>
          ckI ((10 : Int32) + x1) 146 <|
          bd1 (f_X5_givesIn x1 x2 x3 (r_t_now (Int32.toNatClampNeg ((10 : Int32) + x1))) x4 r_t_now u10) fun z13 =>
          some (z13, u8, r_t_refused, u9, u10)
def f_X5_next_J131  (k27 : Int32 → Int32 → Int32 → Int32 → (Nat → Int32) → (Nat → Int32) → (Nat → Int32) → Option (Int32 × Int32 × (Nat → Int32) × (Nat → Int32) × (Nat → Int32))) (y3 : Int32) (y4 : Int32) (y5 : Int32) (v_t_manyFit : Int32) (r_t_refused : Nat → Int32) (r_t_kinds : Nat → Int32) (r_t_have : Nat → Int32) (s0 : Int32) : Option (Int32 × Int32 × (Nat → Int32) × (Nat → Int32) × (Nat → Int32)) :=
  if y3 ≤ y5 then
    k27 s0 y3 (y4 + (1 : Int32)) v_t_manyFit r_t_refused r_t_kinds r_t_have
  else
    k27 s0 y5 (y4 + (1 : Int32)) v_t_manyFit r_t_refused r_t_kinds r_t_have
def f_X5_next_B63 (x1 : Int32) (r_t_now : Nat → Int32) (k27 : Int32 → Int32 → Int32 → Int32 → (Nat → Int32) → (Nat → Int32) → (Nat → Int32) → Option (Int32 × Int32 × (Nat → Int32) × (Nat → Int32) × (Nat → Int32))) (k63 : Int32 → Int32 → Int32 → Int32 → Int32 → Int32 → (Nat → Int32) → (Nat → Int32) → (Nat → Int32) → Option (Int32 × Int32 × (Nat → Int32) × (Nat → Int32) × (Nat → Int32))) (y2 : Int32) (y3 : Int32) (y4 : Int32) (y5 : Int32) (y6 : Int32) (v_t_manyFit : Int32) (r_t_refused : Nat → Int32) (r_t_kinds : Nat → Int32) (r_t_have : Nat → Int32) : Option (Int32 × Int32 × (Nat → Int32) × (Nat → Int32) × (Nat → Int32)) :=
  if (3 : Int32) ≤ y6 then
    if y3 ≤ y5 then
      f_X5_next_J131  k27 y3 y4 y5 v_t_manyFit r_t_refused r_t_kinds r_t_have y2
    else
      f_X5_next_J131  k27 y3 y4 y5 v_t_manyFit r_t_refused r_t_kinds r_t_have y4
  else
    ckI ((10 : Int32) + x1) 146 <|
    bd1 (f_X5_givesIn x1 (y4 / (16 : Int32)) (y4 - y4 / (16 : Int32) * (16 : Int32)) (r_t_now (Int32.toNatClampNeg ((10 : Int32) + x1))) y6 r_t_now r_t_have) fun z13 =>
    if z13 ≤ y5 then
      k63 y2 y3 y4 y5 (y6 + (1 : Int32)) v_t_manyFit r_t_refused r_t_kinds r_t_have
    else
      k63 y2 y3 y4 z13 (y6 + (1 : Int32)) v_t_manyFit r_t_refused r_t_kinds r_t_have
def f_X5_next_B27 (x1 : Int32) (r_t_now : Nat → Int32) (k27 : Int32 → Int32 → Int32 → Int32 → (Nat → Int32) → (Nat → Int32) → (Nat → Int32) → Option (Int32 × Int32 × (Nat → Int32) × (Nat → Int32) × (Nat → Int32))) (y2 : Int32) (y3 : Int32) (y4 : Int32) (v_t_manyFit : Int32) (r_t_refused : Nat → Int32) (r_t_kinds : Nat → Int32) (r_t_have : Nat → Int32) : Option (Int32 × Int32 × (Nat → Int32) × (Nat → Int32) × (Nat → Int32)) :=
  if (96 : Int32) ≤ y4 then
    some (y2, v_t_manyFit, r_t_refused, r_t_kinds, r_t_have)
  else
    if v_t_manyFit ≤ 0 then
      some (y2, v_t_manyFit, r_t_refused, r_t_kinds, r_t_have)
    else
      if (f_X5_areEvents (y4 - y4 / (16 : Int32) * (16 : Int32))) = 0 then
        lq9 (f_X5_next_B63 x1 r_t_now k27) FU y2 y3 y4 (1000000 : Int32) (0 : Int32) v_t_manyFit r_t_refused r_t_kinds r_t_have
      else
        lq9 (f_X5_next_B63 x1 r_t_now k27) FU y2 y3 y4 (0 : Int32) (0 : Int32) v_t_manyFit r_t_refused r_t_kinds r_t_have
def f_X5_next (x1 : Int32) (v_t_manyFit : Int32) (r_t_now : Nat → Int32) (r_t_refused : Nat → Int32) (r_t_kinds : Nat → Int32) (r_t_have : Nat → Int32) : Option (Int32 × Int32 × (Nat → Int32) × (Nat → Int32) × (Nat → Int32)) :=
  if (f_X5_isOne x1 r_t_now) = 0 then
    bd2 (f_X5_bad (-2 : Int32) r_t_refused) fun z16 u17 =>
    some (z16, v_t_manyFit, u17, r_t_kinds, r_t_have)
  else
    bd3 (f_X5_layFit v_t_manyFit r_t_now r_t_kinds r_t_have) fun u2 u3 u4 =>
    lq7 (f_X5_next_B27 x1 r_t_now ) FU (-1 : Int32) (1000000 : Int32) (1 : Int32) u2 r_t_refused u3 u4
def f_X5_partOf_J49 (x1 : Int32) (k6 : Int32 → Int32 → Option (Int32)) (y7 : Int32) (y8 : Int32) (s0 : Int32) : Option (Int32) :=
  if s0 = 0 then
    k6 (y7 ||| (0 : Int32)) (y8 + (1 : Int32))
  else
    if (f_X5_has x1 y8) = 0 then
      k6 (y7 ||| (0 : Int32)) (y8 + (1 : Int32))
    else
      k6 (y7 ||| ((1 : Int32) <<< (y8 &&& 31))) (y8 + (1 : Int32))
def f_X5_partOf_B6 (x1 : Int32) (x2 : Int32) (x3 : Int32) (x4 : Int32) (x5 : Int32) (x6 : Int32) (r_t_now : Nat → Int32) (k6 : Int32 → Int32 → Option (Int32)) (y7 : Int32) (y8 : Int32) : Option (Int32) :=
  if (4 : Int32) ≤ y8 then
    some y7
  else
    ckI ((14 : Int32) + x2) 146 <|
    bd1 (f_X5_bits x4) fun z3 =>
    if (f_X5_markAs (r_t_now (Int32.toNatClampNeg ((14 : Int32) + x2))) (f_X5_has x4 y8) x3 z3 x5) = x6 then
      f_X5_partOf_J49 x1 k6 y7 y8 (1 : Int32)
    else
      f_X5_partOf_J49 x1 k6 y7 y8 (0 : Int32)
def f_X5_partOf (x1 : Int32) (x2 : Int32) (x3 : Int32) (x4 : Int32) (x5 : Int32) (x6 : Int32) (r_t_now : Nat → Int32) : Option (Int32) :=
  lq2 (f_X5_partOf_B6 x1 x2 x3 x4 x5 x6 r_t_now ) FU (0 : Int32) (0 : Int32)
def f_X5_parts_B6 (x1 : Int32) (x2 : Int32) (x3 : Int32) (x4 : Int32) (x5 : Int32) (v_t_solved : Int32) (r_t_now : Nat → Int32) (k6 : Int32 → Int32 → Option (Int32)) (y6 : Int32) (y7 : Int32) : Option (Int32) :=
  if (3 : Int32) ≤ y7 then
    ckB y6 <|
    some y6
  else
    if y6 = 0 then
      k6 (0 : Int32) (y7 + (1 : Int32))
    else
      bd1 (f_X5_partOf x1 x2 x3 x4 x5 y7 r_t_now) fun z3 =>
      if (f_X5_has v_t_solved z3) = 0 then
        k6 (0 : Int32) (y7 + (1 : Int32))
      else
        k6 (1 : Int32) (y7 + (1 : Int32))
def f_X5_parts (x1 : Int32) (x2 : Int32) (x3 : Int32) (x4 : Int32) (x5 : Int32) (v_t_solved : Int32) (r_t_now : Nat → Int32) : Option (Int32) :=
  lq2 (f_X5_parts_B6 x1 x2 x3 x4 x5 v_t_solved r_t_now ) FU (1 : Int32) (0 : Int32)
def f_X5_leastSaying_B3 (x1 : Int32) (x2 : Int32) (x3 : Int32) (x4 : Int32) (v_t_solved : Int32) (r_t_now : Nat → Int32) (k3 : Int32 → Option (Int32)) (y5 : Int32) : Option (Int32) :=
  if (15 : Int32) ≤ y5 then
    some (-1 : Int32)
  else
    bd1 (f_X5_parts x1 x2 x3 y5 x4 v_t_solved r_t_now) fun z2 =>
    if z2 = 0 then
      k3 (y5 + (1 : Int32))
    else
      some y5
def f_X5_leastSaying (x1 : Int32) (x2 : Int32) (x3 : Int32) (x4 : Int32) (v_t_solved : Int32) (r_t_now : Nat → Int32) : Option (Int32) :=
  lq1 (f_X5_leastSaying_B3 x1 x2 x3 x4 v_t_solved r_t_now ) FU (1 : Int32)
def f_X5_laySolved_B66 (x1 : Int32) (x2 : Int32) (r_t_now : Nat → Int32) (k52 : Int32 → Int32 → Option (Int32)) (k66 : Int32 → Int32 → Int32 → Int32 → Option (Int32)) (y4 : Int32) (y5 : Int32) (y6 : Int32) (v_t_solved : Int32) : Option (Int32) :=
  if (16 : Int32) ≤ y6 then
    k52 (y4 + (-1 : Int32)) y5
  else
    ckI ((10 : Int32) + x1) 146 <|
    bd1 (f_X5_leastSaying y6 x1 x2 ((r_t_now (Int32.toNatClampNeg ((10 : Int32) + x1))) + y4) v_t_solved r_t_now) fun z5 =>
    if z5 = (-1 : Int32) then
      k66 y4 (y5 ||| (0 : Int32)) (y6 + (1 : Int32)) v_t_solved
    else
      k66 y4 (y5 ||| ((1 : Int32) <<< (y6 &&& 31))) (y6 + (1 : Int32)) v_t_solved
def f_X5_laySolved_B52 (x1 : Int32) (x2 : Int32) (r_t_now : Nat → Int32) (k52 : Int32 → Int32 → Option (Int32)) (y4 : Int32) (v_t_solved : Int32) : Option (Int32) :=
  if y4 ≤ 0 then
    some v_t_solved
  else
    lq4 (f_X5_laySolved_B66 x1 x2 r_t_now k52) FU y4 v_t_solved (0 : Int32) v_t_solved
def f_X5_laySolved_B8 (x1 : Int32) (x2 : Int32) (x3 : Int32) (r_t_now : Nat → Int32) (k8 : Int32 → Int32 → Option (Int32)) (y4 : Int32) (v_t_solved : Int32) : Option (Int32) :=
  if (16 : Int32) ≤ y4 then
    lq2 (f_X5_laySolved_B52 x1 x2 r_t_now ) FU (x3 - (1 : Int32)) v_t_solved
  else
    bd1 (f_X5_bits y4) fun z8 =>
    if (2 : Int32) ≤ z8 then
      k8 (y4 + (1 : Int32)) (v_t_solved ||| (0 : Int32))
    else
      k8 (y4 + (1 : Int32)) (v_t_solved ||| ((1 : Int32) <<< (y4 &&& 31)))
def f_X5_laySolved (x1 : Int32) (x2 : Int32) (x3 : Int32) (v_t_solved : Int32) (r_t_now : Nat → Int32) : Option (Int32) :=
  lq2 (f_X5_laySolved_B8 x1 x2 x3 r_t_now ) FU (0 : Int32) (0 : Int32)
def f_X5_sure_J25   (v_t_manyFit : Int32) (v_t_solved : Int32) (r_t_refused : Nat → Int32) (r_t_kinds : Nat → Int32) (r_t_have : Nat → Int32) : Option (Int32 × Int32 × Int32 × (Nat → Int32) × (Nat → Int32) × (Nat → Int32)) :=
  bd2 (f_X5_bad (-2 : Int32) r_t_refused) fun z2 u3 =>
  some (z2, v_t_manyFit, v_t_solved, u3, r_t_kinds, r_t_have)
def f_X5_sure_B68 (x1 : Int32) (x2 : Int32) (x3 : Int32) (r_t_now : Nat → Int32) (k68 : Int32 → Int32 → Int32 → Int32 → (Nat → Int32) → (Nat → Int32) → (Nat → Int32) → Option (Int32 × Int32 × Int32 × (Nat → Int32) × (Nat → Int32) × (Nat → Int32))) (y4 : Int32) (y5 : Int32) (v_t_manyFit : Int32) (v_t_solved : Int32) (r_t_refused : Nat → Int32) (r_t_kinds : Nat → Int32) (r_t_have : Nat → Int32) : Option (Int32 × Int32 × Int32 × (Nat → Int32) × (Nat → Int32) × (Nat → Int32)) :=
  if (9 : Int32) < y5 then
    some ((-1 : Int32), v_t_manyFit, v_t_solved, r_t_refused, r_t_kinds, r_t_have)
  else
    bd1 (f_X5_laySolved x1 x2 y5 v_t_solved r_t_now) fun u17 =>
    ckI ((10 : Int32) + x1) 146 <|
    bd1 (f_X5_leastSaying y4 x1 x2 (r_t_now (Int32.toNatClampNeg ((10 : Int32) + x1))) u17 r_t_now) fun z20 =>
    if z20 = (-1 : Int32) then
      k68 y4 (y5 + (1 : Int32)) v_t_manyFit u17 r_t_refused r_t_kinds r_t_have
    else
      if x3 = 0 then
        some (y5, v_t_manyFit, u17, r_t_refused, r_t_kinds, r_t_have)
      else
        some (z20, v_t_manyFit, u17, r_t_refused, r_t_kinds, r_t_have)
def f_X5_sure (x1 : Int32) (x2 : Int32) (x3 : Int32) (v_t_manyFit : Int32) (v_t_solved : Int32) (r_t_now : Nat → Int32) (r_t_refused : Nat → Int32) (r_t_kinds : Nat → Int32) (r_t_have : Nat → Int32) : Option (Int32 × Int32 × Int32 × (Nat → Int32) × (Nat → Int32) × (Nat → Int32)) :=
  if (f_X5_isOne x1 r_t_now) = 0 then
    f_X5_sure_J25   v_t_manyFit v_t_solved r_t_refused r_t_kinds r_t_have
  else
    if (f_X5_isDay x2) = 0 then
      f_X5_sure_J25   v_t_manyFit v_t_solved r_t_refused r_t_kinds r_t_have
    else
      if (f_X5_in (Int32.toInt64 x3) (0 : Int64) (1 : Int64)) = 0 then
        f_X5_sure_J25   v_t_manyFit v_t_solved r_t_refused r_t_kinds r_t_have
      else
        bd3 (f_X5_layFit v_t_manyFit r_t_now r_t_kinds r_t_have) fun u7 u8 u9 =>
        bd1 (f_X5_eventsOf x2 u9) fun z11 =>
        bd1 (f_X5_bits z11) fun z13 =>
        if (2 : Int32) ≤ z13 then
          lq7 (f_X5_sure_B68 x1 x2 x3 r_t_now ) FU z11 (1 : Int32) u7 v_t_solved r_t_refused u8 u9
        else
          if u7 = 0 then
            some ((-1 : Int32), u7, v_t_solved, r_t_refused, u8, u9)
          else
            some ((0 : Int32), u7, v_t_solved, r_t_refused, u8, u9)
def f_X5_wrong_J66  (k8 : Int32 → Int32 → (Nat → Int32) → Option (Int32 × (Nat → Int32))) (y1 : Int32) (y2 : Int32) (y3 : Int32) (r_t_kinds : Nat → Int32) (s0 : Int32) : Option (Int32 × (Nat → Int32)) :=
  if s0 = 0 then
    k8 y1 (y2 + (1 : Int32)) r_t_kinds
  else
    k8 y3 (y2 + (1 : Int32)) r_t_kinds
def f_X5_wrong_B8 (r_t_now : Nat → Int32) (k8 : Int32 → Int32 → (Nat → Int32) → Option (Int32 × (Nat → Int32))) (y1 : Int32) (y2 : Int32) (r_t_kinds : Nat → Int32) : Option (Int32 × (Nat → Int32)) :=
  if (4096 : Int32) ≤ y2 then
    some (y1, r_t_kinds)
  else
    bd1 (f_X5_isWorld y2 r_t_now) fun z4 =>
    if z4 = 0 then
      k8 y1 (y2 + (1 : Int32)) r_t_kinds
    else
      bd1 (f_X5_wrongIn y2 r_t_now r_t_kinds) fun z7 =>
      if y1 = (-1 : Int32) then
        f_X5_wrong_J66  k8 y1 y2 z7 r_t_kinds (1 : Int32)
      else
        bd1 (f_X5_bits z7) fun z11 =>
        bd1 (f_X5_bits y1) fun z13 =>
        if z11 < z13 then
          f_X5_wrong_J66  k8 y1 y2 z7 r_t_kinds (1 : Int32)
        else
          bd1 (f_X5_bits z7) fun z16 =>
          bd1 (f_X5_bits y1) fun z18 =>
          if z16 = z18 then
            if y1 ≤ z7 then
              f_X5_wrong_J66  k8 y1 y2 z7 r_t_kinds (0 : Int32)
            else
              f_X5_wrong_J66  k8 y1 y2 z7 r_t_kinds (1 : Int32)
          else
            f_X5_wrong_J66  k8 y1 y2 z7 r_t_kinds (0 : Int32)
def f_X5_wrong (r_t_now : Nat → Int32) (r_t_kinds : Nat → Int32) : Option (Int32 × (Nat → Int32)) :=
  bd1 (f_X5_layKinds r_t_now r_t_kinds) fun u1 =>
  lq3 (f_X5_wrong_B8 r_t_now ) FU (-1 : Int32) (0 : Int32) u1
def f_X5_doesAnyFit_B2 (r_t_now : Nat → Int32) (r_t_kinds : Nat → Int32) (k2 : Int32 → Option (Int32)) (y1 : Int32) : Option (Int32) :=
  if (4096 : Int32) ≤ y1 then
    some (0 : Int32)
  else
    bd1 (f_X5_isWorld y1 r_t_now) fun z2 =>
    if z2 = 0 then
      k2 (y1 + (1 : Int32))
    else
      bd1 (f_X5_wrongIn y1 r_t_now r_t_kinds) fun z5 =>
      if z5 = 0 then
        some (1 : Int32)
      else
        k2 (y1 + (1 : Int32))
def f_X5_doesAnyFit (r_t_now : Nat → Int32) (r_t_kinds : Nat → Int32) : Option (Int32) :=
  lq1 (f_X5_doesAnyFit_B2 r_t_now r_t_kinds ) FU (0 : Int32)
def f_X5_is_B23 (x1 : Int32) (r_t_now : Nat → Int32) (k23 : Int32 → Int32 → (Nat → Int32) → (Nat → Int32) → Option (Int32 × (Nat → Int32) × (Nat → Int32))) (y2 : Int32) (y3 : Int32) (r_t_refused : Nat → Int32) (r_t_kinds : Nat → Int32) : Option (Int32 × (Nat → Int32) × (Nat → Int32)) :=
  if (6 : Int32) ≤ y3 then
    some (y2, r_t_refused, r_t_kinds)
  else
    ckI x1 4 <|
    bd1 (f_X5_doesAnyFit r_t_now (upd r_t_kinds (Int32.toNatClampNeg x1) y3)) fun z6 =>
    if z6 = 0 then
      k23 (y2 ||| (0 : Int32)) (y3 + (1 : Int32)) r_t_refused (upd r_t_kinds (Int32.toNatClampNeg x1) y3)
    else
      k23 (y2 ||| ((1 : Int32) <<< (y3 &&& 31))) (y3 + (1 : Int32)) r_t_refused (upd r_t_kinds (Int32.toNatClampNeg x1) y3)
def f_X5_is (x1 : Int32) (r_t_now : Nat → Int32) (r_t_refused : Nat → Int32) (r_t_kinds : Nat → Int32) : Option (Int32 × (Nat → Int32) × (Nat → Int32)) :=
  if (f_X5_isOne x1 r_t_now) = 0 then
    bd2 (f_X5_bad (-2 : Int32) r_t_refused) fun z9 u10 =>
    some (z9, u10, r_t_kinds)
  else
    bd1 (f_X5_layKinds r_t_now r_t_kinds) fun u2 =>
    lq4 (f_X5_is_B23 x1 r_t_now ) FU (0 : Int32) (0 : Int32) r_t_refused u2
def f_X5_tells_J32  (k8 : Int32 → Int32 → (Nat → Int32) → Option (Int32 × (Nat → Int32))) (y1 : Int32) (y2 : Int32) (r_t_kinds : Nat → Int32) (s0 : Int32) : Option (Int32 × (Nat → Int32)) :=
  bd1 (f_X5_bits s0) fun z7 =>
  if z7 = (1 : Int32) then
    k8 (y1 ||| s0) (y2 + (1 : Int32)) r_t_kinds
  else
    k8 (y1 ||| (0 : Int32)) (y2 + (1 : Int32)) r_t_kinds
def f_X5_tells_B8 (r_t_now : Nat → Int32) (k8 : Int32 → Int32 → (Nat → Int32) → Option (Int32 × (Nat → Int32))) (y1 : Int32) (y2 : Int32) (r_t_kinds : Nat → Int32) : Option (Int32 × (Nat → Int32)) :=
  if (4096 : Int32) ≤ y2 then
    some (y1, r_t_kinds)
  else
    bd1 (f_X5_isWorld y2 r_t_now) fun z4 =>
    if z4 = 0 then
      f_X5_tells_J32  k8 y1 y2 r_t_kinds (0 : Int32)
    else
      bd1 (f_X5_wrongIn y2 r_t_now r_t_kinds) fun z10 =>
      f_X5_tells_J32  k8 y1 y2 r_t_kinds z10
def f_X5_tells (r_t_now : Nat → Int32) (r_t_kinds : Nat → Int32) : Option (Int32 × (Nat → Int32)) :=
  bd1 (f_X5_layKinds r_t_now r_t_kinds) fun u1 =>
  lq3 (f_X5_tells_B8 r_t_now ) FU (0 : Int32) (0 : Int32) u1
def f_X5_getsBy (x1 : Int32) (x2 : Int32) (x3 : Int32) (r_t_have : Nat → Int32) : Option (Int32) :=
  if x2 = x3 then
    ckI (((4 : Int32) * x1) + x2) 24 <|
    some ((r_t_have (Int32.toNatClampNeg (((4 : Int32) * x1) + x2))) / (2 : Int32))
  else
    ckI (((4 : Int32) * x1) + x2) 24 <|
    some (r_t_have (Int32.toNatClampNeg (((4 : Int32) * x1) + x2)))
def f_X5_rests_B6 (x1 : Int32) (x2 : Int32) (x3 : Int32) (r_t_have : Nat → Int32) (k6 : Int32 → Int32 → Option (Int32)) (y4 : Int32) (y5 : Int32) : Option (Int32) :=
  if (4 : Int32) ≤ y5 then
    ckB y4 <|
    some y4
  else
    if y4 = 0 then
      k6 (0 : Int32) (y5 + (1 : Int32))
    else
      bd1 (f_X5_getsBy x1 y5 x3 r_t_have) fun z3 =>
      bd1 (f_X5_getsBy x1 x2 x3 r_t_have) fun z5 =>
      if z5 < z3 then
        k6 (0 : Int32) (y5 + (1 : Int32))
      else
        bd1 (f_X5_getsBy x1 y5 x2 r_t_have) fun z8 =>
        bd1 (f_X5_getsBy x1 x3 x2 r_t_have) fun z10 =>
        if z10 < z8 then
          k6 (0 : Int32) (y5 + (1 : Int32))
        else
          k6 (1 : Int32) (y5 + (1 : Int32))
def f_X5_rests (x1 : Int32) (x2 : Int32) (x3 : Int32) (r_t_have : Nat → Int32) : Option (Int32) :=
  lq2 (f_X5_rests_B6 x1 x2 x3 r_t_have ) FU (1 : Int32) (0 : Int32)
def f_X5_bets_J12   (v_t_manyFit : Int32) (r_t_refused : Nat → Int32) (r_t_kinds : Nat → Int32) (r_t_have : Nat → Int32) : Option (Int32 × Int32 × (Nat → Int32) × (Nat → Int32) × (Nat → Int32)) :=
  bd2 (f_X5_bad (-10 : Int32) r_t_refused) fun z2 u3 =>
  some (z2, v_t_manyFit, u3, r_t_kinds, r_t_have)
def f_X5_bets_B32 (x1 : Int32) (x2 : Int32) (k32 : Int32 → Int32 → Int32 → Int32 → (Nat → Int32) → (Nat → Int32) → (Nat → Int32) → Option (Int32 × Int32 × (Nat → Int32) × (Nat → Int32) × (Nat → Int32))) (y3 : Int32) (y4 : Int32) (y5 : Int32) (v_t_manyFit : Int32) (r_t_refused : Nat → Int32) (r_t_kinds : Nat → Int32) (r_t_have : Nat → Int32) : Option (Int32 × Int32 × (Nat → Int32) × (Nat → Int32) × (Nat → Int32)) :=
  if (16 : Int32) ≤ y5 then
    if x2 = (-1 : Int32) then
      some (y3, v_t_manyFit, r_t_refused, r_t_kinds, r_t_have)
    else
      some (y4, v_t_manyFit, r_t_refused, r_t_kinds, r_t_have)
  else
    bd1 (f_X5_rests x1 (y5 / (4 : Int32)) (y5 - y5 / (4 : Int32) * (4 : Int32)) r_t_have) fun z12 =>
    if z12 = 0 then
      k32 y3 y4 (y5 + (1 : Int32)) v_t_manyFit r_t_refused r_t_kinds r_t_have
    else
      if y3 = x2 then
        k32 (y3 + (1 : Int32)) y5 (y5 + (1 : Int32)) v_t_manyFit r_t_refused r_t_kinds r_t_have
      else
        k32 (y3 + (1 : Int32)) y4 (y5 + (1 : Int32)) v_t_manyFit r_t_refused r_t_kinds r_t_have
def f_X5_bets (x1 : Int32) (x2 : Int32) (v_t_manyFit : Int32) (r_t_now : Nat → Int32) (r_t_refused : Nat → Int32) (r_t_kinds : Nat → Int32) (r_t_have : Nat → Int32) : Option (Int32 × Int32 × (Nat → Int32) × (Nat → Int32) × (Nat → Int32)) :=
  if (f_X5_isDay x1) = 0 then
    f_X5_bets_J12   v_t_manyFit r_t_refused r_t_kinds r_t_have
  else
    if (-1 : Int32) ≤ x2 then
      bd3 (f_X5_layFit v_t_manyFit r_t_now r_t_kinds r_t_have) fun u6 u7 u8 =>
      lq7 (f_X5_bets_B32 x1 x2 ) FU (0 : Int32) (-5 : Int32) (0 : Int32) u6 r_t_refused u7 u8
    else
      f_X5_bets_J12   v_t_manyFit r_t_refused r_t_kinds r_t_have
def f_X5_journeys_B89 (x1 : Int32) (k57 : Int64 → Int64 → Int32 → Int64 → Int64 → (Nat → Int32) → (Nat → Int32) → Option (Int32 × Int64 × Int64 × (Nat → Int32) × (Nat → Int32))) (k89 : Int64 → Int64 → Int32 → Int64 → Int32 → Int64 → Int64 → (Nat → Int32) → (Nat → Int32) → Option (Int32 × Int64 × Int64 × (Nat → Int32) × (Nat → Int32))) (y2 : Int64) (y4 : Int64) (y6 : Int32) (y7 : Int64) (y9 : Int32) (v_t_above : Int64) (v_t_below : Int64) (r_t_refused : Nat → Int32) (r_t_kinds : Nat → Int32) : Option (Int32 × Int64 × Int64 × (Nat → Int32) × (Nat → Int32)) :=
  if y9 ≤ 0 then
    k57 (y2 + y7) y4 (y6 + (1 : Int32)) v_t_above v_t_below r_t_refused r_t_kinds
  else
    k89 y2 y4 y6 ((y7 / (10 : Int64)) * (Int32.toInt64 x1)) (y9 + (-1 : Int32)) v_t_above v_t_below r_t_refused r_t_kinds
def f_X5_journeys_B57 (x1 : Int32) (r_t_now : Nat → Int32) (k57 : Int64 → Int64 → Int32 → Int64 → Int64 → (Nat → Int32) → (Nat → Int32) → Option (Int32 × Int64 × Int64 × (Nat → Int32) × (Nat → Int32))) (y2 : Int64) (y4 : Int64) (y6 : Int32) (v_t_above : Int64) (v_t_below : Int64) (r_t_refused : Nat → Int32) (r_t_kinds : Nat → Int32) : Option (Int32 × Int64 × Int64 × (Nat → Int32) × (Nat → Int32)) :=
  if (4096 : Int32) ≤ y6 then
    bd2 (f_X5_fraction y2 y4 v_t_above v_t_below) fun u6 u7 =>
    some ((1 : Int32), u6, u7, r_t_refused, r_t_kinds)
  else
    bd1 (f_X5_isWorld y6 r_t_now) fun z9 =>
    if z9 = 0 then
      k57 y2 y4 (y6 + (1 : Int32)) v_t_above v_t_below r_t_refused r_t_kinds
    else
      bd1 (f_X5_wrongIn y6 r_t_now r_t_kinds) fun z12 =>
      bd1 (f_X5_bits z12) fun z14 =>
      lq9 (f_X5_journeys_B89 x1 k57) FU y2 y4 y6 y4 z14 v_t_above v_t_below r_t_refused r_t_kinds
def f_X5_journeys_B31 (x1 : Int32) (r_t_now : Nat → Int32) (k31 : Int64 → Int64 → Int32 → Int64 → Int64 → (Nat → Int32) → (Nat → Int32) → Option (Int32 × Int64 × Int64 × (Nat → Int32) × (Nat → Int32))) (y2 : Int64) (y4 : Int64) (y6 : Int32) (v_t_above : Int64) (v_t_below : Int64) (r_t_refused : Nat → Int32) (r_t_kinds : Nat → Int32) : Option (Int32 × Int64 × Int64 × (Nat → Int32) × (Nat → Int32)) :=
  if (f_X5_marks r_t_now) ≤ y6 then
    lq7 (f_X5_journeys_B57 x1 r_t_now ) FU y2 y4 (0 : Int32) v_t_above v_t_below r_t_refused r_t_kinds
  else
    k31 y2 (y4 * (10 : Int64)) (y6 + (1 : Int32)) v_t_above v_t_below r_t_refused r_t_kinds
def f_X5_journeys (x1 : Int32) (v_t_above : Int64) (v_t_below : Int64) (r_t_now : Nat → Int32) (r_t_refused : Nat → Int32) (r_t_kinds : Nat → Int32) : Option (Int32 × Int64 × Int64 × (Nat → Int32) × (Nat → Int32)) :=
  if (f_X5_in (Int32.toInt64 x1) (0 : Int64) (10 : Int64)) = 0 then
    bd2 (f_X5_bad (-2 : Int32) r_t_refused) fun z17 u18 =>
    some (z17, v_t_above, v_t_below, u18, r_t_kinds)
  else
    bd1 (f_X5_layKinds r_t_now r_t_kinds) fun u2 =>
    lq7 (f_X5_journeys_B31 x1 r_t_now ) FU (0 : Int64) (1 : Int64) (0 : Int32) v_t_above v_t_below r_t_refused u2
def f_X5_years_J24   (r_t_refused : Nat → Int32) (r_t_kinds : Nat → Int32) : Option (Int32 × (Nat → Int32) × (Nat → Int32)) :=
  bd2 (f_X5_bad (-2 : Int32) r_t_refused) fun z2 u3 =>
  some (z2, u3, r_t_kinds)
def f_X5_years_B56 (r_t_now : Nat → Int32) (k44 : Int64 → Int32 → Int32 → (Nat → Int32) → (Nat → Int32) → Option (Int32 × (Nat → Int32) × (Nat → Int32))) (k56 : Int64 → Int32 → Int32 → Int32 → Int32 → (Nat → Int32) → (Nat → Int32) → Option (Int32 × (Nat → Int32) × (Nat → Int32))) (y3 : Int64) (y5 : Int32) (y6 : Int32) (y7 : Int32) (y8 : Int32) (r_t_refused : Nat → Int32) (r_t_kinds : Nat → Int32) : Option (Int32 × (Nat → Int32) × (Nat → Int32)) :=
  if (6 : Int32) ≤ y8 then
    bd1 (f_X5_isWorld y7 r_t_now) fun z10 =>
    if z10 = 0 then
      k44 y3 (y5 + (0 : Int32)) (y6 + (1 : Int32)) r_t_refused r_t_kinds
    else
      bd1 (f_X5_wrongIn y7 r_t_now r_t_kinds) fun z13 =>
      if z13 = 0 then
        k44 y3 (y5 + (1 : Int32)) (y6 + (1 : Int32)) r_t_refused r_t_kinds
      else
        k44 y3 (y5 + (0 : Int32)) (y6 + (1 : Int32)) r_t_refused r_t_kinds
  else
    k56 (((y3 * (1103515245 : Int64)) + (12345 : Int64)) - ((y3 * (1103515245 : Int64)) + (12345 : Int64)) / (2147483648 : Int64) * (2147483648 : Int64)) y5 y6 (((4 : Int32) * y7) + (Int64.toInt32 (((((y3 * (1103515245 : Int64)) + (12345 : Int64)) - ((y3 * (1103515245 : Int64)) + (12345 : Int64)) / (2147483648 : Int64) * (2147483648 : Int64)) / (65536 : Int64)) - ((((y3 * (1103515245 : Int64)) + (12345 : Int64)) - ((y3 * (1103515245 : Int64)) + (12345 : Int64)) / (2147483648 : Int64) * (2147483648 : Int64)) / (65536 : Int64)) / (4 : Int64) * (4 : Int64)))) (y8 + (1 : Int32)) r_t_refused r_t_kinds
def f_X5_years_B44 (x2 : Int32) (r_t_now : Nat → Int32) (k44 : Int64 → Int32 → Int32 → (Nat → Int32) → (Nat → Int32) → Option (Int32 × (Nat → Int32) × (Nat → Int32))) (y3 : Int64) (y5 : Int32) (y6 : Int32) (r_t_refused : Nat → Int32) (r_t_kinds : Nat → Int32) : Option (Int32 × (Nat → Int32) × (Nat → Int32)) :=
  if x2 ≤ y6 then
    some (y5, r_t_refused, r_t_kinds)
  else
    lq7 (f_X5_years_B56 r_t_now k44) FU y3 y5 y6 (0 : Int32) (0 : Int32) r_t_refused r_t_kinds
def f_X5_years (x1 : Int32) (x2 : Int32) (r_t_now : Nat → Int32) (r_t_refused : Nat → Int32) (r_t_kinds : Nat → Int32) : Option (Int32 × (Nat → Int32) × (Nat → Int32)) :=
  if (f_X5_in (Int32.toInt64 x1) (0 : Int64) (999999 : Int64)) = 0 then
    f_X5_years_J24   r_t_refused r_t_kinds
  else
    if (f_X5_in (Int32.toInt64 x2) (0 : Int64) (60 : Int64)) = 0 then
      f_X5_years_J24   r_t_refused r_t_kinds
    else
      bd1 (f_X5_layKinds r_t_now r_t_kinds) fun u6 =>
      lq5 (f_X5_years_B44 x2 r_t_now ) FU (Int32.toInt64 x1) (0 : Int32) (0 : Int32) r_t_refused u6
def f_X5_type (x1 : Int32) (v_t_bytesLong : Int32) (r_t_refused : Nat → Int32) (r_t_bytes : Nat → Int32) : Option (Int32 × Int32 × (Nat → Int32) × (Nat → Int32)) :=
  if (f_X5_in (Int32.toInt64 x1) (0 : Int64) (127 : Int64)) = 0 then
    bd2 (f_X5_bad (-2 : Int32) r_t_refused) fun z7 u8 =>
    some (z7, v_t_bytesLong, u8, r_t_bytes)
  else
    if v_t_bytesLong = (150 : Int32) then
      bd2 (f_X5_full r_t_refused) fun z4 u5 =>
      some (z4, v_t_bytesLong, u5, r_t_bytes)
    else
      ckI v_t_bytesLong 150 <|
      some ((v_t_bytesLong + (1 : Int32)), (v_t_bytesLong + (1 : Int32)), r_t_refused, (upd r_t_bytes (Int32.toNatClampNeg v_t_bytesLong) x1))
def f_X5_clear (v_t_bytesLong : Int32) : Option (Int32 × Int32) :=
  some (v_t_bytesLong, (0 : Int32))
def f_X5_isSmall (x0 : Int32) : Int32 :=
  (f_X5_in (Int32.toInt64 x0) (97 : Int64) (122 : Int64))
theorem nb_X5_isSmall (x0 : Int32) : f_X5_isSmall x0 &&& 1 = f_X5_isSmall x0 := by
  simp only [f_X5_isSmall]
  (repeat' split) <;> first | rfl | decide | exact nb_X5_in _ _ _
def f_X5_isFigure (x0 : Int32) : Int32 :=
  (f_X5_in (Int32.toInt64 x0) (48 : Int64) (57 : Int64))
theorem nb_X5_isFigure (x0 : Int32) : f_X5_isFigure x0 &&& 1 = f_X5_isFigure x0 := by
  simp only [f_X5_isFigure]
  (repeat' split) <;> first | rfl | decide | exact nb_X5_in _ _ _
def f_X5_lookAt_J274   (v_t_tokenAt : Int32) (v_t_tokenLong : Int32) (v_t_token : Int32) (v_t_value : Int32) : Option (Int32 × Int32 × Int32 × Int32) :=
  if v_t_token = (2 : Int32) then
    if v_t_tokenLong ≤ (2 : Int32) then
      some (v_t_tokenAt, v_t_tokenLong, v_t_token, v_t_value)
    else
      some (v_t_tokenAt, v_t_tokenLong, (4 : Int32), v_t_value)
  else
    some (v_t_tokenAt, v_t_tokenLong, v_t_token, v_t_value)
def f_X5_lookAt_B218 (r_t_bytes : Nat → Int32) (k218 : Int32 → Int32 → Int32 → Int32 → Int32 → Option (Int32 × Int32 × Int32 × Int32)) (y4 : Int32) (v_t_tokenAt : Int32) (v_t_tokenLong : Int32) (v_t_token : Int32) (v_t_value : Int32) : Option (Int32 × Int32 × Int32 × Int32) :=
  if v_t_tokenLong ≤ y4 then
    f_X5_lookAt_J274   v_t_tokenAt v_t_tokenLong v_t_token v_t_value
  else
    if (2 : Int32) ≤ y4 then
      f_X5_lookAt_J274   v_t_tokenAt v_t_tokenLong v_t_token v_t_value
    else
      if v_t_token = (2 : Int32) then
        ckI (v_t_tokenAt + y4) 150 <|
        k218 (y4 + (1 : Int32)) v_t_tokenAt v_t_tokenLong v_t_token ((((10 : Int32) * v_t_value) + (r_t_bytes (Int32.toNatClampNeg (v_t_tokenAt + y4)))) - (48 : Int32))
      else
        f_X5_lookAt_J274   v_t_tokenAt v_t_tokenLong v_t_token v_t_value
def f_X5_lookAt_J193  (k136 : Int32 → Int32 → Int32 → Int32 → Int32 → Option (Int32 × Int32 × Int32 × Int32)) (v_t_tokenAt : Int32) (v_t_tokenLong : Int32) (v_t_token : Int32) (v_t_value : Int32) (s0 : Int32) : Option (Int32 × Int32 × Int32 × Int32) :=
  if s0 = 0 then
    k136 s0 v_t_tokenAt (v_t_tokenLong + (0 : Int32)) v_t_token v_t_value
  else
    k136 s0 v_t_tokenAt (v_t_tokenLong + (1 : Int32)) v_t_token v_t_value
def f_X5_lookAt_B136 (v_t_bytesLong : Int32) (r_t_bytes : Nat → Int32) (k136 : Int32 → Int32 → Int32 → Int32 → Int32 → Option (Int32 × Int32 × Int32 × Int32)) (y3 : Int32) (v_t_tokenAt : Int32) (v_t_tokenLong : Int32) (v_t_token : Int32) (v_t_value : Int32) : Option (Int32 × Int32 × Int32 × Int32) :=
  if y3 = 0 then
    lq5 (f_X5_lookAt_B218 r_t_bytes ) FU (0 : Int32) v_t_tokenAt v_t_tokenLong v_t_token v_t_value
  else
    if v_t_bytesLong ≤ (v_t_tokenAt + v_t_tokenLong) then
      lq5 (f_X5_lookAt_B218 r_t_bytes ) FU (0 : Int32) v_t_tokenAt v_t_tokenLong v_t_token v_t_value
    else
      ckI (v_t_tokenAt + v_t_tokenLong) 150 <|
      if v_t_token = (1 : Int32) then
        f_X5_lookAt_J193  k136 v_t_tokenAt v_t_tokenLong v_t_token v_t_value (f_X5_isSmall (r_t_bytes (Int32.toNatClampNeg (v_t_tokenAt + v_t_tokenLong))))
      else
        f_X5_lookAt_J193  k136 v_t_tokenAt v_t_tokenLong v_t_token v_t_value (f_X5_isFigure (r_t_bytes (Int32.toNatClampNeg (v_t_tokenAt + v_t_tokenLong))))
def f_X5_lookAt_J43 (v_t_bytesLong : Int32) (r_t_bytes : Nat → Int32)  (v_t_tokenAt : Int32) (v_t_tokenLong : Int32) (v_t_token : Int32) (v_t_value : Int32) : Option (Int32 × Int32 × Int32 × Int32) :=
  if v_t_tokenAt = v_t_bytesLong then
    some (v_t_tokenAt, (0 : Int32), (0 : Int32), (0 : Int32))
  else
    ckI v_t_tokenAt 150 <|
    if (f_X5_isSmall (r_t_bytes (Int32.toNatClampNeg v_t_tokenAt))) = 0 then
      if (f_X5_isFigure (r_t_bytes (Int32.toNatClampNeg v_t_tokenAt))) = 0 then
        if (r_t_bytes (Int32.toNatClampNeg v_t_tokenAt)) = (59 : Int32) then
          if (3 : Int32) ≤ (3 : Int32) then
            lq5 (f_X5_lookAt_B136 v_t_bytesLong r_t_bytes ) FU (0 : Int32) v_t_tokenAt (1 : Int32) (3 : Int32) (0 : Int32)
          else
            lq5 (f_X5_lookAt_B136 v_t_bytesLong r_t_bytes ) FU (1 : Int32) v_t_tokenAt (1 : Int32) (3 : Int32) (0 : Int32)
        else
          if (3 : Int32) ≤ (4 : Int32) then
            lq5 (f_X5_lookAt_B136 v_t_bytesLong r_t_bytes ) FU (0 : Int32) v_t_tokenAt (1 : Int32) (4 : Int32) (0 : Int32)
          else
            lq5 (f_X5_lookAt_B136 v_t_bytesLong r_t_bytes ) FU (1 : Int32) v_t_tokenAt (1 : Int32) (4 : Int32) (0 : Int32)
      else
        if (3 : Int32) ≤ (2 : Int32) then
          lq5 (f_X5_lookAt_B136 v_t_bytesLong r_t_bytes ) FU (0 : Int32) v_t_tokenAt (1 : Int32) (2 : Int32) (0 : Int32)
        else
          lq5 (f_X5_lookAt_B136 v_t_bytesLong r_t_bytes ) FU (1 : Int32) v_t_tokenAt (1 : Int32) (2 : Int32) (0 : Int32)
    else
      if (3 : Int32) ≤ (1 : Int32) then
        lq5 (f_X5_lookAt_B136 v_t_bytesLong r_t_bytes ) FU (0 : Int32) v_t_tokenAt (1 : Int32) (1 : Int32) (0 : Int32)
      else
        lq5 (f_X5_lookAt_B136 v_t_bytesLong r_t_bytes ) FU (1 : Int32) v_t_tokenAt (1 : Int32) (1 : Int32) (0 : Int32)
def f_X5_lookAt_B5 (v_t_bytesLong : Int32) (r_t_bytes : Nat → Int32) (k5 : Int32 → Int32 → Int32 → Int32 → Option (Int32 × Int32 × Int32 × Int32)) (v_t_tokenAt : Int32) (v_t_tokenLong : Int32) (v_t_token : Int32) (v_t_value : Int32) : Option (Int32 × Int32 × Int32 × Int32) :=
  if v_t_bytesLong ≤ v_t_tokenAt then
    f_X5_lookAt_J43 v_t_bytesLong r_t_bytes  v_t_tokenAt v_t_tokenLong v_t_token v_t_value
  else
    ckI v_t_tokenAt 150 <|
    if (r_t_bytes (Int32.toNatClampNeg v_t_tokenAt)) = (32 : Int32) then
      k5 (v_t_tokenAt + (1 : Int32)) v_t_tokenLong v_t_token v_t_value
    else
      f_X5_lookAt_J43 v_t_bytesLong r_t_bytes  v_t_tokenAt v_t_tokenLong v_t_token v_t_value
def f_X5_lookAt (x1 : Int32) (v_t_bytesLong : Int32) (v_t_tokenAt : Int32) (v_t_tokenLong : Int32) (v_t_token : Int32) (v_t_value : Int32) (r_t_bytes : Nat → Int32) : Option (Int32 × Int32 × Int32 × Int32) :=
  lq4 (f_X5_lookAt_B5 v_t_bytesLong r_t_bytes ) FU x1 v_t_tokenLong v_t_token v_t_value
def f_X5_goBehind (v_t_bytesLong : Int32) (v_t_tokenAt : Int32) (v_t_tokenLong : Int32) (v_t_token : Int32) (v_t_value : Int32) (r_t_bytes : Nat → Int32) : Option (Int32 × Int32 × Int32 × Int32) :=
  bd4 (f_X5_lookAt (v_t_tokenAt + v_t_tokenLong) v_t_bytesLong v_t_tokenAt v_t_tokenLong v_t_token v_t_value r_t_bytes) fun u1 u2 u3 u4 =>
  some (u1, u2, u3, u4)
def f_X5_spells_J103  (k26 : Int32 → Int32 → Option (Int32)) (y9 : Int32) (s0 : Int32) (s1 : Int32) : Option (Int32) :=
  if s0 = s1 then
    k26 (1 : Int32) (y9 + (1 : Int32))
  else
    k26 (0 : Int32) (y9 + (1 : Int32))
def f_X5_spells_B26 (x1 : Int32) (x2 : Int32) (x3 : Int32) (x4 : Int32) (x5 : Int32) (x6 : Int32) (x7 : Int32) (v_t_tokenAt : Int32) (r_t_bytes : Nat → Int32) (k26 : Int32 → Int32 → Option (Int32)) (y8 : Int32) (y9 : Int32) : Option (Int32) :=
  if x1 ≤ y9 then
    ckB y8 <|
    some y8
  else
    if y8 = 0 then
      ckB y8 <|
      some y8
    else
      ckI (v_t_tokenAt + y9) 150 <|
      if y9 = 0 then
        f_X5_spells_J103  k26 y9 (r_t_bytes (Int32.toNatClampNeg (v_t_tokenAt + y9))) x2
      else
        if y9 = (1 : Int32) then
          f_X5_spells_J103  k26 y9 (r_t_bytes (Int32.toNatClampNeg (v_t_tokenAt + y9))) x3
        else
          if y9 = (2 : Int32) then
            f_X5_spells_J103  k26 y9 (r_t_bytes (Int32.toNatClampNeg (v_t_tokenAt + y9))) x4
          else
            if y9 = (3 : Int32) then
              f_X5_spells_J103  k26 y9 (r_t_bytes (Int32.toNatClampNeg (v_t_tokenAt + y9))) x5
            else
              if y9 = (4 : Int32) then
                f_X5_spells_J103  k26 y9 (r_t_bytes (Int32.toNatClampNeg (v_t_tokenAt + y9))) x6
              else
                f_X5_spells_J103  k26 y9 (r_t_bytes (Int32.toNatClampNeg (v_t_tokenAt + y9))) x7
def f_X5_spells (x1 : Int32) (x2 : Int32) (x3 : Int32) (x4 : Int32) (x5 : Int32) (x6 : Int32) (x7 : Int32) (v_t_tokenAt : Int32) (v_t_tokenLong : Int32) (v_t_token : Int32) (r_t_bytes : Nat → Int32) : Option (Int32) :=
  if v_t_token = (1 : Int32) then
    if v_t_tokenLong = x1 then
      lq2 (f_X5_spells_B26 x1 x2 x3 x4 x5 x6 x7 v_t_tokenAt r_t_bytes ) FU (1 : Int32) (0 : Int32)
    else
      lq2 (f_X5_spells_B26 x1 x2 x3 x4 x5 x6 x7 v_t_tokenAt r_t_bytes ) FU (0 : Int32) (0 : Int32)
  else
    lq2 (f_X5_spells_B26 x1 x2 x3 x4 x5 x6 x7 v_t_tokenAt r_t_bytes ) FU (0 : Int32) (0 : Int32)
def f_X5_takes (x1 : Int32) (x2 : Int32) (x3 : Int32) (v_t_bytesLong : Int32) (v_t_tokenAt : Int32) (v_t_tokenLong : Int32) (v_t_token : Int32) (v_t_value : Int32) (r_t_bytes : Nat → Int32) (r_t_values : Nat → Int32) : Option (Int32 × Int32 × Int32 × Int32 × Int32 × (Nat → Int32)) :=
  if v_t_token = (2 : Int32) then
    if (f_X5_in (Int32.toInt64 v_t_value) (Int32.toInt64 x2) (Int32.toInt64 x3)) = 0 then
      some ((0 : Int32), v_t_tokenAt, v_t_tokenLong, v_t_token, v_t_value, r_t_values)
    else
      ckI x1 4 <|
      bd4 (f_X5_goBehind v_t_bytesLong v_t_tokenAt v_t_tokenLong v_t_token v_t_value r_t_bytes) fun u4 u5 u6 u7 =>
      some ((1 : Int32), u4, u5, u6, u7, (upd r_t_values (Int32.toNatClampNeg x1) v_t_value))
  else
    some ((0 : Int32), v_t_tokenAt, v_t_tokenLong, v_t_token, v_t_value, r_t_values)
def f_X5_takesNever (v_t_bytesLong : Int32) (v_t_tokenAt : Int32) (v_t_tokenLong : Int32) (v_t_token : Int32) (v_t_value : Int32) (r_t_bytes : Nat → Int32) (r_t_anew : Nat → Int32) (r_t_values : Nat → Int32) : Option (Int32 × Int32 × Int32 × Int32 × Int32 × (Nat → Int32) × (Nat → Int32)) :=
  bd4 (f_X5_goBehind v_t_bytesLong v_t_tokenAt v_t_tokenLong v_t_token v_t_value r_t_bytes) fun u1 u2 u3 u4 =>
  bd6 (f_X5_takes (0 : Int32) (0 : Int32) (3 : Int32) v_t_bytesLong u1 u2 u3 u4 r_t_bytes r_t_values) fun z6 u7 u8 u9 u10 u11 =>
  if z6 = 0 then
    some ((0 : Int32), u7, u8, u9, u10, r_t_anew, u11)
  else
    bd6 (f_X5_takes (1 : Int32) (0 : Int32) (3 : Int32) v_t_bytesLong u7 u8 u9 u10 r_t_bytes u11) fun z14 u15 u16 u17 u18 u19 =>
    if z14 = 0 then
      some ((0 : Int32), u15, u16, u17, u18, r_t_anew, u19)
    else
      some ((1 : Int32), u15, u16, u17, u18, (upd r_t_anew (Int32.toNatClampNeg (1 : Int32)) ((r_t_anew (Int32.toNatClampNeg (1 : Int32))) ||| ((1 : Int32) <<< ((((4 : Int32) * (u19 (Int32.toNatClampNeg (0 : Int32)))) + (u19 (Int32.toNatClampNeg (1 : Int32)))) &&& 31)))), u19)
def f_X5_takesKnown (v_t_bytesLong : Int32) (v_t_tokenAt : Int32) (v_t_tokenLong : Int32) (v_t_token : Int32) (v_t_value : Int32) (r_t_bytes : Nat → Int32) (r_t_anew : Nat → Int32) (r_t_values : Nat → Int32) : Option (Int32 × Int32 × Int32 × Int32 × Int32 × (Nat → Int32) × (Nat → Int32)) :=
  bd4 (f_X5_goBehind v_t_bytesLong v_t_tokenAt v_t_tokenLong v_t_token v_t_value r_t_bytes) fun u1 u2 u3 u4 =>
  bd6 (f_X5_takes (0 : Int32) (0 : Int32) (5 : Int32) v_t_bytesLong u1 u2 u3 u4 r_t_bytes r_t_values) fun z6 u7 u8 u9 u10 u11 =>
  if z6 = 0 then
    some ((0 : Int32), u7, u8, u9, u10, r_t_anew, u11)
  else
    bd6 (f_X5_takes (1 : Int32) (0 : Int32) (3 : Int32) v_t_bytesLong u7 u8 u9 u10 r_t_bytes u11) fun z14 u15 u16 u17 u18 u19 =>
    if z14 = 0 then
      some ((0 : Int32), u15, u16, u17, u18, r_t_anew, u19)
    else
      ckI ((4 : Int32) + (u19 (Int32.toNatClampNeg (0 : Int32)))) 58 <|
      some ((1 : Int32), u15, u16, u17, u18, (upd r_t_anew (Int32.toNatClampNeg ((4 : Int32) + (u19 (Int32.toNatClampNeg (0 : Int32))))) (u19 (Int32.toNatClampNeg (1 : Int32)))), u19)
def f_X5_takesOne (v_t_bytesLong : Int32) (v_t_tokenAt : Int32) (v_t_tokenLong : Int32) (v_t_token : Int32) (v_t_value : Int32) (r_t_bytes : Nat → Int32) (r_t_anew : Nat → Int32) (r_t_values : Nat → Int32) : Option (Int32 × Int32 × Int32 × Int32 × Int32 × (Nat → Int32) × (Nat → Int32)) :=
  if (r_t_anew (Int32.toNatClampNeg (0 : Int32))) = (4 : Int32) then
    some ((0 : Int32), v_t_tokenAt, v_t_tokenLong, v_t_token, v_t_value, r_t_anew, r_t_values)
  else
    bd4 (f_X5_goBehind v_t_bytesLong v_t_tokenAt v_t_tokenLong v_t_token v_t_value r_t_bytes) fun u2 u3 u4 u5 =>
    bd6 (f_X5_takes (0 : Int32) (0 : Int32) (5 : Int32) v_t_bytesLong u2 u3 u4 u5 r_t_bytes r_t_values) fun z7 u8 u9 u10 u11 u12 =>
    if z7 = 0 then
      some ((0 : Int32), u8, u9, u10, u11, r_t_anew, u12)
    else
      bd6 (f_X5_takes (1 : Int32) (0 : Int32) (9 : Int32) v_t_bytesLong u8 u9 u10 u11 r_t_bytes u12) fun z15 u16 u17 u18 u19 u20 =>
      if z15 = 0 then
        some ((0 : Int32), u16, u17, u18, u19, r_t_anew, u20)
      else
        bd1 (f_X5_layOne (u20 (Int32.toNatClampNeg (0 : Int32))) (u20 (Int32.toNatClampNeg (1 : Int32))) 58 r_t_anew) fun u23 =>
        some ((1 : Int32), u16, u17, u18, u19, u23, u20)
def f_X5_takesMark_J93 (v_t_bytesLong : Int32) (r_t_bytes : Nat → Int32) (k58 : Int32 → Int32 → Int32 → Int32 → Int32 → (Nat → Int32) → (Nat → Int32) → Option (Int32 × Int32 × Int32 × Int32 × Int32 × (Nat → Int32) × (Nat → Int32))) (y1 : Int32) (v_t_tokenAt : Int32) (v_t_tokenLong : Int32) (v_t_token : Int32) (v_t_value : Int32) (r_t_anew : Nat → Int32) (r_t_values : Nat → Int32) : Option (Int32 × Int32 × Int32 × Int32 × Int32 × (Nat → Int32) × (Nat → Int32)) :=
  bd6 (f_X5_takes (3 : Int32) (0 : Int32) (3 : Int32) v_t_bytesLong v_t_tokenAt v_t_tokenLong v_t_token v_t_value r_t_bytes r_t_values) fun z39 u40 u41 u42 u43 u44 =>
  if z39 = 0 then
    some ((0 : Int32), u40, u41, u42, u43, r_t_anew, u44)
  else
    k58 (y1 ||| ((1 : Int32) <<< ((u44 (Int32.toNatClampNeg (3 : Int32))) &&& 31))) u40 u41 u42 u43 r_t_anew u44
def f_X5_takesMark_B58 (v_t_bytesLong : Int32) (r_t_bytes : Nat → Int32) (k58 : Int32 → Int32 → Int32 → Int32 → Int32 → (Nat → Int32) → (Nat → Int32) → Option (Int32 × Int32 × Int32 × Int32 × Int32 × (Nat → Int32) × (Nat → Int32))) (y1 : Int32) (v_t_tokenAt : Int32) (v_t_tokenLong : Int32) (v_t_token : Int32) (v_t_value : Int32) (r_t_anew : Nat → Int32) (r_t_values : Nat → Int32) : Option (Int32 × Int32 × Int32 × Int32 × Int32 × (Nat → Int32) × (Nat → Int32)) :=
  if v_t_token = (2 : Int32) then
    bd1 (f_X5_bits y1) fun z35 =>
    if z35 = (3 : Int32) then
      some ((0 : Int32), v_t_tokenAt, v_t_tokenLong, v_t_token, v_t_value, r_t_anew, r_t_values)
    else
      if (4 : Int32) ≤ v_t_value then
        f_X5_takesMark_J93 v_t_bytesLong r_t_bytes k58 y1 v_t_tokenAt v_t_tokenLong v_t_token v_t_value r_t_anew r_t_values
      else
        if (f_X5_has y1 v_t_value) = 0 then
          f_X5_takesMark_J93 v_t_bytesLong r_t_bytes k58 y1 v_t_tokenAt v_t_tokenLong v_t_token v_t_value r_t_anew r_t_values
        else
          some ((0 : Int32), v_t_tokenAt, v_t_tokenLong, v_t_token, v_t_value, r_t_anew, r_t_values)
  else
    if y1 = 0 then
      some ((0 : Int32), v_t_tokenAt, v_t_tokenLong, v_t_token, v_t_value, r_t_anew, r_t_values)
    else
      bd1 (f_X5_layMark (r_t_values (Int32.toNatClampNeg (0 : Int32))) (r_t_values (Int32.toNatClampNeg (1 : Int32))) y1 (r_t_values (Int32.toNatClampNeg (2 : Int32))) 58 r_t_anew) fun u33 =>
      some ((1 : Int32), v_t_tokenAt, v_t_tokenLong, v_t_token, v_t_value, u33, r_t_values)
def f_X5_takesMark (v_t_bytesLong : Int32) (v_t_tokenAt : Int32) (v_t_tokenLong : Int32) (v_t_token : Int32) (v_t_value : Int32) (r_t_bytes : Nat → Int32) (r_t_anew : Nat → Int32) (r_t_values : Nat → Int32) : Option (Int32 × Int32 × Int32 × Int32 × Int32 × (Nat → Int32) × (Nat → Int32)) :=
  if (r_t_anew (Int32.toNatClampNeg (3 : Int32))) = (8 : Int32) then
    some ((0 : Int32), v_t_tokenAt, v_t_tokenLong, v_t_token, v_t_value, r_t_anew, r_t_values)
  else
    bd4 (f_X5_goBehind v_t_bytesLong v_t_tokenAt v_t_tokenLong v_t_token v_t_value r_t_bytes) fun u2 u3 u4 u5 =>
    bd6 (f_X5_takes (0 : Int32) (0 : Int32) ((r_t_anew (Int32.toNatClampNeg (0 : Int32))) - (1 : Int32)) v_t_bytesLong u2 u3 u4 u5 r_t_bytes r_t_values) fun z7 u8 u9 u10 u11 u12 =>
    if z7 = 0 then
      some ((0 : Int32), u8, u9, u10, u11, r_t_anew, u12)
    else
      bd6 (f_X5_takes (1 : Int32) (0 : Int32) (5 : Int32) v_t_bytesLong u8 u9 u10 u11 r_t_bytes u12) fun z15 u16 u17 u18 u19 u20 =>
      if z15 = 0 then
        some ((0 : Int32), u16, u17, u18, u19, r_t_anew, u20)
      else
        bd6 (f_X5_takes (2 : Int32) (0 : Int32) (2 : Int32) v_t_bytesLong u16 u17 u18 u19 r_t_bytes u20) fun z23 u24 u25 u26 u27 u28 =>
        if z23 = 0 then
          some ((0 : Int32), u24, u25, u26, u27, r_t_anew, u28)
        else
          lq7 (f_X5_takesMark_B58 v_t_bytesLong r_t_bytes ) FU (0 : Int32) u24 u25 u26 u27 r_t_anew u28
def f_X5_takesItem (v_t_bytesLong : Int32) (v_t_tokenAt : Int32) (v_t_tokenLong : Int32) (v_t_token : Int32) (v_t_value : Int32) (r_t_bytes : Nat → Int32) (r_t_anew : Nat → Int32) (r_t_values : Nat → Int32) : Option (Int32 × Int32 × Int32 × Int32 × Int32 × (Nat → Int32) × (Nat → Int32)) :=
  bd1 (f_X5_spells (5 : Int32) (110 : Int32) (101 : Int32) (118 : Int32) (101 : Int32) (114 : Int32) (0 : Int32) v_t_tokenAt v_t_tokenLong v_t_token r_t_bytes) fun z1 =>
  if z1 = 0 then
    bd1 (f_X5_spells (5 : Int32) (107 : Int32) (110 : Int32) (111 : Int32) (119 : Int32) (110 : Int32) (0 : Int32) v_t_tokenAt v_t_tokenLong v_t_token r_t_bytes) fun z4 =>
    if z4 = 0 then
      bd1 (f_X5_spells (3 : Int32) (111 : Int32) (110 : Int32) (101 : Int32) (0 : Int32) (0 : Int32) (0 : Int32) v_t_tokenAt v_t_tokenLong v_t_token r_t_bytes) fun z7 =>
      if z7 = 0 then
        bd1 (f_X5_spells (4 : Int32) (109 : Int32) (97 : Int32) (114 : Int32) (107 : Int32) (0 : Int32) (0 : Int32) v_t_tokenAt v_t_tokenLong v_t_token r_t_bytes) fun z10 =>
        if z10 = 0 then
          some ((0 : Int32), v_t_tokenAt, v_t_tokenLong, v_t_token, v_t_value, r_t_anew, r_t_values)
        else
          bd7 (f_X5_takesMark v_t_bytesLong v_t_tokenAt v_t_tokenLong v_t_token v_t_value r_t_bytes r_t_anew r_t_values) fun z13 u14 u15 u16 u17 u18 u19 =>
          if z13 = 0 then
            some ((0 : Int32), u14, u15, u16, u17, u18, u19)
          else
            some ((1 : Int32), u14, u15, u16, u17, u18, u19)
      else
        bd7 (f_X5_takesOne v_t_bytesLong v_t_tokenAt v_t_tokenLong v_t_token v_t_value r_t_bytes r_t_anew r_t_values) fun z22 u23 u24 u25 u26 u27 u28 =>
        ckB z22 <|
        some (z22, u23, u24, u25, u26, u27, u28)
    else
      bd7 (f_X5_takesKnown v_t_bytesLong v_t_tokenAt v_t_tokenLong v_t_token v_t_value r_t_bytes r_t_anew r_t_values) fun z30 u31 u32 u33 u34 u35 u36 =>
      ckB z30 <|
      some (z30, u31, u32, u33, u34, u35, u36)
  else
    bd7 (f_X5_takesNever v_t_bytesLong v_t_tokenAt v_t_tokenLong v_t_token v_t_value r_t_bytes r_t_anew r_t_values) fun z38 u39 u40 u41 u42 u43 u44 =>
    ckB z38 <|
    some (z38, u39, u40, u41, u42, u43, u44)
def f_X5_read_B109  (k109 : Int32 → Int32 → Int32 → Int32 → Int32 → Int32 → (Nat → Int32) → (Nat → Int32) → (Nat → Int32) → Option (Int32 × Int32 × Int32 × Int32 × Int32 × (Nat → Int32) × (Nat → Int32) × (Nat → Int32))) (y1 : Int32) (y2 : Int32) (v_t_tokenAt : Int32) (v_t_tokenLong : Int32) (v_t_token : Int32) (v_t_value : Int32) (r_t_now : Nat → Int32) (r_t_anew : Nat → Int32) (r_t_values : Nat → Int32) : Option (Int32 × Int32 × Int32 × Int32 × Int32 × (Nat → Int32) × (Nat → Int32) × (Nat → Int32)) :=
  if (58 : Int32) ≤ y2 then
    some (y1, v_t_tokenAt, v_t_tokenLong, v_t_token, v_t_value, r_t_now, r_t_anew, r_t_values)
  else
    ckI y2 58 <|
    ckI y2 146 <|
    k109 y1 (y2 + (1 : Int32)) v_t_tokenAt v_t_tokenLong v_t_token v_t_value (upd r_t_now (Int32.toNatClampNeg y2) (r_t_anew (Int32.toNatClampNeg y2))) r_t_anew r_t_values
def f_X5_read_B67 (v_t_bytesLong : Int32) (r_t_bytes : Nat → Int32) (k67 : Int32 → Int32 → Int32 → Int32 → Int32 → (Nat → Int32) → (Nat → Int32) → (Nat → Int32) → Option (Int32 × Int32 × Int32 × Int32 × Int32 × (Nat → Int32) × (Nat → Int32) × (Nat → Int32))) (y1 : Int32) (v_t_tokenAt : Int32) (v_t_tokenLong : Int32) (v_t_token : Int32) (v_t_value : Int32) (r_t_now : Nat → Int32) (r_t_anew : Nat → Int32) (r_t_values : Nat → Int32) : Option (Int32 × Int32 × Int32 × Int32 × Int32 × (Nat → Int32) × (Nat → Int32) × (Nat → Int32)) :=
  if v_t_token = 0 then
    lq9 (f_X5_read_B109  ) FU y1 (0 : Int32) v_t_tokenAt v_t_tokenLong v_t_token v_t_value r_t_now r_t_anew r_t_values
  else
    bd7 (f_X5_takesItem v_t_bytesLong v_t_tokenAt v_t_tokenLong v_t_token v_t_value r_t_bytes r_t_anew r_t_values) fun z26 u27 u28 u29 u30 u31 u32 =>
    if z26 = 0 then
      some (((-10 : Int32) - u27), u27, u28, u29, u30, r_t_now, u31, u32)
    else
      if u29 = (3 : Int32) then
        bd4 (f_X5_goBehind v_t_bytesLong u27 u28 u29 u30 r_t_bytes) fun u36 u37 u38 u39 =>
        k67 (y1 + (1 : Int32)) u36 u37 u38 u39 r_t_now u31 u32
      else
        some (((-10 : Int32) - u27), u27, u28, u29, u30, r_t_now, u31, u32)
def f_X5_read (v_t_bytesLong : Int32) (v_t_tokenAt : Int32) (v_t_tokenLong : Int32) (v_t_token : Int32) (v_t_value : Int32) (r_t_now : Nat → Int32) (r_t_bytes : Nat → Int32) (r_t_anew : Nat → Int32) (r_t_values : Nat → Int32) : Option (Int32 × Int32 × Int32 × Int32 × Int32 × (Nat → Int32) × (Nat → Int32) × (Nat → Int32)) :=
  bd4 (f_X5_lookAt (0 : Int32) v_t_bytesLong v_t_tokenAt v_t_tokenLong v_t_token v_t_value r_t_bytes) fun u1 u2 u3 u4 =>
  bd1 (f_X5_spells (6 : Int32) (111 : Int32) (102 : Int32) (102 : Int32) (105 : Int32) (99 : Int32) (101 : Int32) u1 u2 u3 r_t_bytes) fun z6 =>
  if z6 = 0 then
    some (((-10 : Int32) - u1), u1, u2, u3, u4, r_t_now, r_t_anew, r_t_values)
  else
    bd4 (f_X5_goBehind v_t_bytesLong u1 u2 u3 u4 r_t_bytes) fun u9 u10 u11 u12 =>
    if u11 = (3 : Int32) then
      bd4 (f_X5_goBehind v_t_bytesLong u9 u10 u11 u12 r_t_bytes) fun u15 u16 u17 u18 =>
      bd1 (f_X5_begin 58 r_t_anew) fun u20 =>
      lq8 (f_X5_read_B67 v_t_bytesLong r_t_bytes ) FU (1 : Int32) u15 u16 u17 u18 r_t_now u20 r_t_values
    else
      some (((-10 : Int32) - u9), u9, u10, u11, u12, r_t_now, r_t_anew, r_t_values)
def f_X5_part (x1 : Int32) (v_t_above : Int64) (v_t_below : Int64) (r_t_refused : Nat → Int32) : Option (Int64 × (Nat → Int32)) :=
  if x1 = 0 then
    some (v_t_above, r_t_refused)
  else
    if x1 = (1 : Int32) then
      some (v_t_below, r_t_refused)
    else
      bd2 (f_X5_bad (-2 : Int32) r_t_refused) fun z3 u4 =>
      some ((Int32.toInt64 z3), u4)
def f_X5_image_B19 (x1 : Int32) (r_t_now : Nat → Int32) (k19 : Int32 → (Nat → Int32) → (Nat → Int32) → (Nat → Int32) → Option (Int32 × (Nat → Int32) × (Nat → Int32) × (Nat → Int32))) (y2 : Int32) (r_t_kept : Nat → Int32) (r_t_isKept : Nat → Int32) (r_t_refused : Nat → Int32) : Option (Int32 × (Nat → Int32) × (Nat → Int32) × (Nat → Int32)) :=
  if (146 : Int32) ≤ y2 then
    ckI x1 2 <|
    some ((1 : Int32), r_t_kept, (upd r_t_isKept (Int32.toNatClampNeg x1) (vp_nar .boolean (1 : Int32))), r_t_refused)
  else
    ckI y2 146 <|
    ckI (((146 : Int32) * x1) + y2) 292 <|
    k19 (y2 + (1 : Int32)) (upd r_t_kept (Int32.toNatClampNeg (((146 : Int32) * x1) + y2)) (r_t_now (Int32.toNatClampNeg y2))) r_t_isKept r_t_refused
def f_X5_image (x1 : Int32) (r_t_now : Nat → Int32) (r_t_kept : Nat → Int32) (r_t_isKept : Nat → Int32) (r_t_refused : Nat → Int32) : Option (Int32 × (Nat → Int32) × (Nat → Int32) × (Nat → Int32)) :=
  if (f_X5_in (Int32.toInt64 x1) (0 : Int64) (1 : Int64)) = 0 then
    bd2 (f_X5_bad (-2 : Int32) r_t_refused) fun z6 u7 =>
    some (z6, r_t_kept, r_t_isKept, u7)
  else
    lq4 (f_X5_image_B19 x1 r_t_now ) FU (0 : Int32) r_t_kept r_t_isKept r_t_refused
def f_X5_from_B33 (x1 : Int32) (r_t_kept : Nat → Int32) (k33 : Int32 → (Nat → Int32) → (Nat → Int32) → Option (Int32 × (Nat → Int32) × (Nat → Int32))) (y2 : Int32) (r_t_now : Nat → Int32) (r_t_refused : Nat → Int32) : Option (Int32 × (Nat → Int32) × (Nat → Int32)) :=
  if (146 : Int32) ≤ y2 then
    some ((1 : Int32), r_t_now, r_t_refused)
  else
    ckI (((146 : Int32) * x1) + y2) 292 <|
    ckI y2 146 <|
    k33 (y2 + (1 : Int32)) (upd r_t_now (Int32.toNatClampNeg y2) (r_t_kept (Int32.toNatClampNeg (((146 : Int32) * x1) + y2)))) r_t_refused
def f_X5_from (x1 : Int32) (r_t_now : Nat → Int32) (r_t_kept : Nat → Int32) (r_t_isKept : Nat → Int32) (r_t_refused : Nat → Int32) : Option (Int32 × (Nat → Int32) × (Nat → Int32)) :=
  if (f_X5_in (Int32.toInt64 x1) (0 : Int64) (1 : Int64)) = 0 then
    bd2 (f_X5_bad (-2 : Int32) r_t_refused) fun z10 u11 =>
    some (z10, r_t_now, u11)
  else
    ckI x1 2 <|
    if (r_t_isKept (Int32.toNatClampNeg x1)) = 0 then
      bd2 (f_X5_no r_t_refused) fun z7 u8 =>
      some (z7, r_t_now, u8)
    else
      lq3 (f_X5_from_B33 x1 r_t_kept ) FU (0 : Int32) r_t_now r_t_refused
def f_X5_status (x1 : Int32) (r_t_refused : Nat → Int32) : Option (Int32 × (Nat → Int32)) :=
  if (f_X5_in (Int32.toInt64 x1) (0 : Int64) (2 : Int64)) = 0 then
    bd2 (f_X5_bad (-1 : Int32) r_t_refused) fun z2 u3 =>
    some (z2, u3)
  else
    ckI x1 3 <|
    some ((r_t_refused (Int32.toNatClampNeg x1)), r_t_refused)
def f_X5_manyKnown_B4 (r_t_now : Nat → Int32) (k4 : Int32 → Int32 → Option (Int32)) (y1 : Int32) (y2 : Int32) : Option (Int32) :=
  if (6 : Int32) ≤ y2 then
    some y1
  else
    ckI ((4 : Int32) + y2) 146 <|
    if (r_t_now (Int32.toNatClampNeg ((4 : Int32) + y2))) = (-1 : Int32) then
      k4 (y1 + (0 : Int32)) (y2 + (1 : Int32))
    else
      k4 (y1 + (1 : Int32)) (y2 + (1 : Int32))
def f_X5_manyKnown (r_t_now : Nat → Int32) : Option (Int32) :=
  lq2 (f_X5_manyKnown_B4 r_t_now ) FU (0 : Int32) (0 : Int32)
def f_X5_counted (x1 : Int32) (v_t_bytesLong : Int32) (r_t_now : Nat → Int32) : Option (Int32) :=
  if x1 = (0 : Int32) then
    some (f_X5_many r_t_now)
  else
    if x1 = (1 : Int32) then
      bd1 (f_X5_bits (r_t_now (Int32.toNatClampNeg (1 : Int32)))) fun z8 =>
      some z8
    else
      if x1 = (2 : Int32) then
        some (f_X5_marks r_t_now)
      else
        if x1 = (3 : Int32) then
          bd1 (f_X5_manyKnown r_t_now) fun z6 =>
          some z6
        else
          if x1 = (4 : Int32) then
            some (r_t_now (Int32.toNatClampNeg (2 : Int32)))
          else
            some v_t_bytesLong
def f_X5_count (x1 : Int32) (v_t_bytesLong : Int32) (r_t_now : Nat → Int32) (r_t_refused : Nat → Int32) : Option (Int32 × (Nat → Int32)) :=
  if (f_X5_in (Int32.toInt64 x1) (0 : Int64) (5 : Int64)) = 0 then
    bd2 (f_X5_bad (-2 : Int32) r_t_refused) fun z2 u3 =>
    some (z2, u3)
  else
    bd1 (f_X5_counted x1 v_t_bytesLong r_t_now) fun z5 =>
    some (z5, r_t_refused)
def f_X5_sums_B6 (x3 : Int32) (x4 : Int32) (r_t_now : Nat → Int32) (k6 : Int64 → Int32 → Option (Int64)) (y5 : Int64) (y7 : Int32) : Option (Int64) :=
  if x4 ≤ y7 then
    some y5
  else
    ckI (x3 + y7) 146 <|
    k6 (((31 : Int64) * y5) + (Int32.toInt64 (r_t_now (Int32.toNatClampNeg (x3 + y7))))) (y7 + (1 : Int32))
def f_X5_sums (x1 : Int64) (x3 : Int32) (x4 : Int32) (r_t_now : Nat → Int32) : Option (Int64) :=
  lq2 (f_X5_sums_B6 x3 x4 r_t_now ) FU x1 (0 : Int32)
def f_X5_digest_B74 (v_t_above : Int64) (v_t_below : Int64) (r_t_now : Nat → Int32) (k74 : Int64 → Int32 → Option (Int64)) (y1 : Int64) (y3 : Int32) : Option (Int64) :=
  if (f_X5_many r_t_now) ≤ y3 then
    bd1 (f_X5_sums y1 (18 : Int32) ((5 : Int32) * (f_X5_marks r_t_now)) r_t_now) fun z6 =>
    some (((31 : Int64) * (((31 : Int64) * z6) + v_t_above)) + v_t_below)
  else
    ckI ((14 : Int32) + y3) 146 <|
    ckI ((10 : Int32) + y3) 146 <|
    k74 (((31 : Int64) * (((31 : Int64) * y1) + (Int32.toInt64 (r_t_now (Int32.toNatClampNeg ((14 : Int32) + y3)))))) + (Int32.toInt64 (r_t_now (Int32.toNatClampNeg ((10 : Int32) + y3))))) (y3 + (1 : Int32))
def f_X5_digest_B33 (v_t_above : Int64) (v_t_below : Int64) (r_t_now : Nat → Int32) (k33 : Int64 → Int32 → Option (Int64)) (y1 : Int64) (y3 : Int32) : Option (Int64) :=
  if (16 : Int32) ≤ y3 then
    bd1 (f_X5_sums y1 (4 : Int32) (6 : Int32) r_t_now) fun z3 =>
    lq2 (f_X5_digest_B74 v_t_above v_t_below r_t_now ) FU z3 (0 : Int32)
  else
    k33 (((31 : Int64) * y1) + (Int32.toInt64 (((r_t_now (Int32.toNatClampNeg (1 : Int32))) >>> (y3 &&& 31)) &&& (1 : Int32)))) (y3 + (1 : Int32))
def f_X5_digest_B6 (v_t_above : Int64) (v_t_below : Int64) (v_t_bytesLong : Int32) (r_t_now : Nat → Int32) (k6 : Int64 → Int32 → Option (Int64)) (y1 : Int64) (y3 : Int32) : Option (Int64) :=
  if (6 : Int32) ≤ y3 then
    lq2 (f_X5_digest_B33 v_t_above v_t_below r_t_now ) FU y1 (0 : Int32)
  else
    bd1 (f_X5_counted y3 v_t_bytesLong r_t_now) fun z10 =>
    k6 (((31 : Int64) * y1) + (Int32.toInt64 z10)) (y3 + (1 : Int32))
def f_X5_digest (v_t_above : Int64) (v_t_below : Int64) (v_t_bytesLong : Int32) (r_t_now : Nat → Int32) : Option (Int64) :=
  lq2 (f_X5_digest_B6 v_t_above v_t_below v_t_bytesLong r_t_now ) FU (1291 : Int64) (0 : Int32)
