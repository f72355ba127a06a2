def f_X5_in (p1 : Int32) (p2 : Int32) (p3 : Int32) (I0 : kgM) : Option (Int32 × kgM) :=
    (if p1 < p2 then
    some ((0 : Int32), I0)
    else
    (if p3 < p1 then
    some ((0 : Int32), I0)
    else
    some ((1 : Int32), I0)))

def f_X5_isKettle (p1 : Int32) (I0 : kgM) : Option (Int32 × kgM) :=
    ck (inb (1 : Int32) 1375) (
    bndC (f_X5_in p1 (0 : Int32) ((I0 178 (1 : Int32).toNatClampNeg) - (1 : Int32)) I0) (fun x1 I1 => 
    ck (isz x1) (some (x1, I1))))

def f_X5_ownerOf (p1 : Int32) (I0 : kgM) : Option (Int32 × kgM) :=
    ck (inb (((17 : Int32) + p1) - (1 : Int32)) 1375) (
    some ((I0 178 (((17 : Int32) + p1) - (1 : Int32)).toNatClampNeg) - (1 : Int32), I0))

def f_X5_pitchesOf_L4 (a1 : Int32) (K : Int32 → kgM → Option (Int32 × kgM)) : Nat → Int32 → Int32 → kgM → Option (Int32 × kgM)
  | 0, _, _, _ => none
  | q + 1, x2h4, x3h4, Ih4 =>
    (if (13 : Int32) ≤ x3h4 then
    K x2h4 Ih4
    else
    bndC (f_X5_ownerOf x3h4 Ih4) (fun x1 I1 => 
    (if x1 = a1 then
    bnd (x2h4 + (1 : Int32)) (fun x4 => 
    bnd (x3h4 + (1 : Int32)) (fun x5 => 
    f_X5_pitchesOf_L4 a1 K q x4 x5 I1))
    else
    bnd (x2h4 + (0 : Int32)) (fun x2 => 
    bnd (x3h4 + (1 : Int32)) (fun x3 => 
    f_X5_pitchesOf_L4 a1 K q x2 x3 I1)))))

def f_X5_pitchesOf (p1 : Int32) (I0 : kgM) : Option (Int32 × kgM) :=
    f_X5_pitchesOf_L4 p1 (fun x6 I2 =>
    some (x6, I2)) 200 (0 : Int32) (1 : Int32) I0

def f_X5_kt (p1 : Int32) (p2 : Int32) (I0 : kgM) : Option (Int32 × kgM) :=
    ck (inb (((35 : Int32) + ((9 : Int32) * p1)) + p2) 1375) (
    some (I0 178 (((35 : Int32) + ((9 : Int32) * p1)) + p2).toNatClampNeg, I0))

def f_X5_isOnStove (p1 : Int32) (I0 : kgM) : Option (Int32 × kgM) :=
    bndC (f_X5_kt p1 (5 : Int32) I0) (fun x1 I1 => 
    (if x1 ≤ 0 then
    some ((0 : Int32), I1)
    else
    some ((1 : Int32), I1)))

def f_X5_heatUnder (p1 : Int32) (I0 : kgM) : Option (Int32 × kgM) :=
    bndC (f_X5_isOnStove p1 I0) (fun x1 I1 => 
    (if x1 = 0 then
    some ((0 : Int32), I1)
    else
    bndC (f_X5_kt p1 (5 : Int32) I1) (fun x2 I2 => 
    ck (inb (((29 : Int32) + x2) - (1 : Int32)) 1375) (
    some (I2 178 (((29 : Int32) + x2) - (1 : Int32)).toNatClampNeg, I2)))))

def f_X5_boils (p1 : Int32) (I0 : kgM) : Option (Int32 × kgM) :=
    bndC (f_X5_heatUnder p1 I0) (fun x1 I1 => 
    (if x1 ≤ 0 then
    some ((0 : Int32), I1)
    else
    bndC (f_X5_kt p1 (3 : Int32) I1) (fun x2 I2 => 
    (if x2 = (100 : Int32) then
    some ((1 : Int32), I2)
    else
    some ((0 : Int32), I2)))))

def f_X5_whistles (p1 : Int32) (I0 : kgM) : Option (Int32 × kgM) :=
    bndC (f_X5_boils p1 I0) (fun x1 I1 => 
    (if x1 = 0 then
    some ((0 : Int32), I1)
    else
    bndC (f_X5_kt p1 (2 : Int32) I1) (fun x2 I2 => 
    (if x2 ≤ 0 then
    some ((0 : Int32), I2)
    else
    bndC (f_X5_kt p1 (4 : Int32) I2) (fun x3 I3 => 
    (if x3 = (1 : Int32) then
    some ((1 : Int32), I3)
    else
    some ((0 : Int32), I3)))))))

def f_X5_kettleOn_L2 (a1 : Int32) (K : kgM → Option (Int32 × kgM)) : Nat → Int32 → kgM → Option (Int32 × kgM)
  | 0, _, _ => none
  | q + 1, x2h2, Ih2 =>
    ck (inb (1 : Int32) 1375) (
    (if (Ih2 178 (1 : Int32).toNatClampNeg) ≤ x2h2 then
    K Ih2
    else
    bndC (f_X5_kt x2h2 (5 : Int32) Ih2) (fun x1 I1 => 
    (if x1 = (a1 + (1 : Int32)) then
    some (x2h2, I1)
    else
    bnd (x2h2 + (1 : Int32)) (fun x2 => 
    f_X5_kettleOn_L2 a1 K q x2 I1)))))

def f_X5_kettleOn (p1 : Int32) (I0 : kgM) : Option (Int32 × kgM) :=
    f_X5_kettleOn_L2 p1 (fun I2 =>
    some ((-1 : Int32), I2)) 200 (0 : Int32) I0

def f_X5_isMember (p1 : Int32) (I0 : kgM) : Option (Int32 × kgM) :=
    bndC (f_X5_in p1 (0 : Int32) (3 : Int32) I0) (fun x1 I1 => 
    ck (isz x1) (some (x1, I1)))

def f_X5_isPitch (p1 : Int32) (I0 : kgM) : Option (Int32 × kgM) :=
    bndC (f_X5_in p1 (1 : Int32) (12 : Int32) I0) (fun x1 I1 => 
    ck (isz x1) (some (x1, I1)))

def f_X5_refuses (p1 : Int32) (p2 : Int32) (p3 : Int32) (I0 : kgM) : Option (Int32 × kgM) :=
    (if p1 = 0 then
    ck (isz p1) (some (p1, I0))
    else
    ck (inb (0 : Int32) 3) (bnd (kgW I0 179 (0 : Int32).toNatClampNeg p2) (fun I1 => 
    ck (inb (0 : Int32) 3) (bnd (kgW I1 180 (0 : Int32).toNatClampNeg p3) (fun I2 => 
    bnd (kgW I2 177 5 (1 : Int32)) (fun I3 => 
    ck (isz p1) (some (p1, I3))))))))

def f_X5_owns (p1 : Int32) (p2 : Int32) (I0 : kgM) : Option (Int32 × kgM) :=
    bndC (f_X5_isMember p1 I0) (fun x1 I1 => 
    (if x1 = 0 then
    some ((-1011 : Int32), I1)
    else
    bndC (f_X5_isPitch p2 I1) (fun x2 I2 => 
    (if x2 = 0 then
    some ((-1012 : Int32), I2)
    else
    bndC (f_X5_ownerOf p2 I2) (fun x3 I3 => 
    (letJ (fun y0j36 =>
    bndC (f_X5_ownerOf p2 I3) (fun x4 I4 => 
    bndC (f_X5_refuses y0j36 (2 : Int32) x4 I4) (fun x5 I5 => 
    (if x5 = 0 then
    bndC (f_X5_pitchesOf p1 I5) (fun x6 I6 => 
    (letJ (fun y0j63 =>
    bndC (f_X5_refuses y0j63 (1 : Int32) (4 : Int32) I6) (fun x7 I7 => 
    (if x7 = 0 then
    ck (inb (((17 : Int32) + p2) - (1 : Int32)) 1375) (bnd (kgW I7 178 (((17 : Int32) + p2) - (1 : Int32)).toNatClampNeg (p1 + (1 : Int32))) (fun I8 => 
    bndC (f_X5_pitchesOf p1 I8) (fun x8 I9 => 
    some (x8, I9))))
    else
    some ((-1014 : Int32), I7)))) (fun (j63 : Int32 → Option (Int32 × kgM)) =>
    (if x6 = (4 : Int32) then
    j63 (1 : Int32)
    else
    j63 (0 : Int32)))))
    else
    some ((-1014 : Int32), I5))))) (fun (j36 : Int32 → Option (Int32 × kgM)) =>
    (if x3 < 0 then
    j36 (0 : Int32)
    else
    j36 (1 : Int32)))))))))

def f_X5_sign  (I0 : kgM) : Option (Int32 × kgM) :=
    (if (I0 177 7) ≤ (I0 177 8) then
    some ((-1 : Int32), I0)
    else
    ck (inb (I0 177 8) 60) (
    some (I0 181 (I0 177 8).toNatClampNeg, I0)))

def f_X5_needs (p1 : Int32) (I0 : kgM) : Option (Int32 × kgM) :=
    (if (I0 177 9) < 0 then
    bndC (f_X5_sign I0) (fun x1 I1 => 
    (if x1 = p1 then
    bnd (kgW I1 177 8 ((I1 177 8) + (1 : Int32))) (fun I2 => 
    some ((0 : Int32), I2))
    else
    bnd (kgW I1 177 9 (I1 177 8)) (fun I3 => 
    some ((0 : Int32), I3))))
    else
    some ((0 : Int32), I0))

def f_X5_signs (p1 : Int32) (p2 : Int32) (p3 : Int32) (I0 : kgM) : Option (Int32 × kgM) :=
    bndC (f_X5_needs p1 I0) (fun x1 I1 => 
    bndC (f_X5_needs p2 I1) (fun x2 I2 => 
    (if p3 = 0 then
    some ((0 : Int32), I2)
    else
    bndC (f_X5_needs p3 I2) (fun x3 I3 => 
    some ((0 : Int32), I3)))))

def f_X5_word (p1 : Int32) (I0 : kgM) : Option (Int32 × kgM) :=
    bndC (f_X5_sign I0) (fun x1 I1 => 
    (if p1.toInt = 97 then
    bndC (f_X5_signs (112 : Int32) (112 : Int32) (101 : Int32) I1) (fun x2 I2 => 
    bndC (f_X5_signs (97 : Int32) (108 : Int32) (0 : Int32) I2) (fun x3 I3 => 
    some ((97 : Int32), I3)))
    else
    (if p1.toInt = 102 then
    bndC (f_X5_signs (105 : Int32) (108 : Int32) (108 : Int32) I1) (fun x4 I4 => 
    some ((102 : Int32), I4))
    else
    (if p1.toInt = 104 then
    bndC (f_X5_signs (101 : Int32) (97 : Int32) (116 : Int32) I1) (fun x5 I5 => 
    some ((104 : Int32), I5))
    else
    (if p1.toInt = 107 then
    bndC (f_X5_signs (101 : Int32) (116 : Int32) (116 : Int32) I1) (fun x6 I6 => 
    bndC (f_X5_signs (108 : Int32) (101 : Int32) (0 : Int32) I6) (fun x7 I7 => 
    some ((107 : Int32), I7)))
    else
    (if p1.toInt = 108 then
    bndC (f_X5_signs (105 : Int32) (100 : Int32) (0 : Int32) I1) (fun x8 I8 => 
    some ((108 : Int32), I8))
    else
    (if p1.toInt = 109 then
    bndC (f_X5_signs (105 : Int32) (110 : Int32) (117 : Int32) I1) (fun x9 I9 => 
    bndC (f_X5_signs (116 : Int32) (101 : Int32) (0 : Int32) I9) (fun x10 I10 => 
    some ((109 : Int32), I10)))
    else
    (if p1.toInt = 115 then
    bndC (f_X5_signs (101 : Int32) (116 : Int32) (0 : Int32) I1) (fun x11 I11 => 
    some ((115 : Int32), I11))
    else
    (if x1 = (102 : Int32) then
    bndC (f_X5_signs (102 : Int32) (102 : Int32) (0 : Int32) I1) (fun x13 I13 => 
    some ((116 : Int32), I13))
    else
    bndC (f_X5_signs (119 : Int32) (110 : Int32) (0 : Int32) I1) (fun x12 I12 => 
    some ((110 : Int32), I12)))))))))))

