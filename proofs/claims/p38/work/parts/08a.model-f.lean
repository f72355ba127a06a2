def f_X5_in (p1 : Int32) (p2 : Int32) (p3 : Int32) (I0 : kgM) : Option (Int32 × kgM) :=
    (if p1 < p2 then
    some ((0 : Int32), I0)
    else
    (if p3 < p1 then
    some ((0 : Int32), I0)
    else
    some ((1 : Int32), I0)))

def f_X5_copies_L2 (a1 : Int32) (a2 : Int32) (K : kgM → Option (Int32 × kgM)) : Nat → Int32 → kgM → Option (Int32 × kgM)
  | 0, _, _ => none
  | q + 1, x3h2, Ih2 =>
    (if (125 : Int32) ≤ x3h2 then
    K Ih2
    else
    ck (inb (((125 : Int32) * a1) + x3h2) 1375) (
    ck (inb (((125 : Int32) * a2) + x3h2) 1375) (bnd (kgW Ih2 178 (((125 : Int32) * a2) + x3h2).toNatClampNeg (Ih2 178 (((125 : Int32) * a1) + x3h2).toNatClampNeg)) (fun I1 => 
    bnd (x3h2 + (1 : Int32)) (fun x1 => 
    f_X5_copies_L2 a1 a2 K q x1 I1)))))

def f_X5_copies (p1 : Int32) (p2 : Int32) (I0 : kgM) : Option (Int32 × kgM) :=
    f_X5_copies_L2 p1 p2 (fun I2 =>
    some ((0 : Int32), I2)) 200 (0 : Int32) I0

def f_X5_begins  (I0 : kgM) : Option (Int32 × kgM) :=
    bndC (f_X5_copies (0 : Int32) (10 : Int32) I0) (fun x1 I1 => 
    some ((0 : Int32), I1))

def f_X5_ends_L27 (a1 : Int32) (K : kgM → Option (Int32 × kgM)) : Nat → Int32 → kgM → Option (Int32 × kgM)
  | 0, _, _ => none
  | q + 1, x2h27, Ih27 =>
    (if (8 : Int32) ≤ x2h27 then
    K Ih27
    else
    bndC (f_X5_copies (x2h27 + (1 : Int32)) x2h27 Ih27) (fun x2 I3 => 
    bnd (x2h27 + (1 : Int32)) (fun x3 => 
    f_X5_ends_L27 a1 K q x3 I3)))

def f_X5_ends (p1 : Int32) (I0 : kgM) : Option (Int32 × kgM) :=
    (if (-1011 : Int32) < p1 then
    (letJ (fun Ij57 =>
    bnd (kgW Ij57 177 1 ((Ij57 177 1) + (1 : Int32))) (fun I1 => 
    bndC (f_X5_copies (10 : Int32) (I1 177 1) I1) (fun x1 I2 => 
    some (p1, I2)))) (fun (j57 : kgM → Option (Int32 × kgM)) =>
    (if (I0 177 1) = (8 : Int32) then
    f_X5_ends_L27 p1 (fun I4 =>
    bnd (kgW I4 177 1 ((I4 177 1) - (1 : Int32))) (fun I5 => 
    j57 I5)) 200 (1 : Int32) I0
    else
    j57 I0)))
    else
    bndC (f_X5_copies (10 : Int32) (0 : Int32) I0) (fun x4 I6 => 
    some (p1, I6)))

def f_X5_refuses (p1 : Int32) (p2 : Int32) (p3 : Int32) (I0 : kgM) : Option (Int32 × kgM) :=
    (if p1 = 0 then
    ck (isz p1) (some (p1, I0))
    else
    ck (inb (0 : Int32) 3) (bnd (kgW I0 179 (0 : Int32).toNatClampNeg p2) (fun I1 => 
    ck (inb (0 : Int32) 3) (bnd (kgW I1 180 (0 : Int32).toNatClampNeg p3) (fun I2 => 
    bnd (kgW I2 177 5 (1 : Int32)) (fun I3 => 
    ck (isz p1) (some (p1, I3))))))))

def f_X5_causes_L5 (a1 : Int32) (a2 : Int32) (K : kgM → Option (Int32 × kgM)) : Nat → Int32 → kgM → Option (Int32 × kgM)
  | 0, _, _ => none
  | q + 1, x3h5, Ih5 =>
    (if x3h5 ≤ 0 then
    K Ih5
    else
    ck (inb (x3h5 - (1 : Int32)) 3) (
    ck (inb x3h5 3) (bnd (kgW Ih5 179 x3h5.toNatClampNeg (Ih5 179 (x3h5 - (1 : Int32)).toNatClampNeg)) (fun I1 => 
    ck (inb (x3h5 - (1 : Int32)) 3) (
    ck (inb x3h5 3) (bnd (kgW I1 180 x3h5.toNatClampNeg (I1 180 (x3h5 - (1 : Int32)).toNatClampNeg)) (fun I2 => 
    bnd (x3h5 + (-1 : Int32)) (fun x2 => 
    f_X5_causes_L5 a1 a2 K q x2 I2))))))))

def f_X5_causes (p1 : Int32) (p2 : Int32) (I0 : kgM) : Option (Int32 × kgM) :=
    bnd (I0 177 5) (fun x1 => 
    f_X5_causes_L5 p1 p2 (fun I3 =>
    ck (inb (0 : Int32) 3) (bnd (kgW I3 179 (0 : Int32).toNatClampNeg p1) (fun I4 => 
    ck (inb (0 : Int32) 3) (bnd (kgW I4 180 (0 : Int32).toNatClampNeg p2) (fun I5 => 
    bnd (kgW I5 177 5 ((I5 177 5) + (1 : Int32))) (fun I6 => 
    some ((0 : Int32), I6))))))) 200 x1 I0)

def f_X5_reason (p1 : Int32) (p2 : Int32) (I0 : kgM) : Option (Int32 × kgM) :=
    bndC (f_X5_in p1 (0 : Int32) (2 : Int32) I0) (fun x1 I1 => 
    (if x1 = 0 then
    some ((-1012 : Int32), I1)
    else
    (if p1 < (I1 177 5) then
    (if p2 = 0 then
    ck (inb p1 3) (
    some (I1 179 p1.toNatClampNeg, I1))
    else
    ck (inb p1 3) (
    some (I1 180 p1.toNatClampNeg, I1)))
    else
    some ((-1015 : Int32), I1))))

def f_X5_m (p1 : Int32) (p2 : Int32) (I0 : kgM) : Option (Int32 × kgM) :=
    ck (inb (((5 : Int32) + ((3 : Int32) * p1)) + p2) 1375) (
    some (I0 178 (((5 : Int32) + ((3 : Int32) * p1)) + p2).toNatClampNeg, I0))

def f_X5_kt (p1 : Int32) (p2 : Int32) (I0 : kgM) : Option (Int32 × kgM) :=
    ck (inb (((35 : Int32) + ((9 : Int32) * p1)) + p2) 1375) (
    some (I0 178 (((35 : Int32) + ((9 : Int32) * p1)) + p2).toNatClampNeg, I0))

def f_X5_puts (p1 : Int32) (p2 : Int32) (p3 : Int32) (I0 : kgM) : Option (Int32 × kgM) :=
    ck (inb (((35 : Int32) + ((9 : Int32) * p1)) + p2) 1375) (bnd (kgW I0 178 (((35 : Int32) + ((9 : Int32) * p1)) + p2).toNatClampNeg p3) (fun I1 => 
    some ((0 : Int32), I1)))

def f_X5_isKettle (p1 : Int32) (I0 : kgM) : Option (Int32 × kgM) :=
    ck (inb (1 : Int32) 1375) (
    bndC (f_X5_in p1 (0 : Int32) ((I0 178 (1 : Int32).toNatClampNeg) - (1 : Int32)) I0) (fun x1 I1 => 
    ck (isz x1) (some (x1, I1))))

def f_X5_isMember (p1 : Int32) (I0 : kgM) : Option (Int32 × kgM) :=
    bndC (f_X5_in p1 (0 : Int32) (3 : Int32) I0) (fun x1 I1 => 
    ck (isz x1) (some (x1, I1)))

def f_X5_isStove (p1 : Int32) (I0 : kgM) : Option (Int32 × kgM) :=
    bndC (f_X5_in p1 (0 : Int32) (5 : Int32) I0) (fun x1 I1 => 
    ck (isz x1) (some (x1, I1)))

def f_X5_isPitch (p1 : Int32) (I0 : kgM) : Option (Int32 × kgM) :=
    bndC (f_X5_in p1 (1 : Int32) (12 : Int32) I0) (fun x1 I1 => 
    ck (isz x1) (some (x1, I1)))

def f_X5_ownerOf (p1 : Int32) (I0 : kgM) : Option (Int32 × kgM) :=
    ck (inb (((17 : Int32) + p1) - (1 : Int32)) 1375) (
    some ((I0 178 (((17 : Int32) + p1) - (1 : Int32)).toNatClampNeg) - (1 : Int32), I0))

def f_X5_pitchesOf_L4 (a1 : Int32) (K : Int32 → kgM → Option (Int32 × kgM)) : Nat → Int32 → Int32 → kgM → Option (Int32 × kgM)
  | 0, _, _, _ => none
  | q + 1, x2h4, x3h4, Ih4 =>
    (if (13 : Int32) ≤ x3h4 then
    K x2h4 Ih4
    else
    bndC (f_X5_ownerOf x3h4 Ih4) (fun x1 I1 => 
    (if x1 = a1 then
    bnd (x2h4 + (1 : Int32)) (fun x4 => 
    bnd (x3h4 + (1 : Int32)) (fun x5 => 
    f_X5_pitchesOf_L4 a1 K q x4 x5 I1))
    else
    bnd (x2h4 + (0 : Int32)) (fun x2 => 
    bnd (x3h4 + (1 : Int32)) (fun x3 => 
    f_X5_pitchesOf_L4 a1 K q x2 x3 I1)))))

def f_X5_pitchesOf (p1 : Int32) (I0 : kgM) : Option (Int32 × kgM) :=
    f_X5_pitchesOf_L4 p1 (fun x6 I2 =>
    some (x6, I2)) 200 (0 : Int32) (1 : Int32) I0

def f_X5_isOnStove (p1 : Int32) (I0 : kgM) : Option (Int32 × kgM) :=
    bndC (f_X5_kt p1 (5 : Int32) I0) (fun x1 I1 => 
    (if x1 ≤ 0 then
    some ((0 : Int32), I1)
    else
    some ((1 : Int32), I1)))

def f_X5_heatUnder (p1 : Int32) (I0 : kgM) : Option (Int32 × kgM) :=
    bndC (f_X5_isOnStove p1 I0) (fun x1 I1 => 
    (if x1 = 0 then
    some ((0 : Int32), I1)
    else
    bndC (f_X5_kt p1 (5 : Int32) I1) (fun x2 I2 => 
    ck (inb (((29 : Int32) + x2) - (1 : Int32)) 1375) (
    some (I2 178 (((29 : Int32) + x2) - (1 : Int32)).toNatClampNeg, I2)))))

def f_X5_boils (p1 : Int32) (I0 : kgM) : Option (Int32 × kgM) :=
    bndC (f_X5_heatUnder p1 I0) (fun x1 I1 => 
    (if x1 ≤ 0 then
    some ((0 : Int32), I1)
    else
    bndC (f_X5_kt p1 (3 : Int32) I1) (fun x2 I2 => 
    (if x2 = (100 : Int32) then
    some ((1 : Int32), I2)
    else
    some ((0 : Int32), I2)))))

def f_X5_whistles (p1 : Int32) (I0 : kgM) : Option (Int32 × kgM) :=
    bndC (f_X5_boils p1 I0) (fun x1 I1 => 
    (if x1 = 0 then
    some ((0 : Int32), I1)
    else
    bndC (f_X5_kt p1 (2 : Int32) I1) (fun x2 I2 => 
    (if x2 ≤ 0 then
    some ((0 : Int32), I2)
    else
    bndC (f_X5_kt p1 (4 : Int32) I2) (fun x3 I3 => 
    (if x3 = (1 : Int32) then
    some ((1 : Int32), I3)
    else
    some ((0 : Int32), I3)))))))

def f_X5_onStoves_L4  (K : Int32 → kgM → Option (Int32 × kgM)) : Nat → Int32 → Int32 → kgM → Option (Int32 × kgM)
  | 0, _, _, _ => none
  | q + 1, x1h4, x2h4, Ih4 =>
    ck (inb (1 : Int32) 1375) (
    (if (Ih4 178 (1 : Int32).toNatClampNeg) ≤ x2h4 then
    K x1h4 Ih4
    else
    bndC (f_X5_isOnStove x2h4 Ih4) (fun x1 I1 => 
    (if x1 = 0 then
    bnd (x1h4 + (0 : Int32)) (fun x2 => 
    bnd (x2h4 + (1 : Int32)) (fun x3 => 
    f_X5_onStoves_L4 K q x2 x3 I1))
    else
    bnd (x1h4 + (1 : Int32)) (fun x4 => 
    bnd (x2h4 + (1 : Int32)) (fun x5 => 
    f_X5_onStoves_L4 K q x4 x5 I1))))))

def f_X5_onStoves  (I0 : kgM) : Option (Int32 × kgM) :=
    f_X5_onStoves_L4 (fun x6 I2 =>
    some (x6, I2)) 200 (0 : Int32) (0 : Int32) I0

def f_X5_lidsOn_L4  (K : Int32 → kgM → Option (Int32 × kgM)) : Nat → Int32 → Int32 → kgM → Option (Int32 × kgM)
  | 0, _, _, _ => none
  | q + 1, x1h4, x2h4, Ih4 =>
    ck (inb (1 : Int32) 1375) (
    (if (Ih4 178 (1 : Int32).toNatClampNeg) ≤ x2h4 then
    K x1h4 Ih4
    else
    bndC (f_X5_kt x2h4 (4 : Int32) Ih4) (fun x1 I1 => 
    bnd (x1h4 + x1) (fun x2 => 
    bnd (x2h4 + (1 : Int32)) (fun x3 => 
    f_X5_lidsOn_L4 K q x2 x3 I1)))))

def f_X5_lidsOn  (I0 : kgM) : Option (Int32 × kgM) :=
    f_X5_lidsOn_L4 (fun x4 I2 =>
    some (x4, I2)) 200 (0 : Int32) (0 : Int32) I0

def f_X5_kettleOn_L2 (a1 : Int32) (K : kgM → Option (Int32 × kgM)) : Nat → Int32 → kgM → Option (Int32 × kgM)
  | 0, _, _ => none
  | q + 1, x2h2, Ih2 =>
    ck (inb (1 : Int32) 1375) (
    (if (Ih2 178 (1 : Int32).toNatClampNeg) ≤ x2h2 then
    K Ih2
    else
    bndC (f_X5_kt x2h2 (5 : Int32) Ih2) (fun x1 I1 => 
    (if x1 = (a1 + (1 : Int32)) then
    some (x2h2, I1)
    else
    bnd (x2h2 + (1 : Int32)) (fun x2 => 
    f_X5_kettleOn_L2 a1 K q x2 I1)))))

def f_X5_kettleOn (p1 : Int32) (I0 : kgM) : Option (Int32 × kgM) :=
    f_X5_kettleOn_L2 p1 (fun I2 =>
    some ((-1 : Int32), I2)) 200 (0 : Int32) I0

def f_X5_stoveWith_L2 (a1 : Int32) (K : kgM → Option (Int32 × kgM)) : Nat → Int32 → kgM → Option (Int32 × kgM)
  | 0, _, _ => none
  | q + 1, x2h2, Ih2 =>
    ck (inb (1 : Int32) 1375) (
    (if (Ih2 178 (1 : Int32).toNatClampNeg) ≤ x2h2 then
    K Ih2
    else
    bndC (f_X5_isOnStove x2h2 Ih2) (fun x1 I1 => 
    (if x1 = 0 then
    bnd (x2h2 + (1 : Int32)) (fun x2 => 
    f_X5_stoveWith_L2 a1 K q x2 I1)
    else
    bndC (f_X5_kt x2h2 (1 : Int32) I1) (fun x3 I2 => 
    (if x3 = a1 then
    bndC (f_X5_kt x2h2 (5 : Int32) I2) (fun x5 I3 => 
    some (x5 - (1 : Int32), I3))
    else
    bnd (x2h2 + (1 : Int32)) (fun x4 => 
    f_X5_stoveWith_L2 a1 K q x4 I2)))))))

def f_X5_stoveWith (p1 : Int32) (I0 : kgM) : Option (Int32 × kgM) :=
    f_X5_stoveWith_L2 p1 (fun I4 =>
    some ((-1 : Int32), I4)) 200 (0 : Int32) I0

def f_X5_owns (p1 : Int32) (p2 : Int32) (I0 : kgM) : Option (Int32 × kgM) :=
    bndC (f_X5_isMember p1 I0) (fun x1 I1 => 
    (if x1 = 0 then
    some ((-1011 : Int32), I1)
    else
    bndC (f_X5_isPitch p2 I1) (fun x2 I2 => 
    (if x2 = 0 then
    some ((-1012 : Int32), I2)
    else
    bndC (f_X5_ownerOf p2 I2) (fun x3 I3 => 
    (letJ (fun y0j36 =>
    bndC (f_X5_ownerOf p2 I3) (fun x4 I4 => 
    bndC (f_X5_refuses y0j36 (2 : Int32) x4 I4) (fun x5 I5 => 
    (if x5 = 0 then
    bndC (f_X5_pitchesOf p1 I5) (fun x6 I6 => 
    (letJ (fun y0j63 =>
    bndC (f_X5_refuses y0j63 (1 : Int32) (4 : Int32) I6) (fun x7 I7 => 
    (if x7 = 0 then
    ck (inb (((17 : Int32) + p2) - (1 : Int32)) 1375) (bnd (kgW I7 178 (((17 : Int32) + p2) - (1 : Int32)).toNatClampNeg (p1 + (1 : Int32))) (fun I8 => 
    bndC (f_X5_pitchesOf p1 I8) (fun x8 I9 => 
    some (x8, I9))))
    else
    some ((-1014 : Int32), I7)))) (fun (j63 : Int32 → Option (Int32 × kgM)) =>
    (if x6 = (4 : Int32) then
    j63 (1 : Int32)
    else
    j63 (0 : Int32)))))
    else
    some ((-1014 : Int32), I5))))) (fun (j36 : Int32 → Option (Int32 × kgM)) =>
    (if x3 < 0 then
    j36 (0 : Int32)
    else
    j36 (1 : Int32)))))))))

def f_X5_own (p1 : Int32) (p2 : Int32) (I0 : kgM) : Option (Int32 × kgM) :=
    bndC (f_X5_begins I0) (fun x1 I1 => 
    bndC (f_X5_owns p1 p2 I1) (fun x2 I2 => 
    bndC (f_X5_ends x2 I2) (fun x3 I3 => 
    some (x3, I3))))

def f_X5_brings_L106 (a1 : Int32) (a2 : Int32) (a3 : Int32) (a4 : Int32) (K : kgM → Option (Int32 × kgM)) : Nat → Int32 → kgM → Option (Int32 × kgM)
  | 0, _, _ => none
  | q + 1, x5h106, Ih106 =>
    (if (9 : Int32) ≤ x5h106 then
    K Ih106
    else
    bndC (f_X5_puts a4 x5h106 (0 : Int32) Ih106) (fun x9 I9 => 
    bnd (x5h106 + (1 : Int32)) (fun x10 => 
    f_X5_brings_L106 a1 a2 a3 a4 K q x10 I9)))

def f_X5_brings (p1 : Int32) (p2 : Int32) (p3 : Int32) (I0 : kgM) : Option (Int32 × kgM) :=
    bndC (f_X5_isMember p1 I0) (fun x1 I1 => 
    (if x1 = 0 then
    some ((-1011 : Int32), I1)
    else
    bndC (f_X5_isPitch p2 I1) (fun x2 I2 => 
    (if x2 = 0 then
    some ((-1012 : Int32), I2)
    else
    bndC (f_X5_in p3 (0 : Int32) (20 : Int32) I2) (fun x3 I3 => 
    (if x3 = 0 then
    some ((-1012 : Int32), I3)
    else
    ck (inb (1 : Int32) 1375) (
    bnd (I3 178 (1 : Int32).toNatClampNeg) (fun x4 => 
    bndC (f_X5_ownerOf p2 I3) (fun x5 I4 => 
    (letJ (fun y0j55 =>
    bndC (f_X5_ownerOf p2 I4) (fun x6 I5 => 
    bndC (f_X5_refuses y0j55 (3 : Int32) x6 I5) (fun x7 I6 => 
    (if x7 = 0 then
    (letJ (fun y0j80 =>
    bndC (f_X5_refuses y0j80 (1 : Int32) (10 : Int32) I6) (fun x8 I7 => 
    (if x8 = 0 then
    ck (inb (1 : Int32) 1375) (
    ck (inb (1 : Int32) 1375) (bnd (kgW I7 178 (1 : Int32).toNatClampNeg ((I7 178 (1 : Int32).toNatClampNeg) + (1 : Int32))) (fun I8 => 
    f_X5_brings_L106 p1 p2 p3 x4 (fun I10 =>
    bndC (f_X5_puts x4 (0 : Int32) p1 I10) (fun x11 I11 => 
    bndC (f_X5_puts x4 (1 : Int32) p2 I11) (fun x12 I12 => 
    bndC (f_X5_puts x4 (2 : Int32) p3 I12) (fun x13 I13 => 
    bndC (f_X5_puts x4 (3 : Int32) (20 : Int32) I13) (fun x14 I14 => 
    bndC (f_X5_puts x4 (4 : Int32) (1 : Int32) I14) (fun x15 I15 => 
    ck (inb (2 : Int32) 1375) (
    ck (inb (2 : Int32) 1375) (bnd (kgW I15 178 (2 : Int32).toNatClampNeg ((I15 178 (2 : Int32).toNatClampNeg) + p3)) (fun I16 => 
    some (x4, I16)))))))))) 200 (0 : Int32) I8)))
    else
    some ((-1014 : Int32), I7)))) (fun (j80 : Int32 → Option (Int32 × kgM)) =>
    (if x4 = (10 : Int32) then
    j80 (1 : Int32)
    else
    j80 (0 : Int32))))
    else
    some ((-1014 : Int32), I6))))) (fun (j55 : Int32 → Option (Int32 × kgM)) =>
    (if x5 = p1 then
    j55 (0 : Int32)
    else
    j55 (1 : Int32)))))))))))))

def f_X5_kettle (p1 : Int32) (p2 : Int32) (p3 : Int32) (I0 : kgM) : Option (Int32 × kgM) :=
    bndC (f_X5_begins I0) (fun x1 I1 => 
    bndC (f_X5_brings p1 p2 p3 I1) (fun x2 I2 => 
    bndC (f_X5_ends x2 I2) (fun x3 I3 => 
    some (x3, I3))))

def f_X5_fills (p1 : Int32) (p2 : Int32) (I0 : kgM) : Option (Int32 × kgM) :=
    bndC (f_X5_isKettle p1 I0) (fun x1 I1 => 
    (if x1 = 0 then
    some ((-1011 : Int32), I1)
    else
    bndC (f_X5_in p2 (1 : Int32) (20 : Int32) I1) (fun x2 I2 => 
    (if x2 = 0 then
    some ((-1012 : Int32), I2)
    else
    bndC (f_X5_kt p1 (2 : Int32) I2) (fun x3 I3 => 
    bnd (x3 + p2) (fun x4 => 
    (letJ (fun y0j47 =>
    bndC (f_X5_refuses y0j47 (11 : Int32) x4 I3) (fun x5 I4 => 
    (if x5 = 0 then
    bndC (f_X5_puts p1 (2 : Int32) x4 I4) (fun x6 I5 => 
    ck (inb (2 : Int32) 1375) (
    ck (inb (2 : Int32) 1375) (bnd (kgW I5 178 (2 : Int32).toNatClampNeg ((I5 178 (2 : Int32).toNatClampNeg) + p2)) (fun I6 => 
    some (x4, I6)))))
    else
    some ((-1014 : Int32), I4)))) (fun (j47 : Int32 → Option (Int32 × kgM)) =>
    (if x4 ≤ (20 : Int32) then
    j47 (0 : Int32)
    else
    j47 (1 : Int32))))))))))

def f_X5_fill (p1 : Int32) (p2 : Int32) (I0 : kgM) : Option (Int32 × kgM) :=
    bndC (f_X5_begins I0) (fun x1 I1 => 
    bndC (f_X5_fills p1 p2 I1) (fun x2 I2 => 
    bndC (f_X5_ends x2 I2) (fun x3 I3 => 
    some (x3, I3))))

def f_X5_sets (p1 : Int32) (p2 : Int32) (I0 : kgM) : Option (Int32 × kgM) :=
    bndC (f_X5_isKettle p1 I0) (fun x1 I1 => 
    (if x1 = 0 then
    some ((-1011 : Int32), I1)
    else
    bndC (f_X5_isStove p2 I1) (fun x2 I2 => 
    (if x2 = 0 then
    some ((-1011 : Int32), I2)
    else
    bndC (f_X5_kettleOn p2 I2) (fun x3 I3 => 
    bndC (f_X5_kt p1 (1 : Int32) I3) (fun x4 I4 => 
    bndC (f_X5_stoveWith x4 I4) (fun x5 I5 => 
    bndC (f_X5_isOnStove p1 I5) (fun x6 I6 => 
    bndC (f_X5_kt p1 (5 : Int32) I6) (fun x7 I7 => 
    bndC (f_X5_refuses x6 (5 : Int32) (x7 - (1 : Int32)) I7) (fun x8 I8 => 
    (if x8 = 0 then
    (letJ (fun y0j68 =>
    bndC (f_X5_refuses y0j68 (6 : Int32) x3 I8) (fun x10 I10 => 
    (if x10 = 0 then
    (letJ (fun y0j88 =>
    bndC (f_X5_refuses y0j88 (7 : Int32) x5 I10) (fun x12 I12 => 
    (if x12 = 0 then
    bndC (f_X5_kt p1 (6 : Int32) I12) (fun x14 I14 => 
    (letJ (fun y0j114 =>
    bndC (f_X5_kt p1 (6 : Int32) I14) (fun x15 I15 => 
    bndC (f_X5_refuses y0j114 (8 : Int32) x15 I15) (fun x16 I16 => 
    (if x16 = 0 then
    bndC (f_X5_puts p1 (5 : Int32) (p2 + (1 : Int32)) I16) (fun x17 I17 => 
    bndC (f_X5_onStoves I17) (fun x18 I18 => 
    some (x18, I18)))
    else
    bndC (f_X5_causes (4 : Int32) p1 I16) (fun x19 I19 => 
    some ((-1014 : Int32), I19)))))) (fun (j114 : Int32 → Option (Int32 × kgM)) =>
    (if x14 ≤ 0 then
    j114 (0 : Int32)
    else
    j114 (1 : Int32)))))
    else
    bndC (f_X5_causes (4 : Int32) p1 I12) (fun x13 I13 => 
    some ((-1014 : Int32), I13))))) (fun (j88 : Int32 → Option (Int32 × kgM)) =>
    (if x5 < 0 then
    j88 (0 : Int32)
    else
    j88 (1 : Int32))))
    else
    bndC (f_X5_causes (4 : Int32) p1 I10) (fun x11 I11 => 
    some ((-1014 : Int32), I11))))) (fun (j68 : Int32 → Option (Int32 × kgM)) =>
    (if x3 < 0 then
    j68 (0 : Int32)
    else
    j68 (1 : Int32))))
    else
    bndC (f_X5_causes (4 : Int32) p1 I8) (fun x9 I9 => 
    some ((-1014 : Int32), I9)))))))))))))

def f_X5_set (p1 : Int32) (p2 : Int32) (I0 : kgM) : Option (Int32 × kgM) :=
    bndC (f_X5_begins I0) (fun x1 I1 => 
    bndC (f_X5_sets p1 p2 I1) (fun x2 I2 => 
    bndC (f_X5_ends x2 I2) (fun x3 I3 => 
    some (x3, I3))))

def f_X5_takesOff (p1 : Int32) (I0 : kgM) : Option (Int32 × kgM) :=
    bndC (f_X5_isKettle p1 I0) (fun x1 I1 => 
    (if x1 = 0 then
    some ((-1011 : Int32), I1)
    else
    bndC (f_X5_isOnStove p1 I1) (fun x2 I2 => 
    (letJ (fun y0j26 =>
    bndC (f_X5_onStoves I2) (fun x3 I3 => 
    bndC (f_X5_refuses y0j26 (10 : Int32) x3 I3) (fun x4 I4 => 
    (if x4 = 0 then
    bndC (f_X5_kt p1 (5 : Int32) I4) (fun x5 I5 => 
    bnd (x5 - (1 : Int32)) (fun x6 => 
    bndC (f_X5_puts p1 (5 : Int32) (0 : Int32) I5) (fun x7 I6 => 
    some (x6, I6))))
    else
    some ((-1014 : Int32), I4))))) (fun (j26 : Int32 → Option (Int32 × kgM)) =>
    (if x2 = 0 then
    j26 (1 : Int32)
    else
    j26 (0 : Int32)))))))

def f_X5_off (p1 : Int32) (I0 : kgM) : Option (Int32 × kgM) :=
    bndC (f_X5_begins I0) (fun x1 I1 => 
    bndC (f_X5_takesOff p1 I1) (fun x2 I2 => 
    bndC (f_X5_ends x2 I2) (fun x3 I3 => 
    some (x3, I3))))

def f_X5_heats (p1 : Int32) (p2 : Int32) (I0 : kgM) : Option (Int32 × kgM) :=
    bndC (f_X5_isStove p1 I0) (fun x1 I1 => 
    (if x1 = 0 then
    some ((-1011 : Int32), I1)
    else
    bndC (f_X5_in p2 (0 : Int32) (5 : Int32) I1) (fun x2 I2 => 
    (if x2 = 0 then
    some ((-1012 : Int32), I2)
    else
    ck (inb ((29 : Int32) + p1) 1375) (
    bnd (I2 178 ((29 : Int32) + p1).toNatClampNeg) (fun x3 => 
    (letJ (fun y0j45 =>
    bndC (f_X5_refuses y0j45 (9 : Int32) p2 I2) (fun x4 I3 => 
    (if x4 = 0 then
    ck (inb ((29 : Int32) + p1) 1375) (bnd (kgW I3 178 ((29 : Int32) + p1).toNatClampNeg p2) (fun I4 => 
    some (x3, I4)))
    else
    some ((-1014 : Int32), I3)))) (fun (j45 : Int32 → Option (Int32 × kgM)) =>
    (if x3 = p2 then
    j45 (1 : Int32)
    else
    j45 (0 : Int32))))))))))

def f_X5_heat (p1 : Int32) (p2 : Int32) (I0 : kgM) : Option (Int32 × kgM) :=
    bndC (f_X5_begins I0) (fun x1 I1 => 
    bndC (f_X5_heats p1 p2 I1) (fun x2 I2 => 
    bndC (f_X5_ends x2 I2) (fun x3 I3 => 
    some (x3, I3))))

def f_X5_putsLid (p1 : Int32) (p2 : Int32) (I0 : kgM) : Option (Int32 × kgM) :=
    bndC (f_X5_isKettle p1 I0) (fun x1 I1 => 
    (if x1 = 0 then
    some ((-1011 : Int32), I1)
    else
    bndC (f_X5_in p2 (0 : Int32) (1 : Int32) I1) (fun x2 I2 => 
    (if x2 = 0 then
    some ((-1012 : Int32), I2)
    else
    bndC (f_X5_kt p1 (4 : Int32) I2) (fun x3 I3 => 
    (letJ (fun y0j41 =>
    bndC (f_X5_refuses y0j41 (9 : Int32) p2 I3) (fun x4 I4 => 
    (if x4 = 0 then
    (letJ (fun y0j72 Ij72 =>
    ck (inb (0 : Int32) 1375) (
    bndC (f_X5_refuses y0j72 (12 : Int32) ((6 : Int32) - ((Ij72 178 (0 : Int32).toNatClampNeg) - (Ij72 178 (0 : Int32).toNatClampNeg) / (6 : Int32) * (6 : Int32))) Ij72) (fun x5 I5 => 
    (if x5 = 0 then
    bndC (f_X5_puts p1 (4 : Int32) p2 I5) (fun x6 I6 => 
    bndC (f_X5_lidsOn I6) (fun x7 I7 => 
    some (x7, I7)))
    else
    some ((-1014 : Int32), I5))))) (fun (j72 : Int32 → kgM → Option (Int32 × kgM)) =>
    (if p2 = (1 : Int32) then
    bndC (f_X5_kt p1 (7 : Int32) I4) (fun x8 I8 => 
    (if x8 = (1 : Int32) then
    j72 (1 : Int32) I8
    else
    j72 (0 : Int32) I8))
    else
    j72 (0 : Int32) I4)))
    else
    some ((-1014 : Int32), I4)))) (fun (j41 : Int32 → Option (Int32 × kgM)) =>
    (if x3 = p2 then
    j41 (1 : Int32)
    else
    j41 (0 : Int32)))))))))

def f_X5_lid (p1 : Int32) (p2 : Int32) (I0 : kgM) : Option (Int32 × kgM) :=
    bndC (f_X5_begins I0) (fun x1 I1 => 
    bndC (f_X5_putsLid p1 p2 I1) (fun x2 I2 => 
    bndC (f_X5_ends x2 I2) (fun x3 I3 => 
    some (x3, I3))))

def f_X5_bits_L4  (K : Int32 → kgM → Option (Int32 × kgM)) : Nat → Int32 → Int32 → kgM → Option (Int32 × kgM)
  | 0, _, _, _ => none
  | q + 1, x1h4, x2h4, Ih4 =>
    (if x2h4 = 0 then
    K x1h4 Ih4
    else
    bnd (x1h4 + (1 : Int32)) (fun x1 => 
    bnd (x2h4 &&& (x2h4 - (1 : Int32))) (fun x2 => 
    f_X5_bits_L4 K q x1 x2 Ih4)))

def f_X5_bits (p1 : Int32) (I0 : kgM) : Option (Int32 × kgM) :=
    f_X5_bits_L4 (fun x3 I1 =>
    some (x3, I1)) 200 (0 : Int32) p1 I0

def f_X5_appeals (p1 : Int32) (p2 : Int32) (I0 : kgM) : Option (Int32 × kgM) :=
    bndC (f_X5_isMember p1 I0) (fun x1 I1 => 
    (if x1 = 0 then
    some ((-1011 : Int32), I1)
    else
    bndC (f_X5_isKettle p2 I1) (fun x2 I2 => 
    (if x2 = 0 then
    some ((-1011 : Int32), I2)
    else
    bndC (f_X5_kt p2 (8 : Int32) I2) (fun x3 I3 => 
    bndC (f_X5_kt p2 (0 : Int32) I3) (fun x4 I4 => 
    (letJ (fun y0j43 =>
    bndC (f_X5_refuses y0j43 (13 : Int32) p1 I4) (fun x5 I5 => 
    (if x5 = 0 then
    bndC (f_X5_kt p2 (4 : Int32) I5) (fun x6 I6 => 
    (letJ (fun y0j67 =>
    bndC (f_X5_lidsOn I6) (fun x7 I7 => 
    bndC (f_X5_refuses y0j67 (15 : Int32) x7 I7) (fun x8 I8 => 
    (if x8 = 0 then
    (letJ (fun y0j94 =>
    bndC (f_X5_bits x3 I8) (fun x9 I9 => 
    bndC (f_X5_refuses y0j94 (14 : Int32) x9 I9) (fun x10 I10 => 
    (if x10 = 0 then
    ck (inb (((5 : Int32) + ((3 : Int32) * p1)) + (2 : Int32)) 1375) (
    ck (inb (((5 : Int32) + ((3 : Int32) * p1)) + (2 : Int32)) 1375) (bnd (kgW I10 178 (((5 : Int32) + ((3 : Int32) * p1)) + (2 : Int32)).toNatClampNeg ((I10 178 (((5 : Int32) + ((3 : Int32) * p1)) + (2 : Int32)).toNatClampNeg) + (1 : Int32))) (fun I11 => 
    bndC (f_X5_puts p2 (8 : Int32) (x3 ||| ((1 : Int32) <<< (p1 &&& 31))) I11) (fun x11 I12 => 
    bndC (f_X5_bits (x3 ||| ((1 : Int32) <<< (p1 &&& 31))) I12) (fun x12 I13 => 
    (if (2 : Int32) ≤ x12 then
    bndC (f_X5_puts p2 (8 : Int32) (0 : Int32) I13) (fun x13 I14 => 
    bndC (f_X5_puts p2 (4 : Int32) (0 : Int32) I14) (fun x14 I15 => 
    bndC (f_X5_puts p2 (7 : Int32) (1 : Int32) I15) (fun x15 I16 => 
    some ((1 : Int32), I16))))
    else
    some ((0 : Int32), I13)))))))
    else
    some ((-1014 : Int32), I10))))) (fun (j94 : Int32 → Option (Int32 × kgM)) =>
    (if ((x3 >>> (p1 &&& 31)) &&& (1 : Int32)) = (1 : Int32) then
    j94 (1 : Int32)
    else
    j94 (0 : Int32))))
    else
    some ((-1014 : Int32), I8))))) (fun (j67 : Int32 → Option (Int32 × kgM)) =>
    (if x6 = 0 then
    j67 (1 : Int32)
    else
    j67 (0 : Int32)))))
    else
    some ((-1014 : Int32), I5)))) (fun (j43 : Int32 → Option (Int32 × kgM)) =>
    (if x4 = p1 then
    j43 (1 : Int32)
    else
    j43 (0 : Int32))))))))))

def f_X5_appeal (p1 : Int32) (p2 : Int32) (I0 : kgM) : Option (Int32 × kgM) :=
    bndC (f_X5_begins I0) (fun x1 I1 => 
    bndC (f_X5_appeals p1 p2 I1) (fun x2 I2 => 
    bndC (f_X5_ends x2 I2) (fun x3 I3 => 
    some (x3, I3))))

def f_X5_sound (p1 : Int32) (p2 : Int32) (I0 : kgM) : Option (Int32 × kgM) :=
    (letJ (fun y0j14 =>
    bndC (f_X5_in y0j14 (3 : Int32) (5 : Int32) I0) (fun x1 I1 => 
    (if x1 = 0 then
    bndC (f_X5_in y0j14 (7 : Int32) (9 : Int32) I1) (fun x2 I2 => 
    (if x2 = 0 then
    (if y0j14 = 0 then
    some ((0 : Int32), I2)
    else
    some ((-1 : Int32), I2))
    else
    some ((1 : Int32), I2)))
    else
    some ((1 : Int32), I1)))) (fun (j14 : Int32 → Option (Int32 × kgM)) =>
    (if p2 ≤ p1 then
    j14 (p1 - p2)
    else
    j14 (p2 - p1))))

def f_X5_sounds_L14 (a1 : Int32) (K : kgM → Option (Int32 × kgM)) : Nat → Int32 → kgM → Option (Int32 × kgM)
  | 0, _, _ => none
  | q + 1, x2h14, Ih14 =>
    (if a1 ≤ x2h14 then
    K Ih14
    else
    bndC (f_X5_whistles a1 Ih14) (fun x1 I1 => 
    (letJ (fun y0j54 Ij54 =>
    bndC (f_X5_kt a1 (0 : Int32) Ij54) (fun x2 I2 => 
    ck (inb (((5 : Int32) + ((3 : Int32) * x2)) + (0 : Int32)) 1375) (
    ck (inb (((5 : Int32) + ((3 : Int32) * x2)) + (0 : Int32)) 1375) (bnd (kgW I2 178 (((5 : Int32) + ((3 : Int32) * x2)) + (0 : Int32)).toNatClampNeg ((I2 178 (((5 : Int32) + ((3 : Int32) * x2)) + (0 : Int32)).toNatClampNeg) + y0j54)) (fun I3 => 
    bndC (f_X5_kt x2h14 (0 : Int32) I3) (fun x3 I4 => 
    ck (inb (((5 : Int32) + ((3 : Int32) * x3)) + (0 : Int32)) 1375) (
    ck (inb (((5 : Int32) + ((3 : Int32) * x3)) + (0 : Int32)) 1375) (bnd (kgW I4 178 (((5 : Int32) + ((3 : Int32) * x3)) + (0 : Int32)).toNatClampNeg ((I4 178 (((5 : Int32) + ((3 : Int32) * x3)) + (0 : Int32)).toNatClampNeg) + y0j54)) (fun I5 => 
    bnd (x2h14 + (1 : Int32)) (fun x4 => 
    f_X5_sounds_L14 a1 K q x4 I5)))))))))) (fun (j54 : Int32 → kgM → Option (Int32 × kgM)) =>
    (if x1 = 0 then
    j54 (0 : Int32) I1
    else
    bndC (f_X5_whistles x2h14 I1) (fun x5 I6 => 
    (if x5 = 0 then
    j54 (0 : Int32) I6
    else
    bndC (f_X5_kt a1 (1 : Int32) I6) (fun x6 I7 => 
    bndC (f_X5_kt x2h14 (1 : Int32) I7) (fun x7 I8 => 
    bndC (f_X5_sound x6 x7 I8) (fun x8 I9 => 
    j54 x8 I9))))))))))

def f_X5_sounds_L2  (K : kgM → Option (Int32 × kgM)) : Nat → Int32 → kgM → Option (Int32 × kgM)
  | 0, _, _ => none
  | q + 1, x1h2, Ih2 =>
    ck (inb (1 : Int32) 1375) (
    (if (Ih2 178 (1 : Int32).toNatClampNeg) ≤ x1h2 then
    K Ih2
    else
    f_X5_sounds_L14 x1h2 (fun I10 =>
    bnd (x1h2 + (1 : Int32)) (fun x9 => 
    f_X5_sounds_L2 K q x9 I10)) 200 (0 : Int32) Ih2))

def f_X5_sounds_L111  (K : kgM → Option (Int32 × kgM)) : Nat → Int32 → kgM → Option (Int32 × kgM)
  | 0, _, _ => none
  | q + 1, x1h111, Ih111 =>
    ck (inb (1 : Int32) 1375) (
    (if (Ih111 178 (1 : Int32).toNatClampNeg) ≤ x1h111 then
    K Ih111
    else
    bndC (f_X5_puts x1h111 (7 : Int32) (0 : Int32) Ih111) (fun x10 I12 => 
    bnd (x1h111 + (1 : Int32)) (fun x11 => 
    f_X5_sounds_L111 K q x11 I12))))

def f_X5_sounds  (I0 : kgM) : Option (Int32 × kgM) :=
    f_X5_sounds_L2 (fun I11 =>
    f_X5_sounds_L111 (fun I13 =>
    some ((0 : Int32), I13)) 200 (0 : Int32) I11) 200 (0 : Int32) I0

def f_X5_boilsOn (p1 : Int32) (I0 : kgM) : Option (Int32 × kgM) :=
    bndC (f_X5_kt p1 (2 : Int32) I0) (fun x1 I1 => 
    (letJ (fun Ij33 =>
    bndC (f_X5_kt p1 (2 : Int32) Ij33) (fun x2 I2 => 
    (if x2 ≤ 0 then
    bndC (f_X5_puts p1 (5 : Int32) (0 : Int32) I2) (fun x3 I3 => 
    bndC (f_X5_puts p1 (6 : Int32) (7 : Int32) I3) (fun x4 I4 => 
    bndC (f_X5_kt p1 (0 : Int32) I4) (fun x5 I5 => 
    ck (inb (((5 : Int32) + ((3 : Int32) * x5)) + (0 : Int32)) 1375) (
    ck (inb (((5 : Int32) + ((3 : Int32) * x5)) + (0 : Int32)) 1375) (bnd (kgW I5 178 (((5 : Int32) + ((3 : Int32) * x5)) + (0 : Int32)).toNatClampNeg ((I5 178 (((5 : Int32) + ((3 : Int32) * x5)) + (0 : Int32)).toNatClampNeg) - (2 : Int32))) (fun I6 => 
    bndC (f_X5_kt p1 (0 : Int32) I6) (fun x6 I7 => 
    ck (inb (((5 : Int32) + ((3 : Int32) * x6)) + (1 : Int32)) 1375) (
    ck (inb (((5 : Int32) + ((3 : Int32) * x6)) + (1 : Int32)) 1375) (bnd (kgW I7 178 (((5 : Int32) + ((3 : Int32) * x6)) + (1 : Int32)).toNatClampNeg ((I7 178 (((5 : Int32) + ((3 : Int32) * x6)) + (1 : Int32)).toNatClampNeg) + (1 : Int32))) (fun I8 => 
    ck (inb (4 : Int32) 1375) (
    ck (inb (4 : Int32) 1375) (bnd (kgW I8 178 (4 : Int32).toNatClampNeg ((I8 178 (4 : Int32).toNatClampNeg) + (1 : Int32))) (fun I9 => 
    some ((1 : Int32), I9))))))))))))))
    else
    some ((0 : Int32), I2)))) (fun (j33 : kgM → Option (Int32 × kgM)) =>
    (if x1 ≤ 0 then
    j33 I1
    else
    bndC (f_X5_kt p1 (2 : Int32) I1) (fun x7 I10 => 
    bndC (f_X5_puts p1 (2 : Int32) (x7 - (1 : Int32)) I10) (fun x8 I11 => 
    ck (inb (3 : Int32) 1375) (
    ck (inb (3 : Int32) 1375) (bnd (kgW I11 178 (3 : Int32).toNatClampNeg ((I11 178 (3 : Int32).toNatClampNeg) + (1 : Int32))) (fun I12 => 
    j33 I12)))))))))

def f_X5_goesBy_L4  (K : Int32 → kgM → Option (Int32 × kgM)) : Nat → Int32 → Int32 → kgM → Option (Int32 × kgM)
  | 0, _, _, _ => none
  | q + 1, x1h4, x2h4, Ih4 =>
    ck (inb (1 : Int32) 1375) (
    (if (Ih4 178 (1 : Int32).toNatClampNeg) ≤ x2h4 then
    K x1h4 Ih4
    else
    bndC (f_X5_boils x2h4 Ih4) (fun x1 I1 => 
    (if x1 = 0 then
    bnd (x1h4 + (0 : Int32)) (fun x2 => 
    bnd (x2h4 + (1 : Int32)) (fun x3 => 
    f_X5_goesBy_L4 K q x2 x3 I1))
    else
    bndC (f_X5_boilsOn x2h4 I1) (fun x4 I2 => 
    (if x4 = 0 then
    bnd (x1h4 + (0 : Int32)) (fun x5 => 
    bnd (x2h4 + (1 : Int32)) (fun x6 => 
    f_X5_goesBy_L4 K q x5 x6 I2))
    else
    bnd (x1h4 + (1 : Int32)) (fun x7 => 
    bnd (x2h4 + (1 : Int32)) (fun x8 => 
    f_X5_goesBy_L4 K q x7 x8 I2))))))))

def f_X5_goesBy_L46 (a1 : Int32) (K : kgM → Option (Int32 × kgM)) : Nat → Int32 → kgM → Option (Int32 × kgM)
  | 0, _, _ => none
  | q + 1, x2h46, Ih46 =>
    ck (inb (1 : Int32) 1375) (
    (if (Ih46 178 (1 : Int32).toNatClampNeg) ≤ x2h46 then
    K Ih46
    else
    bndC (f_X5_kt x2h46 (3 : Int32) Ih46) (fun x10 I4 => 
    bndC (f_X5_isOnStove x2h46 I4) (fun x11 I5 => 
    (letJ (fun y0j82 Ij82 =>
    bnd (x10 + y0j82) (fun x12 => 
    (letJ (fun y0j110 =>
    bndC (f_X5_puts x2h46 (3 : Int32) y0j110 Ij82) (fun x13 I6 => 
    bndC (f_X5_kt x2h46 (6 : Int32) I6) (fun x14 I7 => 
    (if x14 ≤ 0 then
    bndC (f_X5_puts x2h46 (6 : Int32) (0 : Int32) I7) (fun x15 I8 => 
    bnd (x2h46 + (1 : Int32)) (fun x16 => 
    f_X5_goesBy_L46 a1 K q x16 I8))
    else
    bndC (f_X5_kt x2h46 (6 : Int32) I7) (fun x17 I9 => 
    bndC (f_X5_puts x2h46 (6 : Int32) (x17 - (1 : Int32)) I9) (fun x18 I10 => 
    bnd (x2h46 + (1 : Int32)) (fun x19 => 
    f_X5_goesBy_L46 a1 K q x19 I10))))))) (fun (j110 : Int32 → Option (Int32 × kgM)) =>
    (if x12 ≤ (100 : Int32) then
    (if (20 : Int32) ≤ x12 then
    j110 x12
    else
    j110 (20 : Int32))
    else
    j110 (100 : Int32)))))) (fun (j82 : Int32 → kgM → Option (Int32 × kgM)) =>
    (if x11 = 0 then
    j82 (-5 : Int32) I5
    else
    bndC (f_X5_heatUnder x2h46 I5) (fun x20 I11 => 
    j82 ((5 : Int32) * x20) I11))))))))

def f_X5_goesBy  (I0 : kgM) : Option (Int32 × kgM) :=
    f_X5_goesBy_L4 (fun x9 I3 =>
    f_X5_goesBy_L46 x9 (fun I12 =>
    ck (inb (0 : Int32) 1375) (
    ck (inb (0 : Int32) 1375) (bnd (kgW I12 178 (0 : Int32).toNatClampNeg ((I12 178 (0 : Int32).toNatClampNeg) + (1 : Int32))) (fun I13 => 
    ck (inb (0 : Int32) 1375) (
    (if ((I13 178 (0 : Int32).toNatClampNeg) - (I13 178 (0 : Int32).toNatClampNeg) / (6 : Int32) * (6 : Int32)) = 0 then
    bndC (f_X5_sounds I13) (fun x21 I14 => 
    some (x9, I14))
    else
    some (x9, I13))))))) 200 (0 : Int32) I3) 200 (0 : Int32) (0 : Int32) I0

def f_X5_passes_L18 (a1 : Int32) (K : Int32 → kgM → Option (Int32 × kgM)) : Nat → Int32 → Int32 → kgM → Option (Int32 × kgM)
  | 0, _, _, _ => none
  | q + 1, x2h18, x3h18, Ih18 =>
    (if a1 ≤ x3h18 then
    K x2h18 Ih18
    else
    bndC (f_X5_goesBy Ih18) (fun x2 I2 => 
    bnd (x2h18 + x2) (fun x3 => 
    bnd (x3h18 + (1 : Int32)) (fun x4 => 
    f_X5_passes_L18 a1 K q x3 x4 I2))))

def f_X5_passes (p1 : Int32) (I0 : kgM) : Option (Int32 × kgM) :=
    bndC (f_X5_in p1 (1 : Int32) (9 : Int32) I0) (fun x1 I1 => 
    (if x1 = 0 then
    some ((-1012 : Int32), I1)
    else
    f_X5_passes_L18 p1 (fun x5 I3 =>
    some (x5, I3)) 200 (0 : Int32) (0 : Int32) I1))

def f_X5_minute (p1 : Int32) (I0 : kgM) : Option (Int32 × kgM) :=
    bndC (f_X5_begins I0) (fun x1 I1 => 
    bndC (f_X5_passes p1 I1) (fun x2 I2 => 
    bndC (f_X5_ends x2 I2) (fun x3 I3 => 
    some (x3, I3))))

def f_X5_owner (p1 : Int32) (I0 : kgM) : Option (Int32 × kgM) :=
    bndC (f_X5_isPitch p1 I0) (fun x1 I1 => 
    (if x1 = 0 then
    some ((-1012 : Int32), I1)
    else
    bndC (f_X5_ownerOf p1 I1) (fun x2 I2 => 
    (if 0 ≤ x2 then
    bndC (f_X5_ownerOf p1 I2) (fun x3 I3 => 
    some (x3, I3))
    else
    some ((-1015 : Int32), I2)))))

def f_X5_kettleOf (p1 : Int32) (p2 : Int32) (I0 : kgM) : Option (Int32 × kgM) :=
    bndC (f_X5_isKettle p1 I0) (fun x1 I1 => 
    (if x1 = 0 then
    some ((-1011 : Int32), I1)
    else
    (if p2.toInt = 0 then
    bndC (f_X5_kt p1 p2 I1) (fun x2 I2 => 
    some (x2, I2))
    else
    (if p2.toInt = 1 then
    bndC (f_X5_kt p1 p2 I1) (fun x3 I3 => 
    some (x3, I3))
    else
    (if p2.toInt = 2 then
    bndC (f_X5_kt p1 p2 I1) (fun x4 I4 => 
    some (x4, I4))
    else
    (if p2.toInt = 3 then
    bndC (f_X5_kt p1 p2 I1) (fun x5 I5 => 
    some (x5, I5))
    else
    (if p2.toInt = 4 then
    bndC (f_X5_kt p1 p2 I1) (fun x6 I6 => 
    some (x6, I6))
    else
    (if p2.toInt = 5 then
    bndC (f_X5_isOnStove p1 I1) (fun x7 I7 => 
    (if x7 = 0 then
    some ((-1015 : Int32), I7)
    else
    bndC (f_X5_kt p1 (5 : Int32) I7) (fun x8 I8 => 
    some (x8 - (1 : Int32), I8))))
    else
    (if p2.toInt = 6 then
    bndC (f_X5_boils p1 I1) (fun x9 I9 => 
    (if x9 = 0 then
    some ((0 : Int32), I9)
    else
    some ((1 : Int32), I9)))
    else
    (if p2.toInt = 7 then
    bndC (f_X5_whistles p1 I1) (fun x10 I10 => 
    (if x10 = 0 then
    some ((0 : Int32), I10)
    else
    some ((1 : Int32), I10)))
    else
    (if p2.toInt = 8 then
    bndC (f_X5_kt p1 (6 : Int32) I1) (fun x11 I11 => 
    some (x11, I11))
    else
    (if p2.toInt = 9 then
    bndC (f_X5_kt p1 (8 : Int32) I1) (fun x12 I12 => 
    bndC (f_X5_bits x12 I12) (fun x13 I13 => 
    some (x13, I13)))
    else
    some ((-1012 : Int32), I1)))))))))))))

def f_X5_stoveOf (p1 : Int32) (p2 : Int32) (I0 : kgM) : Option (Int32 × kgM) :=
    bndC (f_X5_isStove p1 I0) (fun x1 I1 => 
    (if x1 = 0 then
    some ((-1011 : Int32), I1)
    else
    (if p2 = 0 then
    bndC (f_X5_kettleOn p1 I1) (fun x2 I2 => 
    (if 0 ≤ x2 then
    bndC (f_X5_kettleOn p1 I2) (fun x3 I3 => 
    some (x3, I3))
    else
    some ((-1015 : Int32), I2)))
    else
    ck (inb ((29 : Int32) + p1) 1375) (
    some (I1 178 ((29 : Int32) + p1).toNatClampNeg, I1)))))

def f_X5_whistling_L4  (K : Int32 → kgM → Option (Int32 × kgM)) : Nat → Int32 → Int32 → kgM → Option (Int32 × kgM)
  | 0, _, _, _ => none
  | q + 1, x1h4, x2h4, Ih4 =>
    ck (inb (1 : Int32) 1375) (
    (if (Ih4 178 (1 : Int32).toNatClampNeg) ≤ x2h4 then
    K x1h4 Ih4
    else
    bndC (f_X5_whistles x2h4 Ih4) (fun x1 I1 => 
    (if x1 = 0 then
    bnd (x1h4 ||| (0 : Int32)) (fun x2 => 
    bnd (x2h4 + (1 : Int32)) (fun x3 => 
    f_X5_whistling_L4 K q x2 x3 I1))
    else
    bnd (x1h4 ||| ((1 : Int32) <<< (x2h4 &&& 31))) (fun x4 => 
    bnd (x2h4 + (1 : Int32)) (fun x5 => 
    f_X5_whistling_L4 K q x4 x5 I1))))))

def f_X5_whistling  (I0 : kgM) : Option (Int32 × kgM) :=
    f_X5_whistling_L4 (fun x6 I2 =>
    some (x6, I2)) 200 (0 : Int32) (0 : Int32) I0

def f_X5_harmony_L16 (a2 : Int32) (K : Int32 → kgM → Option (Int32 × kgM)) : Nat → Int32 → Int32 → kgM → Option (Int32 × kgM)
  | 0, _, _, _ => none
  | q + 1, x1h16, x3h16, Ih16 =>
    (if a2 ≤ x3h16 then
    K x1h16 Ih16
    else
    bndC (f_X5_whistles a2 Ih16) (fun x1 I1 => 
    (if x1 = 0 then
    bnd (x1h16 + (0 : Int32)) (fun x2 => 
    bnd (x3h16 + (1 : Int32)) (fun x3 => 
    f_X5_harmony_L16 a2 K q x2 x3 I1))
    else
    bndC (f_X5_whistles x3h16 I1) (fun x4 I2 => 
    (if x4 = 0 then
    bnd (x1h16 + (0 : Int32)) (fun x5 => 
    bnd (x3h16 + (1 : Int32)) (fun x6 => 
    f_X5_harmony_L16 a2 K q x5 x6 I2))
    else
    bndC (f_X5_kt a2 (1 : Int32) I2) (fun x7 I3 => 
    bndC (f_X5_kt x3h16 (1 : Int32) I3) (fun x8 I4 => 
    bndC (f_X5_sound x7 x8 I4) (fun x9 I5 => 
    bnd (x1h16 + x9) (fun x10 => 
    bnd (x3h16 + (1 : Int32)) (fun x11 => 
    f_X5_harmony_L16 a2 K q x10 x11 I5))))))))))

def f_X5_harmony_L4  (K : Int32 → kgM → Option (Int32 × kgM)) : Nat → Int32 → Int32 → kgM → Option (Int32 × kgM)
  | 0, _, _, _ => none
  | q + 1, x1h4, x2h4, Ih4 =>
    ck (inb (1 : Int32) 1375) (
    (if (Ih4 178 (1 : Int32).toNatClampNeg) ≤ x2h4 then
    K x1h4 Ih4
    else
    f_X5_harmony_L16 x2h4 (fun x12 I6 =>
    bnd (x2h4 + (1 : Int32)) (fun x13 => 
    f_X5_harmony_L4 K q x12 x13 I6)) 200 x1h4 (0 : Int32) Ih4))

def f_X5_harmony  (I0 : kgM) : Option (Int32 × kgM) :=
    f_X5_harmony_L4 (fun x14 I7 =>
    some (x14, I7)) 200 (0 : Int32) (0 : Int32) I0

def f_X5_harmonyAgain  (I0 : kgM) : Option (Int32 × kgM) :=
    bndC (f_X5_harmony I0) (fun x1 I1 => 
    some (x1, I1))

def f_X5_minutesTo (p1 : Int32) (I0 : kgM) : Option (Int32 × kgM) :=
    bndC (f_X5_heatUnder p1 I0) (fun x1 I1 => 
    bnd ((5 : Int32) * x1) (fun x2 => 
    (if x2 = 0 then
    some ((-1015 : Int32), I1)
    else
    bndC (f_X5_kt p1 (3 : Int32) I1) (fun x3 I2 => 
    ck (decide (¬ x2 = 0)) (
    some (((((100 : Int32) - x3) + x2) - (1 : Int32)) / x2, I2))))))

def f_X5_boilsIn (p1 : Int32) (I0 : kgM) : Option (Int32 × kgM) :=
    bndC (f_X5_isKettle p1 I0) (fun x1 I1 => 
    (if x1 = 0 then
    some ((-1011 : Int32), I1)
    else
    bndC (f_X5_minutesTo p1 I1) (fun x2 I2 => 
    some (x2, I2))))

def f_X5_boilsInAgain (p1 : Int32) (I0 : kgM) : Option (Int32 × kgM) :=
    bndC (f_X5_boilsIn p1 I0) (fun x1 I1 => 
    some (x1, I1))

def f_X5_dryIn (p1 : Int32) (I0 : kgM) : Option (Int32 × kgM) :=
    bndC (f_X5_isKettle p1 I0) (fun x1 I1 => 
    (if x1 = 0 then
    some ((-1011 : Int32), I1)
    else
    bndC (f_X5_kt p1 (2 : Int32) I1) (fun x2 I2 => 
    bndC (f_X5_minutesTo p1 I2) (fun x3 I3 => 
    (if x3 = (-1015 : Int32) then
    some ((-1015 : Int32), I3)
    else
    bndC (f_X5_minutesTo p1 I3) (fun x4 I4 => 
    (if x2 = 0 then
    some (x4 + (1 : Int32), I4)
    else
    some (x4 + x2, I4))))))))

def f_X5_fits_L4 (a1 : Int32) (K : Int32 → kgM → Option (Int32 × kgM)) : Nat → Int32 → Int32 → kgM → Option (Int32 × kgM)
  | 0, _, _, _ => none
  | q + 1, x2h4, x3h4, Ih4 =>
    ck (inb (1 : Int32) 1375) (
    (if (Ih4 178 (1 : Int32).toNatClampNeg) ≤ x3h4 then
    K x2h4 Ih4
    else
    bndC (f_X5_whistles x3h4 Ih4) (fun x1 I1 => 
    (if x1 = 0 then
    bnd (x2h4 + (0 : Int32)) (fun x9 => 
    bnd (x3h4 + (1 : Int32)) (fun x10 => 
    f_X5_fits_L4 a1 K q x9 x10 I1))
    else
    bndC (f_X5_kt x3h4 (1 : Int32) I1) (fun x2 I2 => 
    (if x2 = a1 then
    bnd (x2h4 + (-100 : Int32)) (fun x7 => 
    bnd (x3h4 + (1 : Int32)) (fun x8 => 
    f_X5_fits_L4 a1 K q x7 x8 I2))
    else
    bndC (f_X5_kt x3h4 (1 : Int32) I2) (fun x3 I3 => 
    bndC (f_X5_sound a1 x3 I3) (fun x4 I4 => 
    bnd (x2h4 + x4) (fun x5 => 
    bnd (x3h4 + (1 : Int32)) (fun x6 => 
    f_X5_fits_L4 a1 K q x5 x6 I4))))))))))

def f_X5_fits (p1 : Int32) (I0 : kgM) : Option (Int32 × kgM) :=
    f_X5_fits_L4 p1 (fun x11 I5 =>
    some (x11, I5)) 200 (0 : Int32) (0 : Int32) I0

def f_X5_bestPitch_L4  (K : Int32 → kgM → Option (Int32 × kgM)) : Nat → Int32 → Int32 → kgM → Option (Int32 × kgM)
  | 0, _, _, _ => none
  | q + 1, x1h4, x2h4, Ih4 =>
    (if (13 : Int32) ≤ x2h4 then
    K x1h4 Ih4
    else
    bndC (f_X5_fits x2h4 Ih4) (fun x1 I1 => 
    bndC (f_X5_fits x1h4 I1) (fun x2 I2 => 
    (if x1 ≤ x2 then
    bnd (x2h4 + (1 : Int32)) (fun x3 => 
    f_X5_bestPitch_L4 K q x1h4 x3 I2)
    else
    bnd (x2h4 + (1 : Int32)) (fun x4 => 
    f_X5_bestPitch_L4 K q x2h4 x4 I2)))))

def f_X5_bestPitch  (I0 : kgM) : Option (Int32 × kgM) :=
    f_X5_bestPitch_L4 (fun x5 I3 =>
    some (x5, I3)) 200 (1 : Int32) (2 : Int32) I0

def f_X5_kettlesOf_L5 (a1 : Int32) (a2 : Int32) (K : Int32 → kgM → Option (Int32 × kgM)) : Nat → Int32 → Int32 → kgM → Option (Int32 × kgM)
  | 0, _, _, _ => none
  | q + 1, x3h5, x4h5, Ih5 =>
    ck (inb (1 : Int32) 1375) (
    (if (Ih5 178 (1 : Int32).toNatClampNeg) ≤ x4h5 then
    K x3h5 Ih5
    else
    bndC (f_X5_kt x4h5 (0 : Int32) Ih5) (fun x1 I1 => 
    (if x1 = a1 then
    (if a2 = 0 then
    bnd (x3h5 + (1 : Int32)) (fun x4 => 
    bnd (x4h5 + (1 : Int32)) (fun x5 => 
    f_X5_kettlesOf_L5 a1 a2 K q x4 x5 I1))
    else
    bndC (f_X5_whistles x4h5 I1) (fun x6 I2 => 
    (if x6 = 0 then
    bnd (x3h5 + (0 : Int32)) (fun x7 => 
    bnd (x4h5 + (1 : Int32)) (fun x8 => 
    f_X5_kettlesOf_L5 a1 a2 K q x7 x8 I2))
    else
    bnd (x3h5 + (1 : Int32)) (fun x9 => 
    bnd (x4h5 + (1 : Int32)) (fun x10 => 
    f_X5_kettlesOf_L5 a1 a2 K q x9 x10 I2)))))
    else
    bnd (x3h5 + (0 : Int32)) (fun x2 => 
    bnd (x4h5 + (1 : Int32)) (fun x3 => 
    f_X5_kettlesOf_L5 a1 a2 K q x2 x3 I1))))))

def f_X5_kettlesOf (p1 : Int32) (p2 : Int32) (I0 : kgM) : Option (Int32 × kgM) :=
    f_X5_kettlesOf_L5 p1 p2 (fun x11 I3 =>
    some (x11, I3)) 200 (0 : Int32) (0 : Int32) I0

def f_X5_memberOf (p1 : Int32) (p2 : Int32) (I0 : kgM) : Option (Int32 × kgM) :=
    bndC (f_X5_isMember p1 I0) (fun x1 I1 => 
    (if x1 = 0 then
    some ((-1011 : Int32), I1)
    else
    (if p2.toInt = 0 then
    bndC (f_X5_m p1 (0 : Int32) I1) (fun x2 I2 => 
    some (x2, I2))
    else
    (if p2.toInt = 1 then
    bndC (f_X5_pitchesOf p1 I1) (fun x3 I3 => 
    some (x3, I3))
    else
    (if p2.toInt = 2 then
    bndC (f_X5_kettlesOf p1 (0 : Int32) I1) (fun x4 I4 => 
    some (x4, I4))
    else
    (if p2.toInt = 3 then
    bndC (f_X5_kettlesOf p1 (1 : Int32) I1) (fun x5 I5 => 
    some (x5, I5))
    else
    (if p2.toInt = 4 then
    bndC (f_X5_m p1 (1 : Int32) I1) (fun x6 I6 => 
    some (x6, I6))
    else
    (if p2.toInt = 5 then
    bndC (f_X5_m p1 (2 : Int32) I1) (fun x7 I7 => 
    some (x7, I7))
    else
    some ((-1012 : Int32), I1)))))))))

def f_X5_ranked_L12 (a1 : Int32) (a2 : Int32) (K : Int32 → kgM → Option (Int32 × kgM)) : Nat → Int32 → Int32 → kgM → Option (Int32 × kgM)
  | 0, _, _, _ => none
  | q + 1, x3h12, x4h12, Ih12 =>
    (if (4 : Int32) ≤ x4h12 then
    K x3h12 Ih12
    else
    bndC (f_X5_m x4h12 (0 : Int32) Ih12) (fun x1 I1 => 
    bndC (f_X5_m a2 (0 : Int32) I1) (fun x2 I2 => 
    bnd (x1 - x2) (fun x3 => 
    bndC (f_X5_pitchesOf x4h12 I2) (fun x4 I3 => 
    bndC (f_X5_pitchesOf a2 I3) (fun x5 I4 => 
    bnd (x4 - x5) (fun x6 => 
    (if 0 < x3 then
    bnd (x3h12 + (1 : Int32)) (fun x7 => 
    bnd (x4h12 + (1 : Int32)) (fun x8 => 
    f_X5_ranked_L12 a1 a2 K q x7 x8 I4))
    else
    (if x3 = 0 then
    (if 0 < x6 then
    bnd (x3h12 + (1 : Int32)) (fun x11 => 
    bnd (x4h12 + (1 : Int32)) (fun x12 => 
    f_X5_ranked_L12 a1 a2 K q x11 x12 I4))
    else
    (if x6 = 0 then
    (if a2 ≤ x4h12 then
    bnd (x3h12 + (0 : Int32)) (fun x15 => 
    bnd (x4h12 + (1 : Int32)) (fun x16 => 
    f_X5_ranked_L12 a1 a2 K q x15 x16 I4))
    else
    bnd (x3h12 + (1 : Int32)) (fun x17 => 
    bnd (x4h12 + (1 : Int32)) (fun x18 => 
    f_X5_ranked_L12 a1 a2 K q x17 x18 I4)))
    else
    bnd (x3h12 + (0 : Int32)) (fun x13 => 
    bnd (x4h12 + (1 : Int32)) (fun x14 => 
    f_X5_ranked_L12 a1 a2 K q x13 x14 I4))))
    else
    bnd (x3h12 + (0 : Int32)) (fun x9 => 
    bnd (x4h12 + (1 : Int32)) (fun x10 => 
    f_X5_ranked_L12 a1 a2 K q x9 x10 I4)))))))))))

def f_X5_ranked_L2 (a1 : Int32) (K : kgM → Option (Int32 × kgM)) : Nat → Int32 → kgM → Option (Int32 × kgM)
  | 0, _, _ => none
  | q + 1, x2h2, Ih2 =>
    (if (4 : Int32) ≤ x2h2 then
    K Ih2
    else
    f_X5_ranked_L12 a1 x2h2 (fun x19 I5 =>
    (if x19 = a1 then
    some (x2h2, I5)
    else
    bnd (x2h2 + (1 : Int32)) (fun x20 => 
    f_X5_ranked_L2 a1 K q x20 I5))) 200 (0 : Int32) (0 : Int32) Ih2)

def f_X5_ranked (p1 : Int32) (I0 : kgM) : Option (Int32 × kgM) :=
    f_X5_ranked_L2 p1 (fun I6 =>
    some ((-1011 : Int32), I6)) 200 (0 : Int32) I0

def f_X5_hottest_L17 (a1 : Int32) (a2 : Int32) (K : Int32 → kgM → Option (Int32 × kgM)) : Nat → Int32 → Int32 → kgM → Option (Int32 × kgM)
  | 0, _, _, _ => none
  | q + 1, x3h17, x4h17, Ih17 =>
    ck (inb (1 : Int32) 1375) (
    (if (Ih17 178 (1 : Int32).toNatClampNeg) ≤ x4h17 then
    K x3h17 Ih17
    else
    bndC (f_X5_kt x4h17 (3 : Int32) Ih17) (fun x1 I1 => 
    bndC (f_X5_kt a2 (3 : Int32) I1) (fun x2 I2 => 
    bnd (x1 - x2) (fun x3 => 
    bndC (f_X5_kt a2 (2 : Int32) I2) (fun x4 I3 => 
    bndC (f_X5_kt x4h17 (2 : Int32) I3) (fun x5 I4 => 
    bnd (x4 - x5) (fun x6 => 
    (if 0 < x3 then
    bnd (x3h17 + (1 : Int32)) (fun x7 => 
    bnd (x4h17 + (1 : Int32)) (fun x8 => 
    f_X5_hottest_L17 a1 a2 K q x7 x8 I4))
    else
    (if x3 = 0 then
    (if 0 < x6 then
    bnd (x3h17 + (1 : Int32)) (fun x11 => 
    bnd (x4h17 + (1 : Int32)) (fun x12 => 
    f_X5_hottest_L17 a1 a2 K q x11 x12 I4))
    else
    (if x6 = 0 then
    (if a2 ≤ x4h17 then
    bnd (x3h17 + (0 : Int32)) (fun x15 => 
    bnd (x4h17 + (1 : Int32)) (fun x16 => 
    f_X5_hottest_L17 a1 a2 K q x15 x16 I4))
    else
    bnd (x3h17 + (1 : Int32)) (fun x17 => 
    bnd (x4h17 + (1 : Int32)) (fun x18 => 
    f_X5_hottest_L17 a1 a2 K q x17 x18 I4)))
    else
    bnd (x3h17 + (0 : Int32)) (fun x13 => 
    bnd (x4h17 + (1 : Int32)) (fun x14 => 
    f_X5_hottest_L17 a1 a2 K q x13 x14 I4))))
    else
    bnd (x3h17 + (0 : Int32)) (fun x9 => 
    bnd (x4h17 + (1 : Int32)) (fun x10 => 
    f_X5_hottest_L17 a1 a2 K q x9 x10 I4))))))))))))

def f_X5_hottest_L2 (a1 : Int32) (K : kgM → Option (Int32 × kgM)) : Nat → Int32 → kgM → Option (Int32 × kgM)
  | 0, _, _ => none
  | q + 1, x2h2, Ih2 =>
    ck (inb (1 : Int32) 1375) (
    (if (Ih2 178 (1 : Int32).toNatClampNeg) ≤ x2h2 then
    K Ih2
    else
    f_X5_hottest_L17 a1 x2h2 (fun x19 I5 =>
    (if x19 = a1 then
    some (x2h2, I5)
    else
    bnd (x2h2 + (1 : Int32)) (fun x20 => 
    f_X5_hottest_L2 a1 K q x20 I5))) 200 (0 : Int32) (0 : Int32) Ih2))

def f_X5_hottest (p1 : Int32) (I0 : kgM) : Option (Int32 × kgM) :=
    f_X5_hottest_L2 p1 (fun I6 =>
    some ((-1011 : Int32), I6)) 200 (0 : Int32) I0

def f_X5_append (p1 : Int32) (I0 : kgM) : Option (Int32 × kgM) :=
    bndC (f_X5_in p1 (32 : Int32) (126 : Int32) I0) (fun x1 I1 => 
    (if x1 = 0 then
    some ((-1012 : Int32), I1)
    else
    (if (I1 177 7) = (60 : Int32) then
    some ((-1013 : Int32), I1)
    else
    ck (inb (I1 177 7) 60) (bnd (kgW I1 181 (I1 177 7).toNatClampNeg (vp_nar .char ((p1.toUInt32 % 65536).toInt32))) (fun I2 => 
    bnd (kgW I2 177 7 ((I2 177 7) + (1 : Int32))) (fun I3 => 
    some (I3 177 7, I3)))))))

def f_X5_sign  (I0 : kgM) : Option (Int32 × kgM) :=
    (if (I0 177 7) ≤ (I0 177 8) then
    some ((-1 : Int32), I0)
    else
    ck (inb (I0 177 8) 60) (
    some (I0 181 (I0 177 8).toNatClampNeg, I0)))

def f_X5_needs (p1 : Int32) (I0 : kgM) : Option (Int32 × kgM) :=
    (if (I0 177 9) < 0 then
    bndC (f_X5_sign I0) (fun x1 I1 => 
    (if x1 = p1 then
    bnd (kgW I1 177 8 ((I1 177 8) + (1 : Int32))) (fun I2 => 
    some ((0 : Int32), I2))
    else
    bnd (kgW I1 177 9 (I1 177 8)) (fun I3 => 
    some ((0 : Int32), I3))))
    else
    some ((0 : Int32), I0))

def f_X5_signs (p1 : Int32) (p2 : Int32) (p3 : Int32) (I0 : kgM) : Option (Int32 × kgM) :=
    bndC (f_X5_needs p1 I0) (fun x1 I1 => 
    bndC (f_X5_needs p2 I1) (fun x2 I2 => 
    (if p3 = 0 then
    some ((0 : Int32), I2)
    else
    bndC (f_X5_needs p3 I2) (fun x3 I3 => 
    some ((0 : Int32), I3)))))

def f_X5_number_L43 (a1 : Int32) (K : Int32 → kgM → Option (Int32 × kgM)) : Nat → Int32 → Int32 → kgM → Option (Int32 × kgM)
  | 0, _, _, _ => none
  | q + 1, x2h43, x3h43, Ih43 =>
    (if a1 ≤ x3h43 then
    K x2h43 Ih43
    else
    bndC (f_X5_sign Ih43) (fun x4 I4 => 
    bndC (f_X5_in x4 (48 : Int32) (57 : Int32) I4) (fun x5 I5 => 
    (if x5 = 0 then
    K x2h43 I5
    else
    bndC (f_X5_sign I5) (fun x6 I6 => 
    bnd ((((10 : Int32) * x2h43) + x6) - (48 : Int32)) (fun x7 => 
    bnd (kgW I6 177 8 ((I6 177 8) + (1 : Int32))) (fun I7 => 
    bnd (x3h43 + (1 : Int32)) (fun x8 => 
    f_X5_number_L43 a1 K q x7 x8 I7))))))))

def f_X5_number (p1 : Int32) (I0 : kgM) : Option (Int32 × kgM) :=
    bndC (f_X5_needs (32 : Int32) I0) (fun x1 I1 => 
    (if (I1 177 9) < 0 then
    bndC (f_X5_sign I1) (fun x2 I2 => 
    bndC (f_X5_in x2 (48 : Int32) (57 : Int32) I2) (fun x3 I3 => 
    (if x3 = 0 then
    bnd (kgW I3 177 9 (I3 177 8)) (fun I9 => 
    some ((0 : Int32), I9))
    else
    f_X5_number_L43 p1 (fun x9 I8 =>
    some (x9, I8)) 200 (0 : Int32) (0 : Int32) I3)))
    else
    some ((0 : Int32), I1)))

def f_X5_plusOrMinus  (I0 : kgM) : Option (Int32 × kgM) :=
    (if (I0 177 9) < 0 then
    bndC (f_X5_sign I0) (fun x1 I1 => 
    (letJ (
    bnd (kgW I1 177 8 ((I1 177 8) + (1 : Int32))) (fun I2 => 
    (if x1 = (43 : Int32) then
    some ((1 : Int32), I2)
    else
    some ((0 : Int32), I2)))) (fun (j36 : Option (Int32 × kgM)) =>
    (if x1 = (43 : Int32) then
    j36
    else
    (if x1 = (45 : Int32) then
    j36
    else
    bnd (kgW I1 177 9 (I1 177 8)) (fun I3 => 
    some ((0 : Int32), I3)))))))
    else
    some ((0 : Int32), I0))

def f_X5_word (p1 : Int32) (I0 : kgM) : Option (Int32 × kgM) :=
    bndC (f_X5_sign I0) (fun x1 I1 => 
    (if p1.toInt = 97 then
    bndC (f_X5_signs (112 : Int32) (112 : Int32) (101 : Int32) I1) (fun x2 I2 => 
    bndC (f_X5_signs (97 : Int32) (108 : Int32) (0 : Int32) I2) (fun x3 I3 => 
    some ((97 : Int32), I3)))
    else
    (if p1.toInt = 102 then
    bndC (f_X5_signs (105 : Int32) (108 : Int32) (108 : Int32) I1) (fun x4 I4 => 
    some ((102 : Int32), I4))
    else
    (if p1.toInt = 104 then
    bndC (f_X5_signs (101 : Int32) (97 : Int32) (116 : Int32) I1) (fun x5 I5 => 
    some ((104 : Int32), I5))
    else
    (if p1.toInt = 107 then
    bndC (f_X5_signs (101 : Int32) (116 : Int32) (116 : Int32) I1) (fun x6 I6 => 
    bndC (f_X5_signs (108 : Int32) (101 : Int32) (0 : Int32) I6) (fun x7 I7 => 
    some ((107 : Int32), I7)))
    else
    (if p1.toInt = 108 then
    bndC (f_X5_signs (105 : Int32) (100 : Int32) (0 : Int32) I1) (fun x8 I8 => 
    some ((108 : Int32), I8))
    else
    (if p1.toInt = 109 then
    bndC (f_X5_signs (105 : Int32) (110 : Int32) (117 : Int32) I1) (fun x9 I9 => 
    bndC (f_X5_signs (116 : Int32) (101 : Int32) (0 : Int32) I9) (fun x10 I10 => 
    some ((109 : Int32), I10)))
    else
    (if p1.toInt = 115 then
    bndC (f_X5_signs (101 : Int32) (116 : Int32) (0 : Int32) I1) (fun x11 I11 => 
    some ((115 : Int32), I11))
    else
    (if x1 = (102 : Int32) then
    bndC (f_X5_signs (102 : Int32) (102 : Int32) (0 : Int32) I1) (fun x13 I13 => 
    some ((116 : Int32), I13))
    else
    bndC (f_X5_signs (119 : Int32) (110 : Int32) (0 : Int32) I1) (fun x12 I12 => 
    some ((110 : Int32), I12)))))))))))

def f_X5_order_L24 (a1 : Int32) (a2 : Int32) (K : kgM → Option (Int32 × kgM)) : Nat → Int32 → kgM → Option (Int32 × kgM)
  | 0, _, _ => none
  | q + 1, x3h24, Ih24 =>
    (if (4 : Int32) ≤ x3h24 then
    K Ih24
    else
    ck (inb (a1 + x3h24) 244) (bnd (kgW Ih24 182 (a1 + x3h24).toNatClampNeg (0 : Int32)) (fun I3 => 
    bnd (x3h24 + (1 : Int32)) (fun x3 => 
    f_X5_order_L24 a1 a2 K q x3 I3))))

def f_X5_order  (I0 : kgM) : Option (Int32 × kgM) :=
    bnd ((4 : Int32) * (I0 177 11)) (fun x1 => 
    bnd (kgW I0 177 11 ((I0 177 11) + (1 : Int32))) (fun I1 => 
    bndC (f_X5_sign I1) (fun x2 I2 => 
    f_X5_order_L24 x1 x2 (fun I4 =>
    (letJ (
    bnd (kgW I4 177 8 ((I4 177 8) + (1 : Int32))) (fun I5 => 
    bndC (f_X5_word x2 I5) (fun x4 I6 => 
    ck (inb x1 244) (bnd (kgW I6 182 x1.toNatClampNeg x4) (fun I7 => 
    bndC (f_X5_number (1 : Int32) I7) (fun x5 I8 => 
    ck (inb (x1 + (1 : Int32)) 244) (bnd (kgW I8 182 (x1 + (1 : Int32)).toNatClampNeg x5) (fun I9 => 
    (if x4 = (116 : Int32) then
    some ((0 : Int32), I9)
    else
    (if x4 = (109 : Int32) then
    some ((0 : Int32), I9)
    else
    (letJ (fun y0j197 Ij197 =>
    ck (inb (x1 + (2 : Int32)) 244) (bnd (kgW Ij197 182 (x1 + (2 : Int32)).toNatClampNeg y0j197) (fun I10 => 
    (if x4 = (107 : Int32) then
    bndC (f_X5_number (2 : Int32) I10) (fun x6 I11 => 
    ck (inb (x1 + (3 : Int32)) 244) (bnd (kgW I11 182 (x1 + (3 : Int32)).toNatClampNeg x6) (fun I12 => 
    some ((0 : Int32), I12))))
    else
    some ((0 : Int32), I10))))) (fun (j197 : Int32 → kgM → Option (Int32 × kgM)) =>
    (if x4 = (108 : Int32) then
    bndC (f_X5_plusOrMinus I9) (fun x11 I17 => 
    j197 x11 I17)
    else
    (if x4 = (110 : Int32) then
    bndC (f_X5_number (2 : Int32) I9) (fun x7 I13 => 
    j197 x7 I13)
    else
    (if x4 = (107 : Int32) then
    bndC (f_X5_number (2 : Int32) I9) (fun x8 I14 => 
    j197 x8 I14)
    else
    (if x4 = (102 : Int32) then
    bndC (f_X5_number (2 : Int32) I9) (fun x10 I16 => 
    j197 x10 I16)
    else
    bndC (f_X5_number (1 : Int32) I9) (fun x9 I15 => 
    j197 x9 I15))))))))))))))))) (fun (j101 : Option (Int32 × kgM)) =>
    (if x2 = (111 : Int32) then
    j101
    else
    (if x2 = (107 : Int32) then
    j101
    else
    (if x2 = (115 : Int32) then
    j101
    else
    (if x2 = (104 : Int32) then
    j101
    else
    (if x2 = (102 : Int32) then
    j101
    else
    (if x2 = (108 : Int32) then
    j101
    else
    (if x2 = (97 : Int32) then
    j101
    else
    (if x2 = (109 : Int32) then
    j101
    else
    bnd (kgW I4 177 9 (I4 177 8)) (fun I18 => 
    some ((0 : Int32), I18))))))))))))) 200 (0 : Int32) I2)))

def f_X5_parse_L19  (K : kgM → Option (Int32 × kgM)) : Nat → kgM → Option (Int32 × kgM)
  | 0, _ => none
  | q + 1, Ih19 =>
    (if 0 ≤ (Ih19 177 9) then
    K Ih19
    else
    bndC (f_X5_sign Ih19) (fun x2 I5 => 
    (if x2 = (59 : Int32) then
    bnd (kgW I5 177 8 ((I5 177 8) + (1 : Int32))) (fun I6 => 
    bndC (f_X5_order I6) (fun x3 I7 => 
    f_X5_parse_L19 K q I7))
    else
    K I5)))

def f_X5_parse  (I0 : kgM) : Option (Int32 × kgM) :=
    bnd (kgW I0 177 8 (0 : Int32)) (fun I1 => 
    bnd (kgW I1 177 9 (-1 : Int32)) (fun I2 => 
    bnd (kgW I2 177 11 (0 : Int32)) (fun I3 => 
    bndC (f_X5_order I3) (fun x1 I4 => 
    f_X5_parse_L19 (fun I8 =>
    (if 0 ≤ (I8 177 9) then
    some ((0 : Int32), I8)
    else
    (if (I8 177 7) ≤ (I8 177 8) then
    some ((0 : Int32), I8)
    else
    bnd (kgW I8 177 9 (I8 177 8)) (fun I9 => 
    some ((0 : Int32), I9))))) 200 I4))))

def f_X5_does (p1 : Int32) (I0 : kgM) : Option (Int32 × kgM) :=
    ck (inb (p1 + (1 : Int32)) 244) (
    bnd (I0 182 (p1 + (1 : Int32)).toNatClampNeg) (fun x1 => 
    ck (inb (p1 + (2 : Int32)) 244) (
    bnd (I0 182 (p1 + (2 : Int32)).toNatClampNeg) (fun x2 => 
    ck (inb p1 244) (
    (if (I0 182 p1.toNatClampNeg).toInt = 97 then
    bndC (f_X5_appeals x1 x2 I0) (fun x3 I1 => 
    some (x3, I1))
    else
    (if (I0 182 p1.toNatClampNeg).toInt = 102 then
    bndC (f_X5_fills x1 x2 I0) (fun x4 I2 => 
    some (x4, I2))
    else
    (if (I0 182 p1.toNatClampNeg).toInt = 104 then
    bndC (f_X5_heats x1 x2 I0) (fun x5 I3 => 
    some (x5, I3))
    else
    (if (I0 182 p1.toNatClampNeg).toInt = 107 then
    ck (inb (p1 + (3 : Int32)) 244) (
    bndC (f_X5_brings x1 x2 (I0 182 (p1 + (3 : Int32)).toNatClampNeg) I0) (fun x6 I4 => 
    some (x6, I4)))
    else
    (if (I0 182 p1.toNatClampNeg).toInt = 108 then
    bndC (f_X5_putsLid x1 x2 I0) (fun x7 I5 => 
    some (x7, I5))
    else
    (if (I0 182 p1.toNatClampNeg).toInt = 110 then
    bndC (f_X5_owns x1 x2 I0) (fun x8 I6 => 
    some (x8, I6))
    else
    (if (I0 182 p1.toNatClampNeg).toInt = 115 then
    bndC (f_X5_sets x1 x2 I0) (fun x9 I7 => 
    some (x9, I7))
    else
    (if (I0 182 p1.toNatClampNeg).toInt = 116 then
    bndC (f_X5_takesOff x1 I0) (fun x10 I8 => 
    some (x10, I8))
    else
    bndC (f_X5_passes x1 I0) (fun x11 I9 => 
    some (x11, I9)))))))))))))))

def f_X5_run_L33  (K : Int32 → Int32 → kgM → Option (Int32 × kgM)) : Nat → Int32 → Int32 → kgM → Option (Int32 × kgM)
  | 0, _, _, _ => none
  | q + 1, x1h33, x2h33, Ih33 =>
    (if (Ih33 177 11) ≤ x2h33 then
    K x1h33 x2h33 Ih33
    else
    (if x1h33 ≤ (-1011 : Int32) then
    K x1h33 x2h33 Ih33
    else
    bndC (f_X5_does ((4 : Int32) * x2h33) Ih33) (fun x3 I4 => 
    bnd (x2h33 + (1 : Int32)) (fun x4 => 
    f_X5_run_L33 K q x3 x4 I4))))

def f_X5_run  (I0 : kgM) : Option (Int32 × kgM) :=
    bndC (f_X5_parse I0) (fun x1 I1 => 
    bnd (kgW I1 177 7 (0 : Int32)) (fun I2 => 
    (if (I2 177 9) < 0 then
    bndC (f_X5_begins I2) (fun x2 I3 => 
    f_X5_run_L33 (fun x5 x6 I5 =>
    (if (-1011 : Int32) < x5 then
    bndC (f_X5_ends (I5 177 11) I5) (fun x7 I6 => 
    some (x7, I6))
    else
    (letJ (fun y0j85 =>
    bnd (kgW I5 177 5 y0j85) (fun I7 => 
    bndC (f_X5_causes (16 : Int32) (x6 - (1 : Int32)) I7) (fun x8 I8 => 
    bndC (f_X5_ends (-1014 : Int32) I8) (fun x9 I9 => 
    some (x9, I9))))) (fun (j85 : Int32 → Option (Int32 × kgM)) =>
    (if x5 = (-1014 : Int32) then
    j85 (I5 177 5)
    else
    j85 (0 : Int32)))))) 200 (0 : Int32) (0 : Int32) I3)
    else
    some ((-2000 : Int32) - (I2 177 9), I2))))

def f_X5_writes (p1 : Int32) (I0 : kgM) : Option (Int32 × kgM) :=
    ck (inb (I0 177 13) 40) (bnd (kgW I0 183 (I0 177 13).toNatClampNeg (vp_nar .char ((p1.toUInt32 % 65536).toInt32))) (fun I1 => 
    bnd (kgW I1 177 13 ((I1 177 13) + (1 : Int32))) (fun I2 => 
    some ((0 : Int32), I2))))

def f_X5_writesNumber_0 (p1 : Int32) (I0 : kgM) : Option (Int32 × kgM) :=
    (if p1 ≤ (9 : Int32) then
    bndC (f_X5_writes ((48 : Int32) + (p1 - p1 / (10 : Int32) * (10 : Int32))) I0) (fun x1 I1 => 
    some ((0 : Int32), I1))
    else
    none)

def f_X5_writesNumber_1 (p1 : Int32) (I0 : kgM) : Option (Int32 × kgM) :=
    (if p1 ≤ (9 : Int32) then
    bndC (f_X5_writes ((48 : Int32) + (p1 - p1 / (10 : Int32) * (10 : Int32))) I0) (fun x1 I1 => 
    some ((0 : Int32), I1))
    else
    bndC (f_X5_writesNumber_0 (p1 / (10 : Int32)) I0) (fun x2 I2 => 
    bndC (f_X5_writes ((48 : Int32) + (p1 - p1 / (10 : Int32) * (10 : Int32))) I2) (fun x3 I3 => 
    some ((0 : Int32), I3))))

def f_X5_writesNumber_2 (p1 : Int32) (I0 : kgM) : Option (Int32 × kgM) :=
    (if p1 ≤ (9 : Int32) then
    bndC (f_X5_writes ((48 : Int32) + (p1 - p1 / (10 : Int32) * (10 : Int32))) I0) (fun x1 I1 => 
    some ((0 : Int32), I1))
    else
    bndC (f_X5_writesNumber_1 (p1 / (10 : Int32)) I0) (fun x2 I2 => 
    bndC (f_X5_writes ((48 : Int32) + (p1 - p1 / (10 : Int32) * (10 : Int32))) I2) (fun x3 I3 => 
    some ((0 : Int32), I3))))

def f_X5_tell (p1 : Int32) (I0 : kgM) : Option (Int32 × kgM) :=
    bndC (f_X5_isKettle p1 I0) (fun x1 I1 => 
    (if x1 = 0 then
    some ((-1011 : Int32), I1)
    else
    bnd (kgW I1 177 13 (0 : Int32)) (fun I2 => 
    bndC (f_X5_writesNumber_2 p1 I2) (fun x2 I3 => 
    bndC (f_X5_writes (58 : Int32) I3) (fun x3 I4 => 
    bndC (f_X5_kt p1 (0 : Int32) I4) (fun x4 I5 => 
    bndC (f_X5_writesNumber_2 x4 I5) (fun x5 I6 => 
    bndC (f_X5_writes (112 : Int32) I6) (fun x6 I7 => 
    bndC (f_X5_kt p1 (1 : Int32) I7) (fun x7 I8 => 
    bndC (f_X5_writesNumber_2 x7 I8) (fun x8 I9 => 
    bndC (f_X5_writes (119 : Int32) I9) (fun x9 I10 => 
    bndC (f_X5_kt p1 (2 : Int32) I10) (fun x10 I11 => 
    bndC (f_X5_writesNumber_2 x10 I11) (fun x11 I12 => 
    bndC (f_X5_writes (116 : Int32) I12) (fun x12 I13 => 
    bndC (f_X5_kt p1 (3 : Int32) I13) (fun x13 I14 => 
    bndC (f_X5_writesNumber_2 x13 I14) (fun x14 I15 => 
    bndC (f_X5_kt p1 (4 : Int32) I15) (fun x15 I16 => 
    (letJ (fun Ij101 =>
    bndC (f_X5_kt p1 (7 : Int32) Ij101) (fun x16 I17 => 
    (letJ (fun Ij118 =>
    bndC (f_X5_isOnStove p1 Ij118) (fun x17 I18 => 
    (letJ (fun Ij144 =>
    bndC (f_X5_whistles p1 Ij144) (fun x18 I19 => 
    (letJ (fun Ij158 =>
    bndC (f_X5_kt p1 (6 : Int32) Ij158) (fun x19 I20 => 
    (if x19 ≤ 0 then
    some (I20 177 13, I20)
    else
    bndC (f_X5_writes (120 : Int32) I20) (fun x20 I21 => 
    bndC (f_X5_kt p1 (6 : Int32) I21) (fun x21 I22 => 
    bndC (f_X5_writesNumber_2 x21 I22) (fun x22 I23 => 
    some (I23 177 13, I23))))))) (fun (j158 : kgM → Option (Int32 × kgM)) =>
    (if x18 = 0 then
    j158 I19
    else
    bndC (f_X5_writes (33 : Int32) I19) (fun x23 I24 => 
    j158 I24)))))) (fun (j144 : kgM → Option (Int32 × kgM)) =>
    (if x17 = 0 then
    j144 I18
    else
    bndC (f_X5_writes (64 : Int32) I18) (fun x24 I25 => 
    bndC (f_X5_kt p1 (5 : Int32) I25) (fun x25 I26 => 
    bndC (f_X5_writesNumber_2 (x25 - (1 : Int32)) I26) (fun x26 I27 => 
    j144 I27)))))))) (fun (j118 : kgM → Option (Int32 × kgM)) =>
    (if x16 = (1 : Int32) then
    bndC (f_X5_writes (35 : Int32) I17) (fun x27 I28 => 
    j118 I28)
    else
    j118 I17))))) (fun (j101 : kgM → Option (Int32 × kgM)) =>
    (if x15 = 0 then
    bndC (f_X5_writes (95 : Int32) I16) (fun x28 I29 => 
    j101 I29)
    else
    j101 I16))))))))))))))))))))

def f_X5_tellStoves_L7  (K : kgM → Option (Int32 × kgM)) : Nat → Int32 → kgM → Option (Int32 × kgM)
  | 0, _, _ => none
  | q + 1, x1h7, Ih7 =>
    (if (6 : Int32) ≤ x1h7 then
    K Ih7
    else
    ck (inb ((29 : Int32) + x1h7) 1375) (
    bndC (f_X5_writesNumber_2 (Ih7 178 ((29 : Int32) + x1h7).toNatClampNeg) Ih7) (fun x1 I2 => 
    bndC (f_X5_kettleOn x1h7 I2) (fun x2 I3 => 
    (if 0 ≤ x2 then
    bndC (f_X5_writes (40 : Int32) I3) (fun x3 I4 => 
    bndC (f_X5_kettleOn x1h7 I4) (fun x4 I5 => 
    bndC (f_X5_writesNumber_2 x4 I5) (fun x5 I6 => 
    bndC (f_X5_writes (41 : Int32) I6) (fun x6 I7 => 
    bnd (x1h7 + (1 : Int32)) (fun x7 => 
    f_X5_tellStoves_L7 K q x7 I7)))))
    else
    bnd (x1h7 + (1 : Int32)) (fun x8 => 
    f_X5_tellStoves_L7 K q x8 I3))))))

def f_X5_tellStoves  (I0 : kgM) : Option (Int32 × kgM) :=
    bnd (kgW I0 177 13 (0 : Int32)) (fun I1 => 
    f_X5_tellStoves_L7 (fun I8 =>
    some (I8 177 13, I8)) 200 (0 : Int32) I1)

def f_X5_character (p1 : Int32) (I0 : kgM) : Option (Int32 × kgM) :=
    bndC (f_X5_in p1 (0 : Int32) ((I0 177 13) - (1 : Int32)) I0) (fun x1 I1 => 
    (if x1 = 0 then
    some ((-1011 : Int32), I1)
    else
    ck (inb p1 40) (
    some (I1 183 p1.toNatClampNeg, I1))))

def f_X5_ofKettles_L4 (a1 : Int32) (K : Int32 → kgM → Option (Int32 × kgM)) : Nat → Int32 → Int32 → kgM → Option (Int32 × kgM)
  | 0, _, _, _ => none
  | q + 1, x2h4, x3h4, Ih4 =>
    ck (inb (1 : Int32) 1375) (
    (if (Ih4 178 (1 : Int32).toNatClampNeg) ≤ x3h4 then
    K x2h4 Ih4
    else
    (if a1 = 0 then
    bndC (f_X5_boils x3h4 Ih4) (fun x7 I3 => 
    (if x7 = 0 then
    bnd (x2h4 + (0 : Int32)) (fun x8 => 
    bnd (x3h4 + (1 : Int32)) (fun x9 => 
    f_X5_ofKettles_L4 a1 K q x8 x9 I3))
    else
    bnd (x2h4 + (1 : Int32)) (fun x10 => 
    bnd (x3h4 + (1 : Int32)) (fun x11 => 
    f_X5_ofKettles_L4 a1 K q x10 x11 I3))))
    else
    (if a1 = (1 : Int32) then
    bndC (f_X5_kt x3h4 (7 : Int32) Ih4) (fun x4 I2 => 
    bnd (x2h4 + x4) (fun x5 => 
    bnd (x3h4 + (1 : Int32)) (fun x6 => 
    f_X5_ofKettles_L4 a1 K q x5 x6 I2)))
    else
    bndC (f_X5_kt x3h4 (2 : Int32) Ih4) (fun x1 I1 => 
    bnd (x2h4 + x1) (fun x2 => 
    bnd (x3h4 + (1 : Int32)) (fun x3 => 
    f_X5_ofKettles_L4 a1 K q x2 x3 I1)))))))

def f_X5_ofKettles (p1 : Int32) (I0 : kgM) : Option (Int32 × kgM) :=
    f_X5_ofKettles_L4 p1 (fun x12 I4 =>
    some (x12, I4)) 200 (0 : Int32) (0 : Int32) I0

def f_X5_allPoints_L4  (K : Int32 → kgM → Option (Int32 × kgM)) : Nat → Int32 → Int32 → kgM → Option (Int32 × kgM)
  | 0, _, _, _ => none
  | q + 1, x1h4, x2h4, Ih4 =>
    (if (4 : Int32) ≤ x2h4 then
    K x1h4 Ih4
    else
    bndC (f_X5_m x2h4 (0 : Int32) Ih4) (fun x1 I1 => 
    bnd (x1h4 + x1) (fun x2 => 
    bnd (x2h4 + (1 : Int32)) (fun x3 => 
    f_X5_allPoints_L4 K q x2 x3 I1))))

def f_X5_allPoints  (I0 : kgM) : Option (Int32 × kgM) :=
    f_X5_allPoints_L4 (fun x4 I2 =>
    some (x4, I2)) 200 (0 : Int32) (0 : Int32) I0

def f_X5_account (p1 : Int32) (I0 : kgM) : Option (Int32 × kgM) :=
    (if p1.toInt = 0 then
    ck (inb (1 : Int32) 1375) (
    some (I0 178 (1 : Int32).toNatClampNeg, I0))
    else
    (if p1.toInt = 1 then
    bndC (f_X5_onStoves I0) (fun x1 I1 => 
    some (x1, I1))
    else
    (if p1.toInt = 2 then
    bndC (f_X5_ofKettles (0 : Int32) I0) (fun x2 I2 => 
    some (x2, I2))
    else
    (if p1.toInt = 3 then
    bndC (f_X5_lidsOn I0) (fun x3 I3 => 
    some (x3, I3))
    else
    (if p1.toInt = 4 then
    bndC (f_X5_ofKettles (1 : Int32) I0) (fun x4 I4 => 
    some (x4, I4))
    else
    (if p1.toInt = 5 then
    ck (inb (0 : Int32) 1375) (
    some (I0 178 (0 : Int32).toNatClampNeg, I0))
    else
    (if p1.toInt = 6 then
    bndC (f_X5_ofKettles (2 : Int32) I0) (fun x5 I5 => 
    some (x5, I5))
    else
    (if p1.toInt = 7 then
    ck (inb (p1 - (5 : Int32)) 1375) (
    some (I0 178 (p1 - (5 : Int32)).toNatClampNeg, I0))
    else
    (if p1.toInt = 8 then
    ck (inb (p1 - (5 : Int32)) 1375) (
    some (I0 178 (p1 - (5 : Int32)).toNatClampNeg, I0))
    else
    (if p1.toInt = 9 then
    ck (inb (p1 - (5 : Int32)) 1375) (
    some (I0 178 (p1 - (5 : Int32)).toNatClampNeg, I0))
    else
    (if p1.toInt = 10 then
    bndC (f_X5_allPoints I0) (fun x6 I6 => 
    some (x6, I6))
    else
    (if p1.toInt = 11 then
    some (I0 177 7, I0)
    else
    (if p1.toInt = 12 then
    some (I0 177 1, I0)
    else
    some ((-1012 : Int32), I0))))))))))))))

def f_X5_isBalanced  (I0 : kgM) : Option (Int32 × kgM) :=
    some ((1 : Int32), I0)

def f_X5_meanWater  (I0 : kgM) : Option (UInt64 × kgM) :=
    ck (inb (1 : Int32) 1375) (
    (if (I0 178 (1 : Int32).toNatClampNeg) = 0 then
    some (FP.dconst0, I0)
    else
    bndC (f_X5_ofKettles (2 : Int32) I0) (fun x1 I1 => 
    ck (inb (1 : Int32) 1375) (
    ck (kn64 (FP.ddiv (FP.i2d x1) (FP.i2d (I1 178 (1 : Int32).toNatClampNeg)))) (
    some (FP.ddiv (FP.i2d x1) (FP.i2d (I1 178 (1 : Int32).toNatClampNeg)), I1))))))

def f_X5_whistleShare  (I0 : kgM) : Option (UInt32 × kgM) :=
    bndC (f_X5_onStoves I0) (fun x1 I1 => 
    (if x1 = 0 then
    some (FP.fconst0, I1)
    else
    bndC (f_X5_whistling I1) (fun x2 I2 => 
    bndC (f_X5_bits x2 I2) (fun x3 I3 => 
    bndC (f_X5_onStoves I3) (fun x4 I4 => 
    ck (kn32 (FP.fdiv (FP.i2f x3) (FP.i2f x4))) (
    some (FP.fdiv (FP.i2f x3) (FP.i2f x4), I4)))))))

def f_X5_undo  (I0 : kgM) : Option (Int32 × kgM) :=
    (if (I0 177 1) = 0 then
    some ((-1015 : Int32), I0)
    else
    bndC (f_X5_copies (I0 177 1) (0 : Int32) I0) (fun x1 I1 => 
    bnd (kgW I1 177 1 ((I1 177 1) - (1 : Int32))) (fun I2 => 
    some (I2 177 1, I2))))

def f_X5_save  (I0 : kgM) : Option (Int32 × kgM) :=
    bnd (kgW I0 177 2 (1 : Int32)) (fun I1 => 
    bndC (f_X5_copies (0 : Int32) (9 : Int32) I1) (fun x1 I2 => 
    ck (inb (1 : Int32) 1375) (
    some (I2 178 (1 : Int32).toNatClampNeg, I2))))

def f_X5_restore  (I0 : kgM) : Option (Int32 × kgM) :=
    (if (I0 177 2) = 0 then
    some ((-1015 : Int32), I0)
    else
    bndC (f_X5_copies (9 : Int32) (0 : Int32) I0) (fun x1 I1 => 
    bnd (kgW I1 177 1 (0 : Int32)) (fun I2 => 
    ck (inb (1 : Int32) 1375) (
    some (I2 178 (1 : Int32).toNatClampNeg, I2)))))


