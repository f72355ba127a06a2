def f_X0_begin  (I0 : kgM) : Option (Int32 × kgM) :=
    ck (inb (I0 31 1) 9) (
    bndC (f_X3_copyFrom (33 + 15 * (I0 31 1).toNatClampNeg) 1 I0) (fun x1 I1 => 
    some ((0 : Int32), I1)))

def f_X0_keepBegun  (I0 : kgM) : Option (Int32 × kgM) :=
    bnd (kgW I0 31 1 (((I0 31 1) + (1 : Int32)) - ((I0 31 1) + (1 : Int32)) / (9 : Int32) * (9 : Int32))) (fun I1 => 
    bndC (f_J9_min_7cf53 (8 : Int32) ((I1 31 2) + (1 : Int32)) I1) (fun x1 I2 => 
    bnd (kgW I2 31 2 x1) (fun I3 => 
    some ((0 : Int32), I3))))

def f_X0_takeBackBegun  (I0 : kgM) : Option (Int32 × kgM) :=
    ck (inb (I0 31 1) 9) (
    bndC (f_X3_copyFrom 1 (33 + 15 * (I0 31 1).toNatClampNeg) I0) (fun x1 I1 => 
    some ((0 : Int32), I1)))

def f_X0_takeBackLatest  (I0 : kgM) : Option (Int32 × kgM) :=
    bnd (kgW I0 31 1 (((I0 31 1) + (8 : Int32)) - ((I0 31 1) + (8 : Int32)) / (9 : Int32) * (9 : Int32))) (fun I1 => 
    bndC (f_J9_max_7cf53 (0 : Int32) ((I1 31 2) - (1 : Int32)) I1) (fun x1 I2 => 
    bnd (kgW I2 31 2 x1) (fun I3 => 
    ck (inb (I3 31 1) 9) (
    bndC (f_X3_copyFrom 1 (33 + 15 * (I3 31 1).toNatClampNeg) I3) (fun x2 I4 => 
    some ((0 : Int32), I4))))))

def f_X1_add (p1 : Int32) (I0 : kgM) : Option (Int32 × kgM) :=
    (if (I0 171 4) < (Int32.ofNat 60) then
    ck (inb (I0 171 4) 60) (bnd (kgW I0 172 (I0 171 4).toNatClampNeg (vp_nar .char p1)) (fun I1 => 
    bnd (kgW I1 171 4 ((I1 171 4) + (1 : Int32))) (fun I2 => 
    some ((1 : Int32), I2))))
    else
    some ((0 : Int32), I0))

def f_X1_empty  (I0 : kgM) : Option (Int32 × kgM) :=
    bnd (kgW I0 171 4 (0 : Int32)) (fun I1 => 
    some ((0 : Int32), I1))

def f_X1_kindOf (p1 : Int32) (I0 : kgM) : Option (Int32 × kgM) :=
    (if p1 < 0 then
    some ((-1 : Int32), I0)
    else
    (if (I0 171 5) ≤ p1 then
    some ((-1 : Int32), I0)
    else
    ck (inb p1 11) (
    some (I0 173 p1.toNatClampNeg, I0))))

def f_X1_numberOf (p1 : Int32) (p2 : Int32) (I0 : kgM) : Option (Int32 × kgM) :=
    (letJ (fun y0j26 =>
    (if y0j26 = 0 then
    some ((-1 : Int32), I0)
    else
    ck (inb ((p1 * (3 : Int32)) + p2) 33) (
    some (I0 174 ((p1 * (3 : Int32)) + p2).toNatClampNeg, I0)))) (fun (j26 : Int32 → Option (Int32 × kgM)) =>
    (if p1 < 0 then
    j26 (0 : Int32)
    else
    (if (I0 171 5) ≤ p1 then
    j26 (0 : Int32)
    else
    (if p2 < 0 then
    j26 (0 : Int32)
    else
    (if (3 : Int32) ≤ p2 then
    j26 (0 : Int32)
    else
    j26 (1 : Int32)))))))

def f_X1_formOf (p1 : Int32) (I0 : kgM) : Option (Int32 × kgM) :=
    (if p1.toInt = 0 then
    some ((0 : Int32), I0)
    else
    (if p1.toInt = 1 then
    some ((1 : Int32), I0)
    else
    (if p1.toInt = 2 then
    some ((2 : Int32), I0)
    else
    (if p1.toInt = 3 then
    some ((3 : Int32), I0)
    else
    (if p1.toInt = 4 then
    some ((4 : Int32), I0)
    else
    (if p1.toInt = 5 then
    some ((5 : Int32), I0)
    else
    (if p1.toInt = 6 then
    some ((6 : Int32), I0)
    else
    (if p1.toInt = 7 then
    some ((7 : Int32), I0)
    else
    some ((8 : Int32), I0)))))))))

def f_J0_coder_7d493 (j : Nat)  (I0 : kgM) : Option (Int32 × kgM) :=
    some ((0 : Int32), I0)

def f_J0_length_8abf5 (j : Nat)  (I0 : kgM) : Option (Int32 × kgM) :=
    bndC (f_J0_coder_7d493 j I0) (fun x1 I1 => 
    some ((Int32.ofNat (kg_len.getD j 0)) >>> (x1 &&& 31), I1))

def f_J0_isLatin1_aae02 (j : Nat)  (I0 : kgM) : Option (Int32 × kgM) :=
    some ((1 : Int32), I0)

def f_J3_checkIndex_8e157 (p1 : Int32) (p2 : Int32) (I0 : kgM) : Option (Int32 × kgM) :=
    (if p1 < 0 then
    none
    else
    (if p1 < p2 then
    some (p1, I0)
    else
    none))

def f_J0_checkIndex_df160 (p1 : Int32) (p2 : Int32) (I0 : kgM) : Option (Int32 × kgM) :=
    bndC (f_J3_checkIndex_8e157 p1 p2 I0) (fun x1 I1 => 
    some ((0 : Int32), I1))

def f_J1_charAt_3b067 (j : Nat) (p2 : Int32) (I0 : kgM) : Option (Int32 × kgM) :=
    bndC (f_J0_checkIndex_df160 p2 (Int32.ofNat (kg_len.getD j 0)) I0) (fun x1 I1 => 
    ck (inb p2 (kg_len.getD j 0)) (
    ck (isc (((((kg_byt.getD j []).getD p2.toNatClampNeg 0) &&& (255 : Int32)).toUInt32 % 65536).toInt32)) (some (((((kg_byt.getD j []).getD p2.toNatClampNeg 0) &&& (255 : Int32)).toUInt32 % 65536).toInt32, I1))))

def f_J0_charAt_5068e (j : Nat) (p1 : Int32) (I0 : kgM) : Option (Int32 × kgM) :=
    bndC (f_J0_isLatin1_aae02 j I0) (fun x1 I1 => 
    (if x1 = 0 then
    none
    else
    bndC (f_J1_charAt_3b067 j p1 I1) (fun x2 I2 => 
    ck (isc x2) (some (x2, I2)))))

def f_X1_digitAtPlace  (I0 : kgM) : Option (Int32 × kgM) :=
    (if (I0 171 3) < 0 then
    some ((-1 : Int32), I0)
    else
    (if (I0 171 3) < (I0 171 4) then
    ck (inb (I0 171 3) 60) (
    bnd (I0 172 (I0 171 3).toNatClampNeg) (fun x1 => 
    (if x1 < (48 : Int32) then
    some ((-1 : Int32), I0)
    else
    (if (57 : Int32) < x1 then
    some ((-1 : Int32), I0)
    else
    some (x1 - (48 : Int32), I0)))))
    else
    some ((-1 : Int32), I0)))

def f_X1_isAtPlace (p1 : Int32) (I0 : kgM) : Option (Int32 × kgM) :=
    (if (I0 171 3) < 0 then
    some ((0 : Int32), I0)
    else
    (if (I0 171 4) ≤ (I0 171 3) then
    some ((0 : Int32), I0)
    else
    ck (inb (I0 171 3) 60) (
    (if (I0 172 (I0 171 3).toNatClampNeg) = p1 then
    some ((1 : Int32), I0)
    else
    some ((0 : Int32), I0)))))

def f_X1_signAtPlace  (I0 : kgM) : Option (Int32 × kgM) :=
    bndC (f_X1_isAtPlace (43 : Int32) I0) (fun x1 I1 => 
    (if x1 = 0 then
    bndC (f_X1_isAtPlace (45 : Int32) I1) (fun x2 I2 => 
    (if x2 = 0 then
    some ((-1 : Int32), I2)
    else
    some ((0 : Int32), I2)))
    else
    some ((1 : Int32), I1)))

def f_X1_readNumber (p1 : Int32) (I0 : kgM) : Option (Int32 × kgM) :=
    (letJ (fun y0j17 Ij17 =>
    (if 0 ≤ y0j17 then
    bnd (kgW Ij17 171 3 ((Ij17 171 3) + (1 : Int32))) (fun I1 => 
    bndC (f_X1_digitAtPlace I1) (fun x1 I2 => 
    (if p1 = (37 : Int32) then
    (if x1 < 0 then
    some (y0j17, I2)
    else
    bnd (kgW I2 171 3 ((I2 171 3) + (1 : Int32))) (fun I3 => 
    some ((y0j17 * (10 : Int32)) + x1, I3)))
    else
    some (y0j17, I2))))
    else
    some ((-1 : Int32), Ij17))) (fun (j17 : Int32 → kgM → Option (Int32 × kgM)) =>
    (if p1 = (63 : Int32) then
    bndC (f_X1_signAtPlace I0) (fun x3 I5 => 
    j17 x3 I5)
    else
    bndC (f_X1_digitAtPlace I0) (fun x2 I4 => 
    j17 x2 I4))))

def f_X1_readForm_L5 (j : Nat)  (K : kgM → Option (Int32 × kgM)) : Nat → Int32 → Int32 → kgM → Option (Int32 × kgM)
  | 0, _, _, _ => none
  | q + 1, x3h5, x4h5, Ih5 =>
    bndC (f_J0_length_8abf5 j Ih5) (fun x1 I1 => 
    (if x1 ≤ x4h5 then
    K I1
    else
    bndC (f_J0_charAt_5068e j x4h5 I1) (fun x2 I2 => 
    (letJ (fun x4j43 x5j43 Ij43 =>
    bndC (f_X1_readNumber x5j43 Ij43) (fun x3 I3 => 
    (if x3 < 0 then
    some ((0 : Int32), I3)
    else
    (if x3h5 < (Int32.ofNat 33) then
    ck (inb x3h5 33) (bnd (kgW I3 174 x3h5.toNatClampNeg x3) (fun I4 => 
    bnd (x3h5 + (1 : Int32)) (fun x4 => 
    bnd (x4j43 + (1 : Int32)) (fun x5 => 
    f_X1_readForm_L5 j K q x4 x5 I4))))
    else
    some ((0 : Int32), I3))))) (fun (j43 : Int32 → Int32 → kgM → Option (Int32 × kgM)) =>
    (if x2 = (35 : Int32) then
    j43 x4h5 x2 I2
    else
    (if x2 = (37 : Int32) then
    j43 x4h5 x2 I2
    else
    (if x2 = (63 : Int32) then
    j43 x4h5 x2 I2
    else
    bndC (f_X1_isAtPlace x2 I2) (fun x6 I5 => 
    (if x6 = 0 then
    some ((0 : Int32), I5)
    else
    bnd (kgW I5 171 3 ((I5 171 3) + (1 : Int32))) (fun I6 => 
    bnd (x4h5 + (1 : Int32)) (fun x7 => 
    f_X1_readForm_L5 j K q x3h5 x7 I6))))))))))))

def f_X1_readForm (j : Nat) (p2 : Int32) (I0 : kgM) : Option (Int32 × kgM) :=
    f_X1_readForm_L5 j (fun I7 =>
    some ((1 : Int32), I7)) 200 p2 (0 : Int32) I0

def f_X1_readOrder_L10 (a1 : Int32) (a2 : Int32) (K : Int32 → kgM → Option (Int32 × kgM)) : Nat → Int32 → Int32 → kgM → Option (Int32 × kgM)
  | 0, _, _, _ => none
  | q + 1, x3h10, x4h10, Ih10 =>
    (if (9 : Int32) ≤ x4h10 then
    K x3h10 Ih10
    else
    bnd (kgW Ih10 171 3 a2) (fun I1 => 
    bndC (f_X1_formOf x4h10 I1) (fun x2 I2 => 
    bndC (f_X1_readForm x2.toNatClampNeg (a1 * (3 : Int32)) I2) (fun x3 I3 => 
    (if x3 = 0 then
    bndC (f_J9_max_7cf53 x3h10 (I3 171 3) I3) (fun x4 I4 => 
    bnd (x4h10 + (1 : Int32)) (fun x5 => 
    f_X1_readOrder_L10 a1 a2 K q x4 x5 I4))
    else
    ck (inb a1 11) (bnd (kgW I3 173 a1.toNatClampNeg x4h10) (fun I5 => 
    some ((1 : Int32), I5))))))))

def f_X1_readOrder (p1 : Int32) (I0 : kgM) : Option (Int32 × kgM) :=
    bnd (I0 171 3) (fun x1 => 
    f_X1_readOrder_L10 p1 x1 (fun x6 I6 =>
    bnd (kgW I6 171 3 x6) (fun I7 => 
    some ((0 : Int32), I7))) 200 x1 (0 : Int32) I0)

def f_X1_read_L12  (K : kgM → Option (Int32 × kgM)) : Nat → Int32 → kgM → Option (Int32 × kgM)
  | 0, _, _ => none
  | q + 1, x1h12, Ih12 =>
    (if (11 : Int32) ≤ x1h12 then
    K Ih12
    else
    bndC (f_X1_readOrder x1h12 Ih12) (fun x1 I3 => 
    (if x1 = 0 then
    some (I3 171 3, I3)
    else
    bnd (kgW I3 171 5 ((I3 171 5) + (1 : Int32))) (fun I4 => 
    (if (I4 171 3) = (I4 171 4) then
    some ((-1 : Int32), I4)
    else
    bndC (f_X1_isAtPlace (59 : Int32) I4) (fun x2 I5 => 
    (if x2 = 0 then
    some (I5 171 3, I5)
    else
    bnd (kgW I5 171 3 ((I5 171 3) + (1 : Int32))) (fun I6 => 
    bnd (x1h12 + (1 : Int32)) (fun x3 => 
    f_X1_read_L12 K q x3 I6)))))))))

def f_X1_read  (I0 : kgM) : Option (Int32 × kgM) :=
    bnd (kgW I0 171 5 (0 : Int32)) (fun I1 => 
    bnd (kgW I1 171 3 (0 : Int32)) (fun I2 => 
    f_X1_read_L12 (fun I7 =>
    some (I7 171 3, I7)) 200 (0 : Int32) I2))

def f_X2_putAhead_L2 (a1 : Int32) (a2 : Int32) (K : kgM → Option (Int32 × kgM)) : Nat → Int32 → kgM → Option (Int32 × kgM)
  | 0, _, _ => none
  | q + 1, x3h2, Ih2 =>
    (if x3h2 ≤ 0 then
    K Ih2
    else
    ck (inb (x3h2 - (1 : Int32)) 3) (
    ck (inb x3h2 3) (bnd (kgW Ih2 169 x3h2.toNatClampNeg (Ih2 169 (x3h2 - (1 : Int32)).toNatClampNeg)) (fun I1 => 
    ck (inb (x3h2 - (1 : Int32)) 3) (
    ck (inb x3h2 3) (bnd (kgW I1 170 x3h2.toNatClampNeg (I1 170 (x3h2 - (1 : Int32)).toNatClampNeg)) (fun I2 => 
    bnd (x3h2 + (-1 : Int32)) (fun x1 => 
    f_X2_putAhead_L2 a1 a2 K q x1 I2))))))))

def f_X2_putAhead (p1 : Int32) (p2 : Int32) (I0 : kgM) : Option (Int32 × kgM) :=
    f_X2_putAhead_L2 p1 p2 (fun I3 =>
    ck (inb (0 : Int32) 3) (bnd (kgW I3 169 (0 : Int32).toNatClampNeg p1) (fun I4 => 
    ck (inb (0 : Int32) 3) (bnd (kgW I4 170 (0 : Int32).toNatClampNeg p2) (fun I5 => 
    bndC (f_J9_min_7cf53 (3 : Int32) ((I5 168 2) + (1 : Int32)) I5) (fun x2 I6 => 
    bnd (kgW I6 168 2 x2) (fun I7 => 
    some ((0 : Int32), I7)))))))) 200 (2 : Int32) I0

def f_X3_addKettle (p1 : Int32) (p2 : Int32) (p3 : Int32) (I0 : kgM) : Option (Int32 × kgM) :=
    bnd (I0 1 14) (fun x1 => 
    ck (inb x1 10) (bnd (kgW I0 7 x1.toNatClampNeg p1) (fun I1 => 
    ck (inb x1 10) (bnd (kgW I1 8 x1.toNatClampNeg p2) (fun I2 => 
    ck (inb x1 10) (bnd (kgW I2 9 x1.toNatClampNeg p3) (fun I3 => 
    ck (inb x1 10) (bnd (kgW I3 10 x1.toNatClampNeg (20 : Int32)) (fun I4 => 
    ck (inb x1 10) (bnd (kgW I4 11 x1.toNatClampNeg (-1 : Int32)) (fun I5 => 
    ck (inb x1 10) (bnd (kgW I5 12 x1.toNatClampNeg (0 : Int32)) (fun I6 => 
    ck (inb x1 10) (bnd (kgW I6 13 x1.toNatClampNeg (1 : Int32)) (fun I7 => 
    ck (inb x1 10) (bnd (kgW I7 14 x1.toNatClampNeg (0 : Int32)) (fun I8 => 
    ck (inb x1 10) (bnd (kgW I8 15 x1.toNatClampNeg (0 : Int32)) (fun I9 => 
    bnd (kgW I9 1 14 ((I9 1 14) + (1 : Int32))) (fun I10 => 
    bnd (kgW I10 1 16 ((I10 1 16) + p3)) (fun I11 => 
    some (x1, I11))))))))))))))))))))))

def f_X3_barLid (p1 : Int32) (I0 : kgM) : Option (Int32 × kgM) :=
    ck (inb p1 10) (bnd (kgW I0 13 p1.toNatClampNeg (0 : Int32)) (fun I1 => 
    ck (inb p1 10) (bnd (kgW I1 14 p1.toNatClampNeg (1 : Int32)) (fun I2 => 
    ck (inb p1 10) (bnd (kgW I2 15 p1.toNatClampNeg (0 : Int32)) (fun I3 => 
    some ((0 : Int32), I3)))))))

def f_X3_heatUnder (p1 : Int32) (I0 : kgM) : Option (Int32 × kgM) :=
    ck (inb p1 10) (
    bnd (I0 11 p1.toNatClampNeg) (fun x1 => 
    (if x1 < 0 then
    some ((0 : Int32), I0)
    else
    (if (6 : Int32) ≤ x1 then
    some ((0 : Int32), I0)
    else
    ck (inb x1 6) (
    some (I0 6 x1.toNatClampNeg, I0))))))

def f_X3_boils (p1 : Int32) (I0 : kgM) : Option (Int32 × kgM) :=
    bndC (f_X3_heatUnder p1 I0) (fun x1 I1 => 
    (if x1 ≤ 0 then
    some ((0 : Int32), I1)
    else
    ck (inb p1 10) (
    (if (I1 10 p1.toNatClampNeg) = (100 : Int32) then
    some ((1 : Int32), I1)
    else
    some ((0 : Int32), I1)))))

def f_X3_changeTemperature (p1 : Int32) (I0 : kgM) : Option (Int32 × kgM) :=
    ck (inb p1 10) (
    (if (I0 11 p1.toNatClampNeg) = (-1 : Int32) then
    ck (inb p1 10) (
    bndC (f_J9_max_7cf53 (20 : Int32) ((I0 10 p1.toNatClampNeg) - (5 : Int32)) I0) (fun x3 I4 => 
    ck (inb p1 10) (bnd (kgW I4 10 p1.toNatClampNeg x3) (fun I5 => 
    some ((0 : Int32), I5)))))
    else
    ck (inb p1 10) (
    bndC (f_X3_heatUnder p1 I0) (fun x1 I1 => 
    bndC (f_J9_min_7cf53 (100 : Int32) ((I0 10 p1.toNatClampNeg) + ((5 : Int32) * x1)) I1) (fun x2 I2 => 
    ck (inb p1 10) (bnd (kgW I2 10 p1.toNatClampNeg x2) (fun I3 => 
    some ((0 : Int32), I3))))))))

def f_X3_boilDry (p1 : Int32) (I0 : kgM) : Option (Int32 × kgM) :=
    ck (inb p1 10) (
    bnd (I0 7 p1.toNatClampNeg) (fun x1 => 
    ck (inb p1 10) (bnd (kgW I0 11 p1.toNatClampNeg (-1 : Int32)) (fun I1 => 
    ck (inb p1 10) (bnd (kgW I1 12 p1.toNatClampNeg (6 : Int32)) (fun I2 => 
    ck (inb x1 4) (
    ck (inb x1 4) (bnd (kgW I2 3 x1.toNatClampNeg ((I2 3 x1.toNatClampNeg) - (2 : Int32))) (fun I3 => 
    ck (inb x1 4) (
    ck (inb x1 4) (bnd (kgW I3 4 x1.toNatClampNeg ((I3 4 x1.toNatClampNeg) + (1 : Int32))) (fun I4 => 
    some ((0 : Int32), I4)))))))))))))

def f_X3_passMinuteOver (p1 : Int32) (I0 : kgM) : Option (Int32 × kgM) :=
    bndC (f_X3_boils p1 I0) (fun x1 I1 => 
    (letJ (fun Ij39 =>
    (letJ (fun y0j57 =>
    (if y0j57 = 0 then
    ck (inb p1 10) (
    (if (Ij39 12 p1.toNatClampNeg) ≤ 0 then
    bndC (f_X3_changeTemperature p1 Ij39) (fun x2 I2 => 
    ck (isz y0j57) (some (y0j57, I2)))
    else
    ck (inb p1 10) (
    ck (inb p1 10) (bnd (kgW Ij39 12 p1.toNatClampNeg ((Ij39 12 p1.toNatClampNeg) - (1 : Int32))) (fun I3 => 
    bndC (f_X3_changeTemperature p1 I3) (fun x3 I4 => 
    ck (isz y0j57) (some (y0j57, I4))))))))
    else
    bndC (f_X3_boilDry p1 Ij39) (fun x4 I5 => 
    bndC (f_X3_changeTemperature p1 I5) (fun x5 I6 => 
    ck (isz y0j57) (some (y0j57, I6)))))) (fun (j57 : Int32 → Option (Int32 × kgM)) =>
    (if x1 = 0 then
    j57 (0 : Int32)
    else
    ck (inb p1 10) (
    (if (Ij39 9 p1.toNatClampNeg) = 0 then
    j57 (1 : Int32)
    else
    j57 (0 : Int32))))))) (fun (j39 : kgM → Option (Int32 × kgM)) =>
    (if x1 = 0 then
    j39 I1
    else
    ck (inb p1 10) (
    (if (I1 9 p1.toNatClampNeg) ≤ 0 then
    j39 I1
    else
    ck (inb p1 10) (
    ck (inb p1 10) (bnd (kgW I1 9 p1.toNatClampNeg ((I1 9 p1.toNatClampNeg) - (1 : Int32))) (fun I7 => 
    bnd (kgW I7 1 17 ((I7 1 17) + (1 : Int32))) (fun I8 => 
    j39 I8))))))))))

def f_X3_passMinute_L4  (K : Int32 → kgM → Option (Int32 × kgM)) : Nat → Int32 → Int32 → kgM → Option (Int32 × kgM)
  | 0, _, _, _ => none
  | q + 1, x1h4, x2h4, Ih4 =>
    (if (Ih4 1 14) ≤ x2h4 then
    K x1h4 Ih4
    else
    bndC (f_X3_passMinuteOver x2h4 Ih4) (fun x1 I1 => 
    (if x1 = 0 then
    bnd (x2h4 + (1 : Int32)) (fun x2 => 
    f_X3_passMinute_L4 K q x1h4 x2 I1)
    else
    bnd (x1h4 + (1 : Int32)) (fun x3 => 
    bnd (x2h4 + (1 : Int32)) (fun x4 => 
    f_X3_passMinute_L4 K q x3 x4 I1)))))

def f_X3_passMinute  (I0 : kgM) : Option (Int32 × kgM) :=
    f_X3_passMinute_L4 (fun x5 I2 =>
    bnd (kgW I2 1 15 ((I2 1 15) + (1 : Int32))) (fun I3 => 
    some (x5, I3))) 200 (0 : Int32) (0 : Int32) I0

def f_X3_whistlers_L4  (K : Int32 → kgM → Option (Int32 × kgM)) : Nat → Int32 → Int32 → kgM → Option (Int32 × kgM)
  | 0, _, _, _ => none
  | q + 1, x1h4, x2h4, Ih4 =>
    (if (Ih4 1 14) ≤ x2h4 then
    K x1h4 Ih4
    else
    bndC (f_X3_boils x2h4 Ih4) (fun x1 I1 => 
    (if x1 = 0 then
    bnd (x2h4 + (1 : Int32)) (fun x2 => 
    f_X3_whistlers_L4 K q x1h4 x2 I1)
    else
    ck (inb x2h4 10) (
    (if (I1 9 x2h4.toNatClampNeg) ≤ 0 then
    bnd (x2h4 + (1 : Int32)) (fun x3 => 
    f_X3_whistlers_L4 K q x1h4 x3 I1)
    else
    ck (inb x2h4 10) (
    (if (I1 13 x2h4.toNatClampNeg) = (1 : Int32) then
    bnd (x1h4 ||| ((1 : Int32) <<< (x2h4 &&& 31))) (fun x5 => 
    bnd (x2h4 + (1 : Int32)) (fun x6 => 
    f_X3_whistlers_L4 K q x5 x6 I1))
    else
    bnd (x2h4 + (1 : Int32)) (fun x4 => 
    f_X3_whistlers_L4 K q x1h4 x4 I1))))))))

def f_X3_whistlers  (I0 : kgM) : Option (Int32 × kgM) :=
    f_X3_whistlers_L4 (fun x7 I2 =>
    some (x7, I2)) 200 (0 : Int32) (0 : Int32) I0

def f_X4_isIn (p1 : Int32) (p2 : Int32) (I0 : kgM) : Option (Int32 × kgM) :=
    (if ((p1 >>> (p2 &&& 31)) &&& (1 : Int32)) = (1 : Int32) then
    some ((1 : Int32), I0)
    else
    some ((0 : Int32), I0))

def f_J9_abs_0f7a4 (p1 : Int32) (I0 : kgM) : Option (Int32 × kgM) :=
    (if 0 ≤ p1 then
    some (p1, I0)
    else
    some (-p1, I0))

def f_X4_soundOf (p1 : Int32) (p2 : Int32) (I0 : kgM) : Option (Int32 × kgM) :=
    bndC (f_J9_abs_0f7a4 (p1 - p2) I0) (fun x1 I1 => 
    (if x1 < 0 then
    some ((0 : Int32), I1)
    else
    (if (12 : Int32) ≤ x1 then
    some ((0 : Int32), I1)
    else
    ck (inb x1 12) (
    some (kg_snd x1.toNatClampNeg, I1)))))

def f_J7_fill_53178_14_L5 (a1 : Int32) (a3 : Int32) (K : kgM → Option (Int32 × kgM)) : Nat → Int32 → kgM → Option (Int32 × kgM)
  | 0, _, _ => none
  | q + 1, x2h5, Ih5 =>
    (if a3 ≤ x2h5 then
    K Ih5
    else
    ck (inb x2h5 10) (bnd (kgW Ih5 14 x2h5.toNatClampNeg a1) (fun I1 => 
    bnd (x2h5 + (1 : Int32)) (fun x2 => 
    f_J7_fill_53178_14_L5 a1 a3 K q x2 I1))))

def f_J7_fill_53178_14 (p2 : Int32) (I0 : kgM) : Option (Int32 × kgM) :=
    bnd (Int32.ofNat 10) (fun x1 => 
    f_J7_fill_53178_14_L5 p2 x1 (fun I2 =>
    some ((0 : Int32), I2)) 200 (0 : Int32) I0)

def f_X3_holdHarmony_L19 (a1 : Int32) (a2 : Int32) (K : kgM → Option (Int32 × kgM)) : Nat → Int32 → kgM → Option (Int32 × kgM)
  | 0, _, _ => none
  | q + 1, x3h19, Ih19 =>
    (if (Ih19 1 14) ≤ x3h19 then
    K Ih19
    else
    bndC (f_X4_isIn a1 a2 Ih19) (fun x3 I2 => 
    (if x3 = 0 then
    bnd (x3h19 + (1 : Int32)) (fun x4 => 
    f_X3_holdHarmony_L19 a1 a2 K q x4 I2)
    else
    bndC (f_X4_isIn a1 x3h19 I2) (fun x5 I3 => 
    (if x5 = 0 then
    bnd (x3h19 + (1 : Int32)) (fun x6 => 
    f_X3_holdHarmony_L19 a1 a2 K q x6 I3)
    else
    ck (inb a2 10) (
    ck (inb x3h19 10) (
    bndC (f_X4_soundOf (I3 8 a2.toNatClampNeg) (I3 8 x3h19.toNatClampNeg) I3) (fun x7 I4 => 
    ck (inb a2 10) (
    ck (inb (I4 7 a2.toNatClampNeg) 4) (
    ck (inb (I4 7 a2.toNatClampNeg) 4) (bnd (kgW I4 3 (I4 7 a2.toNatClampNeg).toNatClampNeg ((I4 3 (I4 7 a2.toNatClampNeg).toNatClampNeg) + x7)) (fun I5 => 
    ck (inb x3h19 10) (
    ck (inb (I5 7 x3h19.toNatClampNeg) 4) (
    ck (inb (I5 7 x3h19.toNatClampNeg) 4) (bnd (kgW I5 3 (I5 7 x3h19.toNatClampNeg).toNatClampNeg ((I5 3 (I5 7 x3h19.toNatClampNeg).toNatClampNeg) + x7)) (fun I6 => 
    bnd (x3h19 + (1 : Int32)) (fun x8 => 
    f_X3_holdHarmony_L19 a1 a2 K q x8 I6)))))))))))))))))

def f_X3_holdHarmony_L7 (a1 : Int32) (K : kgM → Option (Int32 × kgM)) : Nat → Int32 → kgM → Option (Int32 × kgM)
  | 0, _, _ => none
  | q + 1, x2h7, Ih7 =>
    (if (Ih7 1 14) ≤ x2h7 then
    K Ih7
    else
    bnd (x2h7 + (1 : Int32)) (fun x2 => 
    f_X3_holdHarmony_L19 a1 x2h7 (fun I7 =>
    bnd (x2h7 + (1 : Int32)) (fun x9 => 
    f_X3_holdHarmony_L7 a1 K q x9 I7)) 200 x2 Ih7))

def f_X3_holdHarmony  (I0 : kgM) : Option (Int32 × kgM) :=
    bndC (f_X3_whistlers I0) (fun x1 I1 => 
    f_X3_holdHarmony_L7 x1 (fun I8 =>
    bndC (f_J7_fill_53178_14 (0 : Int32) I8) (fun x10 I9 => 
    some ((0 : Int32), I9))) 200 (0 : Int32) I1)

def f_X3_whistles (p1 : Int32) (I0 : kgM) : Option (Int32 × kgM) :=
    bndC (f_X3_whistlers I0) (fun x1 I1 => 
    bndC (f_X4_isIn x1 p1 I1) (fun x2 I2 => 
    ck (isz x2) (some (x2, I2))))

def f_X3_whistledPitches_L9 (a1 : Int32) (K : Int32 → kgM → Option (Int32 × kgM)) : Nat → Int32 → Int32 → kgM → Option (Int32 × kgM)
  | 0, _, _, _ => none
  | q + 1, x2h9, x3h9, Ih9 =>
    (if (Ih9 1 14) ≤ x3h9 then
    K x2h9 Ih9
    else
    bndC (f_X4_isIn a1 x3h9 Ih9) (fun x2 I2 => 
    (if x2 = 0 then
    bnd (x3h9 + (1 : Int32)) (fun x3 => 
    f_X3_whistledPitches_L9 a1 K q x2h9 x3 I2)
    else
    ck (inb x3h9 10) (
    bnd (x2h9 ||| ((1 : Int32) <<< ((I2 8 x3h9.toNatClampNeg) &&& 31))) (fun x4 => 
    bnd (x3h9 + (1 : Int32)) (fun x5 => 
    f_X3_whistledPitches_L9 a1 K q x4 x5 I2))))))

def f_X3_whistledPitches  (I0 : kgM) : Option (Int32 × kgM) :=
    bndC (f_X3_whistlers I0) (fun x1 I1 => 
    f_X3_whistledPitches_L9 x1 (fun x6 I3 =>
    some (x6, I3)) 200 (0 : Int32) (0 : Int32) I1)

def f_X3_kettleOn_L2 (a1 : Int32) (K : kgM → Option (Int32 × kgM)) : Nat → Int32 → kgM → Option (Int32 × kgM)
  | 0, _, _ => none
  | q + 1, x2h2, Ih2 =>
    (if (Ih2 1 14) ≤ x2h2 then
    K Ih2
    else
    ck (inb x2h2 10) (
    (if (Ih2 11 x2h2.toNatClampNeg) = a1 then
    some (x2h2, Ih2)
    else
    bnd (x2h2 + (1 : Int32)) (fun x1 => 
    f_X3_kettleOn_L2 a1 K q x1 Ih2))))

def f_X3_kettleOn (p1 : Int32) (I0 : kgM) : Option (Int32 × kgM) :=
    f_X3_kettleOn_L2 p1 (fun I1 =>
    some ((-1 : Int32), I1)) 200 (0 : Int32) I0

def f_X3_stoveWithPitch_L2 (a1 : Int32) (K : kgM → Option (Int32 × kgM)) : Nat → Int32 → kgM → Option (Int32 × kgM)
  | 0, _, _ => none
  | q + 1, x2h2, Ih2 =>
    (if (Ih2 1 14) ≤ x2h2 then
    K Ih2
    else
    ck (inb x2h2 10) (
    (if (Ih2 8 x2h2.toNatClampNeg) = a1 then
    ck (inb x2h2 10) (
    (if (Ih2 11 x2h2.toNatClampNeg) = (-1 : Int32) then
    bnd (x2h2 + (1 : Int32)) (fun x2 => 
    f_X3_stoveWithPitch_L2 a1 K q x2 Ih2)
    else
    ck (inb x2h2 10) (
    some (Ih2 11 x2h2.toNatClampNeg, Ih2))))
    else
    bnd (x2h2 + (1 : Int32)) (fun x1 => 
    f_X3_stoveWithPitch_L2 a1 K q x1 Ih2))))

def f_X3_stoveWithPitch (p1 : Int32) (I0 : kgM) : Option (Int32 × kgM) :=
    f_X3_stoveWithPitch_L2 p1 (fun I1 =>
    some ((-1 : Int32), I1)) 200 (0 : Int32) I0

def f_X3_hasPitchOnTwoStoves_L4  (K : kgM → Option (Int32 × kgM)) : Nat → Int32 → Int32 → kgM → Option (Int32 × kgM)
  | 0, _, _, _ => none
  | q + 1, x1h4, x2h4, Ih4 =>
    (if (Ih4 1 14) ≤ x2h4 then
    K Ih4
    else
    ck (inb x2h4 10) (
    (if (Ih4 11 x2h4.toNatClampNeg) = (-1 : Int32) then
    bnd (x2h4 + (1 : Int32)) (fun x1 => 
    f_X3_hasPitchOnTwoStoves_L4 K q x1h4 x1 Ih4)
    else
    ck (inb x2h4 10) (
    bndC (f_X4_isIn x1h4 (Ih4 8 x2h4.toNatClampNeg) Ih4) (fun x2 I1 => 
    (if x2 = 0 then
    ck (inb x2h4 10) (
    bnd (x1h4 ||| ((1 : Int32) <<< ((I1 8 x2h4.toNatClampNeg) &&& 31))) (fun x3 => 
    bnd (x2h4 + (1 : Int32)) (fun x4 => 
    f_X3_hasPitchOnTwoStoves_L4 K q x3 x4 I1)))
    else
    some ((1 : Int32), I1)))))))

def f_X3_hasPitchOnTwoStoves  (I0 : kgM) : Option (Int32 × kgM) :=
    f_X3_hasPitchOnTwoStoves_L4 (fun I2 =>
    some ((0 : Int32), I2)) 200 (0 : Int32) (0 : Int32) I0

def f_X3_countPitchesOf_L4 (a1 : Int32) (K : Int32 → kgM → Option (Int32 × kgM)) : Nat → Int32 → Int32 → kgM → Option (Int32 × kgM)
  | 0, _, _, _ => none
  | q + 1, x2h4, x3h4, Ih4 =>
    (if (12 : Int32) < x3h4 then
    K x2h4 Ih4
    else
    ck (inb x3h4 13) (
    (if (Ih4 2 x3h4.toNatClampNeg) = a1 then
    bnd (x2h4 + (1 : Int32)) (fun x2 => 
    bnd (x3h4 + (1 : Int32)) (fun x3 => 
    f_X3_countPitchesOf_L4 a1 K q x2 x3 Ih4))
    else
    bnd (x3h4 + (1 : Int32)) (fun x1 => 
    f_X3_countPitchesOf_L4 a1 K q x2h4 x1 Ih4))))

def f_X3_countPitchesOf (p1 : Int32) (I0 : kgM) : Option (Int32 × kgM) :=
    f_X3_countPitchesOf_L4 p1 (fun x4 I1 =>
    some (x4, I1)) 200 (0 : Int32) (1 : Int32) I0

def f_X3_countKettlesOf_L4 (a1 : Int32) (K : Int32 → kgM → Option (Int32 × kgM)) : Nat → Int32 → Int32 → kgM → Option (Int32 × kgM)
  | 0, _, _, _ => none
  | q + 1, x2h4, x3h4, Ih4 =>
    (if (Ih4 1 14) ≤ x3h4 then
    K x2h4 Ih4
    else
    ck (inb x3h4 10) (
    (if (Ih4 7 x3h4.toNatClampNeg) = a1 then
    bnd (x2h4 + (1 : Int32)) (fun x2 => 
    bnd (x3h4 + (1 : Int32)) (fun x3 => 
    f_X3_countKettlesOf_L4 a1 K q x2 x3 Ih4))
    else
    bnd (x3h4 + (1 : Int32)) (fun x1 => 
    f_X3_countKettlesOf_L4 a1 K q x2h4 x1 Ih4))))

def f_X3_countKettlesOf (p1 : Int32) (I0 : kgM) : Option (Int32 × kgM) :=
    f_X3_countKettlesOf_L4 p1 (fun x4 I1 =>
    some (x4, I1)) 200 (0 : Int32) (0 : Int32) I0

def f_X3_countWhistlersOf_L10 (a1 : Int32) (a2 : Int32) (K : Int32 → kgM → Option (Int32 × kgM)) : Nat → Int32 → Int32 → kgM → Option (Int32 × kgM)
  | 0, _, _, _ => none
  | q + 1, x3h10, x4h10, Ih10 =>
    (if (Ih10 1 14) ≤ x4h10 then
    K x3h10 Ih10
    else
    ck (inb x4h10 10) (
    (if (Ih10 7 x4h10.toNatClampNeg) = a1 then
    bndC (f_X4_isIn a2 x4h10 Ih10) (fun x3 I2 => 
    (if x3 = 0 then
    bnd (x4h10 + (1 : Int32)) (fun x4 => 
    f_X3_countWhistlersOf_L10 a1 a2 K q x3h10 x4 I2)
    else
    bnd (x3h10 + (1 : Int32)) (fun x5 => 
    bnd (x4h10 + (1 : Int32)) (fun x6 => 
    f_X3_countWhistlersOf_L10 a1 a2 K q x5 x6 I2))))
    else
    bnd (x4h10 + (1 : Int32)) (fun x2 => 
    f_X3_countWhistlersOf_L10 a1 a2 K q x3h10 x2 Ih10))))

def f_X3_countWhistlersOf (p1 : Int32) (I0 : kgM) : Option (Int32 × kgM) :=
    bndC (f_X3_whistlers I0) (fun x1 I1 => 
    f_X3_countWhistlersOf_L10 p1 x1 (fun x7 I3 =>
    some (x7, I3)) 200 (0 : Int32) (0 : Int32) I1)

def f_X3_countOnStoves_L4  (K : Int32 → kgM → Option (Int32 × kgM)) : Nat → Int32 → Int32 → kgM → Option (Int32 × kgM)
  | 0, _, _, _ => none
  | q + 1, x1h4, x2h4, Ih4 =>
    (if (Ih4 1 14) ≤ x2h4 then
    K x1h4 Ih4
    else
    ck (inb x2h4 10) (
    (if (Ih4 11 x2h4.toNatClampNeg) = (-1 : Int32) then
    bnd (x2h4 + (1 : Int32)) (fun x1 => 
    f_X3_countOnStoves_L4 K q x1h4 x1 Ih4)
    else
    bnd (x1h4 + (1 : Int32)) (fun x2 => 
    bnd (x2h4 + (1 : Int32)) (fun x3 => 
    f_X3_countOnStoves_L4 K q x2 x3 Ih4)))))

def f_X3_countOnStoves  (I0 : kgM) : Option (Int32 × kgM) :=
    f_X3_countOnStoves_L4 (fun x4 I1 =>
    some (x4, I1)) 200 (0 : Int32) (0 : Int32) I0

def f_X3_countBoiling_L4  (K : Int32 → kgM → Option (Int32 × kgM)) : Nat → Int32 → Int32 → kgM → Option (Int32 × kgM)
  | 0, _, _, _ => none
  | q + 1, x1h4, x2h4, Ih4 =>
    (if (Ih4 1 14) ≤ x2h4 then
    K x1h4 Ih4
    else
    bndC (f_X3_boils x2h4 Ih4) (fun x1 I1 => 
    (if x1 = 0 then
    bnd (x2h4 + (1 : Int32)) (fun x2 => 
    f_X3_countBoiling_L4 K q x1h4 x2 I1)
    else
    bnd (x1h4 + (1 : Int32)) (fun x3 => 
    bnd (x2h4 + (1 : Int32)) (fun x4 => 
    f_X3_countBoiling_L4 K q x3 x4 I1)))))

def f_X3_countBoiling  (I0 : kgM) : Option (Int32 × kgM) :=
    f_X3_countBoiling_L4 (fun x5 I2 =>
    some (x5, I2)) 200 (0 : Int32) (0 : Int32) I0

def f_X3_countLidsOn_L4  (K : Int32 → kgM → Option (Int32 × kgM)) : Nat → Int32 → Int32 → kgM → Option (Int32 × kgM)
  | 0, _, _, _ => none
  | q + 1, x1h4, x2h4, Ih4 =>
    (if (Ih4 1 14) ≤ x2h4 then
    K x1h4 Ih4
    else
    ck (inb x2h4 10) (
    bnd (x1h4 + (Ih4 13 x2h4.toNatClampNeg)) (fun x1 => 
    bnd (x2h4 + (1 : Int32)) (fun x2 => 
    f_X3_countLidsOn_L4 K q x1 x2 Ih4))))

def f_X3_countLidsOn  (I0 : kgM) : Option (Int32 × kgM) :=
    f_X3_countLidsOn_L4 (fun x3 I1 =>
    some (x3, I1)) 200 (0 : Int32) (0 : Int32) I0

def f_X3_countLidsBarred_L4  (K : Int32 → kgM → Option (Int32 × kgM)) : Nat → Int32 → Int32 → kgM → Option (Int32 × kgM)
  | 0, _, _, _ => none
  | q + 1, x1h4, x2h4, Ih4 =>
    (if (Ih4 1 14) ≤ x2h4 then
    K x1h4 Ih4
    else
    ck (inb x2h4 10) (
    bnd (x1h4 + (Ih4 14 x2h4.toNatClampNeg)) (fun x1 => 
    bnd (x2h4 + (1 : Int32)) (fun x2 => 
    f_X3_countLidsBarred_L4 K q x1 x2 Ih4))))

def f_X3_countLidsBarred  (I0 : kgM) : Option (Int32 × kgM) :=
    f_X3_countLidsBarred_L4 (fun x3 I1 =>
    some (x3, I1)) 200 (0 : Int32) (0 : Int32) I0

def f_X3_sumWater_L4  (K : Int32 → kgM → Option (Int32 × kgM)) : Nat → Int32 → Int32 → kgM → Option (Int32 × kgM)
  | 0, _, _, _ => none
  | q + 1, x1h4, x2h4, Ih4 =>
    (if (Ih4 1 14) ≤ x2h4 then
    K x1h4 Ih4
    else
    ck (inb x2h4 10) (
    bnd (x1h4 + (Ih4 9 x2h4.toNatClampNeg)) (fun x1 => 
    bnd (x2h4 + (1 : Int32)) (fun x2 => 
    f_X3_sumWater_L4 K q x1 x2 Ih4))))

def f_X3_sumWater  (I0 : kgM) : Option (Int32 × kgM) :=
    f_X3_sumWater_L4 (fun x3 I1 =>
    some (x3, I1)) 200 (0 : Int32) (0 : Int32) I0

def f_X4_isMember (p1 : Int32) (I0 : kgM) : Option (Int32 × kgM) :=
    (if p1 < 0 then
    some ((0 : Int32), I0)
    else
    (if (4 : Int32) ≤ p1 then
    some ((0 : Int32), I0)
    else
    some ((1 : Int32), I0)))

def f_X4_isPitch (p1 : Int32) (I0 : kgM) : Option (Int32 × kgM) :=
    (if p1 < (1 : Int32) then
    some ((0 : Int32), I0)
    else
    (if (12 : Int32) < p1 then
    some ((0 : Int32), I0)
    else
    some ((1 : Int32), I0)))

def f_X4_refuse (p1 : Int32) (p2 : Int32) (I0 : kgM) : Option (Int32 × kgM) :=
    bnd (kgW I0 168 2 (0 : Int32)) (fun I1 => 
    bndC (f_X2_putAhead p1 p2 I1) (fun x1 I2 => 
    some ((-1014 : Int32), I2)))

def f_X4_takePitch (p1 : Int32) (p2 : Int32) (I0 : kgM) : Option (Int32 × kgM) :=
    bndC (f_X4_isMember p1 I0) (fun x1 I1 => 
    (if x1 = 0 then
    some ((-1011 : Int32), I1)
    else
    bndC (f_X4_isPitch p2 I1) (fun x2 I2 => 
    (if x2 = 0 then
    some ((-1012 : Int32), I2)
    else
    ck (inb p2 13) (
    (if (I2 2 p2.toNatClampNeg) = (-1 : Int32) then
    bndC (f_X3_countPitchesOf p1 I2) (fun x3 I3 => 
    (if x3 < (4 : Int32) then
    ck (inb p2 13) (bnd (kgW I3 2 p2.toNatClampNeg p1) (fun I4 => 
    some (x3 + (1 : Int32), I4)))
    else
    bndC (f_X4_refuse (1 : Int32) x3 I3) (fun x4 I5 => 
    some (x4, I5))))
    else
    ck (inb p2 13) (
    bndC (f_X4_refuse (2 : Int32) (I2 2 p2.toNatClampNeg) I2) (fun x5 I6 => 
    some (x5, I6)))))))))

def f_X4_settle (p1 : Int32) (I0 : kgM) : Option (Int32 × kgM) :=
    (if p1 < 0 then
    some (p1, I0)
    else
    bndC (f_X0_keepBegun I0) (fun x1 I1 => 
    some (p1, I1)))

def f_X4_own (p1 : Int32) (p2 : Int32) (I0 : kgM) : Option (Int32 × kgM) :=
    bndC (f_X0_begin I0) (fun x1 I1 => 
    bndC (f_X4_takePitch p1 p2 I1) (fun x2 I2 => 
    bndC (f_X4_settle x2 I2) (fun x3 I3 => 
    some (x3, I3))))

def f_X4_orNothing (p1 : Int32) (I0 : kgM) : Option (Int32 × kgM) :=
    (if p1 = (-1 : Int32) then
    some ((-1015 : Int32), I0)
    else
    some (p1, I0))

def f_X4_owner (p1 : Int32) (I0 : kgM) : Option (Int32 × kgM) :=
    bndC (f_X4_isPitch p1 I0) (fun x1 I1 => 
    (if x1 = 0 then
    some ((-1012 : Int32), I1)
    else
    ck (inb p1 13) (
    bndC (f_X4_orNothing (I1 2 p1.toNatClampNeg) I1) (fun x2 I2 => 
    some (x2, I2)))))

def f_X4_bringKettle (p1 : Int32) (p2 : Int32) (p3 : Int32) (I0 : kgM) : Option (Int32 × kgM) :=
    bndC (f_X4_isMember p1 I0) (fun x1 I1 => 
    (if x1 = 0 then
    some ((-1011 : Int32), I1)
    else
    bndC (f_X4_isPitch p2 I1) (fun x2 I2 => 
    (if x2 = 0 then
    some ((-1012 : Int32), I2)
    else
    (if p3 < 0 then
    some ((-1012 : Int32), I2)
    else
    (if p3 ≤ (20 : Int32) then
    ck (inb p2 13) (
    (if (I2 2 p2.toNatClampNeg) = p1 then
    (if (I2 1 14) < (10 : Int32) then
    bndC (f_X3_addKettle p1 p2 p3 I2) (fun x3 I3 => 
    some (x3, I3))
    else
    bndC (f_X4_refuse (1 : Int32) (I2 1 14) I2) (fun x4 I4 => 
    some (x4, I4)))
    else
    ck (inb p2 13) (
    bndC (f_X4_refuse (3 : Int32) (I2 2 p2.toNatClampNeg) I2) (fun x5 I5 => 
    some (x5, I5)))))
    else
    some ((-1012 : Int32), I2)))))))

def f_X4_kettle (p1 : Int32) (p2 : Int32) (p3 : Int32) (I0 : kgM) : Option (Int32 × kgM) :=
    bndC (f_X0_begin I0) (fun x1 I1 => 
    bndC (f_X4_bringKettle p1 p2 p3 I1) (fun x2 I2 => 
    bndC (f_X4_settle x2 I2) (fun x3 I3 => 
    some (x3, I3))))

def f_X4_isKettle (p1 : Int32) (I0 : kgM) : Option (Int32 × kgM) :=
    (if p1 < 0 then
    some ((0 : Int32), I0)
    else
    (if (I0 1 14) ≤ p1 then
    some ((0 : Int32), I0)
    else
    some ((1 : Int32), I0)))

def f_X4_pourWater (p1 : Int32) (p2 : Int32) (I0 : kgM) : Option (Int32 × kgM) :=
    bndC (f_X4_isKettle p1 I0) (fun x1 I1 => 
    (if x1 = 0 then
    some ((-1011 : Int32), I1)
    else
    (if p2 < (1 : Int32) then
    some ((-1012 : Int32), I1)
    else
    (if p2 ≤ (20 : Int32) then
    ck (inb p1 10) (
    bnd ((I1 9 p1.toNatClampNeg) + p2) (fun x2 => 
    (if x2 ≤ (20 : Int32) then
    ck (inb p1 10) (bnd (kgW I1 9 p1.toNatClampNeg x2) (fun I2 => 
    bnd (kgW I2 1 16 ((I2 1 16) + p2)) (fun I3 => 
    some (x2, I3))))
    else
    bndC (f_X4_refuse (11 : Int32) x2 I1) (fun x3 I4 => 
    some (x3, I4)))))
    else
    some ((-1012 : Int32), I1)))))

def f_X4_fill (p1 : Int32) (p2 : Int32) (I0 : kgM) : Option (Int32 × kgM) :=
    bndC (f_X0_begin I0) (fun x1 I1 => 
    bndC (f_X4_pourWater p1 p2 I1) (fun x2 I2 => 
    bndC (f_X4_settle x2 I2) (fun x3 I3 => 
    some (x3, I3))))

def f_J6_bitCount_0f7a4 (p1 : Int32) (I0 : kgM) : Option (Int32 × kgM) :=
    bnd (p1 - (((p1.toUInt32 >>> ((1 : Int32).toUInt32 &&& Int32.toUInt32 31)).toInt32) &&& (1431655765 : Int32))) (fun x1 => 
    bnd ((x1 &&& (858993459 : Int32)) + (((x1.toUInt32 >>> ((2 : Int32).toUInt32 &&& Int32.toUInt32 31)).toInt32) &&& (858993459 : Int32))) (fun x2 => 
    bnd ((x2 + ((x2.toUInt32 >>> ((4 : Int32).toUInt32 &&& Int32.toUInt32 31)).toInt32)) &&& (252645135 : Int32)) (fun x3 => 
    bnd (x3 + ((x3.toUInt32 >>> ((8 : Int32).toUInt32 &&& Int32.toUInt32 31)).toInt32)) (fun x4 => 
    bnd (x4 + ((x4.toUInt32 >>> ((16 : Int32).toUInt32 &&& Int32.toUInt32 31)).toInt32)) (fun x5 => 
    some (x5 &&& (63 : Int32), I0))))))

def f_X4_kettleOf (p1 : Int32) (p2 : Int32) (I0 : kgM) : Option (Int32 × kgM) :=
    bndC (f_X4_isKettle p1 I0) (fun x1 I1 => 
    (if x1 = 0 then
    some ((-1011 : Int32), I1)
    else
    (if p2.toInt = 0 then
    ck (inb p1 10) (
    some (I1 7 p1.toNatClampNeg, I1))
    else
    (if p2.toInt = 1 then
    ck (inb p1 10) (
    some (I1 8 p1.toNatClampNeg, I1))
    else
    (if p2.toInt = 2 then
    ck (inb p1 10) (
    some (I1 9 p1.toNatClampNeg, I1))
    else
    (if p2.toInt = 3 then
    ck (inb p1 10) (
    some (I1 10 p1.toNatClampNeg, I1))
    else
    (if p2.toInt = 4 then
    ck (inb p1 10) (
    some (I1 13 p1.toNatClampNeg, I1))
    else
    (if p2.toInt = 5 then
    ck (inb p1 10) (
    bndC (f_X4_orNothing (I1 11 p1.toNatClampNeg) I1) (fun x2 I2 => 
    some (x2, I2)))
    else
    (if p2.toInt = 6 then
    bndC (f_X3_boils p1 I1) (fun x3 I3 => 
    (if x3 = 0 then
    some ((0 : Int32), I3)
    else
    some ((1 : Int32), I3)))
    else
    (if p2.toInt = 7 then
    bndC (f_X3_whistles p1 I1) (fun x4 I4 => 
    (if x4 = 0 then
    some ((0 : Int32), I4)
    else
    some ((1 : Int32), I4)))
    else
    (if p2.toInt = 8 then
    ck (inb p1 10) (
    some (I1 12 p1.toNatClampNeg, I1))
    else
    (if p2.toInt = 9 then
    ck (inb p1 10) (
    bndC (f_J6_bitCount_0f7a4 (I1 15 p1.toNatClampNeg) I1) (fun x5 I5 => 
    some (x5, I5)))
    else
    some ((-1012 : Int32), I1)))))))))))))

def f_X4_isStove (p1 : Int32) (I0 : kgM) : Option (Int32 × kgM) :=
    (if p1 < 0 then
    some ((0 : Int32), I0)
    else
    (if (6 : Int32) ≤ p1 then
    some ((0 : Int32), I0)
    else
    some ((1 : Int32), I0)))

def f_X4_refuseStove (p1 : Int32) (p2 : Int32) (p3 : Int32) (I0 : kgM) : Option (Int32 × kgM) :=
    bndC (f_X4_refuse p2 p3 I0) (fun x1 I1 => 
    bndC (f_X2_putAhead (4 : Int32) p1 I1) (fun x2 I2 => 
    some ((-1014 : Int32), I2)))

def f_X4_putOnStove (p1 : Int32) (p2 : Int32) (I0 : kgM) : Option (Int32 × kgM) :=
    bndC (f_X4_isKettle p1 I0) (fun x1 I1 => 
    (if x1 = 0 then
    some ((-1011 : Int32), I1)
    else
    bndC (f_X4_isStove p2 I1) (fun x2 I2 => 
    (if x2 = 0 then
    some ((-1011 : Int32), I2)
    else
    ck (inb p1 10) (
    (if (I2 11 p1.toNatClampNeg) = (-1 : Int32) then
    bndC (f_X3_kettleOn p2 I2) (fun x3 I3 => 
    (if x3 = (-1 : Int32) then
    ck (inb p1 10) (
    bndC (f_X3_stoveWithPitch (I3 8 p1.toNatClampNeg) I3) (fun x4 I4 => 
    (if x4 = (-1 : Int32) then
    ck (inb p1 10) (
    (if (I4 12 p1.toNatClampNeg) ≤ 0 then
    ck (inb p1 10) (bnd (kgW I4 11 p1.toNatClampNeg p2) (fun I5 => 
    bndC (f_X3_countOnStoves I5) (fun x5 I6 => 
    some (x5, I6))))
    else
    ck (inb p1 10) (
    bndC (f_X4_refuseStove p1 (8 : Int32) (I4 12 p1.toNatClampNeg) I4) (fun x6 I7 => 
    some (x6, I7)))))
    else
    bndC (f_X4_refuseStove p1 (7 : Int32) x4 I4) (fun x7 I8 => 
    some (x7, I8)))))
    else
    bndC (f_X4_refuseStove p1 (6 : Int32) x3 I3) (fun x8 I9 => 
    some (x8, I9))))
    else
    ck (inb p1 10) (
    bndC (f_X4_refuseStove p1 (5 : Int32) (I2 11 p1.toNatClampNeg) I2) (fun x9 I10 => 
    some (x9, I10)))))))))

def f_X4_set (p1 : Int32) (p2 : Int32) (I0 : kgM) : Option (Int32 × kgM) :=
    bndC (f_X0_begin I0) (fun x1 I1 => 
    bndC (f_X4_putOnStove p1 p2 I1) (fun x2 I2 => 
    bndC (f_X4_settle x2 I2) (fun x3 I3 => 
    some (x3, I3))))

def f_X4_takeOffStove (p1 : Int32) (I0 : kgM) : Option (Int32 × kgM) :=
    bndC (f_X4_isKettle p1 I0) (fun x1 I1 => 
    (if x1 = 0 then
    some ((-1011 : Int32), I1)
    else
    ck (inb p1 10) (
    bnd (I1 11 p1.toNatClampNeg) (fun x2 => 
    (if x2 = (-1 : Int32) then
    bndC (f_X3_countOnStoves I1) (fun x3 I3 => 
    bndC (f_X4_refuse (10 : Int32) x3 I3) (fun x4 I4 => 
    some (x4, I4)))
    else
    ck (inb p1 10) (bnd (kgW I1 11 p1.toNatClampNeg (-1 : Int32)) (fun I2 => 
    some (x2, I2))))))))

def f_X4_off (p1 : Int32) (I0 : kgM) : Option (Int32 × kgM) :=
    bndC (f_X0_begin I0) (fun x1 I1 => 
    bndC (f_X4_takeOffStove p1 I1) (fun x2 I2 => 
    bndC (f_X4_settle x2 I2) (fun x3 I3 => 
    some (x3, I3))))

def f_X4_turnStove (p1 : Int32) (p2 : Int32) (I0 : kgM) : Option (Int32 × kgM) :=
    bndC (f_X4_isStove p1 I0) (fun x1 I1 => 
    (if x1 = 0 then
    some ((-1011 : Int32), I1)
    else
    (if p2 < 0 then
    some ((-1012 : Int32), I1)
    else
    (if p2 ≤ (5 : Int32) then
    ck (inb p1 6) (
    bnd (I1 6 p1.toNatClampNeg) (fun x2 => 
    (if x2 = p2 then
    bndC (f_X4_refuse (9 : Int32) p2 I1) (fun x3 I3 => 
    some (x3, I3))
    else
    ck (inb p1 6) (bnd (kgW I1 6 p1.toNatClampNeg p2) (fun I2 => 
    some (x2, I2))))))
    else
    some ((-1012 : Int32), I1)))))

def f_X4_heat (p1 : Int32) (p2 : Int32) (I0 : kgM) : Option (Int32 × kgM) :=
    bndC (f_X0_begin I0) (fun x1 I1 => 
    bndC (f_X4_turnStove p1 p2 I1) (fun x2 I2 => 
    bndC (f_X4_settle x2 I2) (fun x3 I3 => 
    some (x3, I3))))

def f_X4_moveLid (p1 : Int32) (p2 : Int32) (I0 : kgM) : Option (Int32 × kgM) :=
    bndC (f_X4_isKettle p1 I0) (fun x1 I1 => 
    (if x1 = 0 then
    some ((-1011 : Int32), I1)
    else
    (letJ (
    ck (inb p1 10) (
    (if (I1 13 p1.toNatClampNeg) = p2 then
    bndC (f_X4_refuse (9 : Int32) p2 I1) (fun x4 I5 => 
    some (x4, I5))
    else
    (letJ (
    ck (inb p1 10) (bnd (kgW I1 13 p1.toNatClampNeg p2) (fun I2 => 
    bndC (f_X3_countLidsOn I2) (fun x2 I3 => 
    some (x2, I3))))) (fun (j84 : Option (Int32 × kgM)) =>
    (if p2 = (1 : Int32) then
    ck (inb p1 10) (
    (if (I1 14 p1.toNatClampNeg) = (1 : Int32) then
    bndC (f_X4_refuse (12 : Int32) ((6 : Int32) - ((I1 1 15) - (I1 1 15) / (6 : Int32) * (6 : Int32))) I1) (fun x3 I4 => 
    some (x3, I4))
    else
    j84))
    else
    j84)))))) (fun (j25 : Option (Int32 × kgM)) =>
    (if p2 = 0 then
    j25
    else
    (if p2 = (1 : Int32) then
    j25
    else
    some ((-1012 : Int32), I1)))))))

def f_X4_lid (p1 : Int32) (p2 : Int32) (I0 : kgM) : Option (Int32 × kgM) :=
    bndC (f_X0_begin I0) (fun x1 I1 => 
    bndC (f_X4_moveLid p1 p2 I1) (fun x2 I2 => 
    bndC (f_X4_settle x2 I2) (fun x3 I3 => 
    some (x3, I3))))

def f_X4_makeAppeal (p1 : Int32) (p2 : Int32) (I0 : kgM) : Option (Int32 × kgM) :=
    bndC (f_X4_isMember p1 I0) (fun x1 I1 => 
    (if x1 = 0 then
    some ((-1011 : Int32), I1)
    else
    bndC (f_X4_isKettle p2 I1) (fun x2 I2 => 
    (if x2 = 0 then
    some ((-1011 : Int32), I2)
    else
    ck (inb p2 10) (
    (if (I2 7 p2.toNatClampNeg) = p1 then
    bndC (f_X4_refuse (13 : Int32) p1 I2) (fun x10 I12 => 
    some (x10, I12))
    else
    ck (inb p2 10) (
    (if (I2 13 p2.toNatClampNeg) = 0 then
    bndC (f_X3_countLidsOn I2) (fun x8 I10 => 
    bndC (f_X4_refuse (15 : Int32) x8 I10) (fun x9 I11 => 
    some (x9, I11)))
    else
    ck (inb p2 10) (
    bndC (f_X4_isIn (I2 15 p2.toNatClampNeg) p1 I2) (fun x3 I3 => 
    (if x3 = 0 then
    ck (inb p1 4) (
    ck (inb p1 4) (bnd (kgW I3 5 p1.toNatClampNeg ((I3 5 p1.toNatClampNeg) + (1 : Int32))) (fun I4 => 
    ck (inb p2 10) (
    ck (inb p2 10) (bnd (kgW I4 15 p2.toNatClampNeg ((I4 15 p2.toNatClampNeg) ||| ((1 : Int32) <<< (p1 &&& 31)))) (fun I5 => 
    ck (inb p2 10) (
    bndC (f_J6_bitCount_0f7a4 (I5 15 p2.toNatClampNeg) I5) (fun x4 I6 => 
    (if (2 : Int32) ≤ x4 then
    bndC (f_X3_barLid p2 I6) (fun x5 I7 => 
    some ((1 : Int32), I7))
    else
    some ((0 : Int32), I6))))))))))
    else
    ck (inb p2 10) (
    bndC (f_J6_bitCount_0f7a4 (I3 15 p2.toNatClampNeg) I3) (fun x6 I8 => 
    bndC (f_X4_refuse (14 : Int32) x6 I8) (fun x7 I9 => 
    some (x7, I9)))))))))))))))

def f_X4_appeal (p1 : Int32) (p2 : Int32) (I0 : kgM) : Option (Int32 × kgM) :=
    bndC (f_X0_begin I0) (fun x1 I1 => 
    bndC (f_X4_makeAppeal p1 p2 I1) (fun x2 I2 => 
    bndC (f_X4_settle x2 I2) (fun x3 I3 => 
    some (x3, I3))))

def f_X4_stoveOf (p1 : Int32) (p2 : Int32) (I0 : kgM) : Option (Int32 × kgM) :=
    bndC (f_X4_isStove p1 I0) (fun x1 I1 => 
    (if x1 = 0 then
    some ((-1011 : Int32), I1)
    else
    (if p2 = 0 then
    bndC (f_X3_kettleOn p1 I1) (fun x2 I2 => 
    bndC (f_X4_orNothing x2 I2) (fun x3 I3 => 
    some (x3, I3)))
    else
    ck (inb p1 6) (
    some (I1 6 p1.toNatClampNeg, I1)))))

def f_X4_passMinutes_L19 (a1 : Int32) (K : Int32 → kgM → Option (Int32 × kgM)) : Nat → Int32 → Int32 → kgM → Option (Int32 × kgM)
  | 0, _, _, _ => none
  | q + 1, x2h19, x3h19, Ih19 =>
    (if a1 ≤ x3h19 then
    K x2h19 Ih19
    else
    bndC (f_X3_passMinute Ih19) (fun x1 I1 => 
    bnd (x2h19 + x1) (fun x2 => 
    (if ((I1 1 15) - (I1 1 15) / (6 : Int32) * (6 : Int32)) = 0 then
    bndC (f_X3_holdHarmony I1) (fun x4 I2 => 
    bnd (x3h19 + (1 : Int32)) (fun x5 => 
    f_X4_passMinutes_L19 a1 K q x2 x5 I2))
    else
    bnd (x3h19 + (1 : Int32)) (fun x3 => 
    f_X4_passMinutes_L19 a1 K q x2 x3 I1)))))

def f_X4_passMinutes (p1 : Int32) (I0 : kgM) : Option (Int32 × kgM) :=
    (if p1 < (1 : Int32) then
    some ((-1012 : Int32), I0)
    else
    (if p1 ≤ (9 : Int32) then
    f_X4_passMinutes_L19 p1 (fun x6 I3 =>
    some (x6, I3)) 200 (0 : Int32) (0 : Int32) I0
    else
    some ((-1012 : Int32), I0)))

def f_X4_minute (p1 : Int32) (I0 : kgM) : Option (Int32 × kgM) :=
    bndC (f_X0_begin I0) (fun x1 I1 => 
    bndC (f_X4_passMinutes p1 I1) (fun x2 I2 => 
    bndC (f_X4_settle x2 I2) (fun x3 I3 => 
    some (x3, I3))))

def f_X4_whistling  (I0 : kgM) : Option (Int32 × kgM) :=
    bndC (f_X3_whistlers I0) (fun x1 I1 => 
    some (x1, I1))

def f_X4_harmony_L28 (a1 : Int32) (a3 : Int32) (K : Int32 → kgM → Option (Int32 × kgM)) : Nat → Int32 → Int32 → kgM → Option (Int32 × kgM)
  | 0, _, _, _ => none
  | q + 1, x2h28, x4h28, Ih28 =>
    (if (Ih28 1 14) ≤ x4h28 then
    K x2h28 Ih28
    else
    bndC (f_X4_isIn a1 a3 Ih28) (fun x3 I2 => 
    (if x3 = 0 then
    bnd (x4h28 + (1 : Int32)) (fun x4 => 
    f_X4_harmony_L28 a1 a3 K q x2h28 x4 I2)
    else
    bndC (f_X4_isIn a1 x4h28 I2) (fun x5 I3 => 
    (if x5 = 0 then
    bnd (x4h28 + (1 : Int32)) (fun x6 => 
    f_X4_harmony_L28 a1 a3 K q x2h28 x6 I3)
    else
    ck (inb a3 10) (
    ck (inb x4h28 10) (
    bndC (f_X4_soundOf (I3 8 a3.toNatClampNeg) (I3 8 x4h28.toNatClampNeg) I3) (fun x7 I4 => 
    bnd (x2h28 + x7) (fun x8 => 
    bnd (x4h28 + (1 : Int32)) (fun x9 => 
    f_X4_harmony_L28 a1 a3 K q x8 x9 I4))))))))))

def f_X4_harmony_L12 (a1 : Int32) (K : Int32 → kgM → Option (Int32 × kgM)) : Nat → Int32 → Int32 → kgM → Option (Int32 × kgM)
  | 0, _, _, _ => none
  | q + 1, x2h12, x3h12, Ih12 =>
    (if (Ih12 1 14) ≤ x3h12 then
    K x2h12 Ih12
    else
    bnd (x3h12 + (1 : Int32)) (fun x2 => 
    f_X4_harmony_L28 a1 x3h12 (fun x10 I5 =>
    bnd (x3h12 + (1 : Int32)) (fun x11 => 
    f_X4_harmony_L12 a1 K q x10 x11 I5)) 200 x2h12 x2 Ih12))

def f_X4_harmony  (I0 : kgM) : Option (Int32 × kgM) :=
    bndC (f_X3_whistlers I0) (fun x1 I1 => 
    f_X4_harmony_L12 x1 (fun x12 I6 =>
    some (x12, I6)) 200 (0 : Int32) (0 : Int32) I1)

def f_X4_harmonyAgain_L12 (a1 : Int32) (K : Int32 → kgM → Option (Int32 × kgM)) : Nat → Int32 → Int32 → kgM → Option (Int32 × kgM)
  | 0, _, _, _ => none
  | q + 1, x2h12, x3h12, Ih12 =>
    (if (12 : Int32) ≤ x3h12 then
    K x2h12 Ih12
    else
    bndC (f_J6_bitCount_0f7a4 (a1 &&& (a1 >>> (x3h12 &&& 31))) Ih12) (fun x2 I2 => 
    ck (inb x3h12 12) (
    bnd (x2h12 + ((kg_snd x3h12.toNatClampNeg) * x2)) (fun x3 => 
    bnd (x3h12 + (1 : Int32)) (fun x4 => 
    f_X4_harmonyAgain_L12 a1 K q x3 x4 I2)))))

def f_X4_harmonyAgain  (I0 : kgM) : Option (Int32 × kgM) :=
    bndC (f_X3_whistledPitches I0) (fun x1 I1 => 
    f_X4_harmonyAgain_L12 x1 (fun x5 I3 =>
    some (x5, I3)) 200 (0 : Int32) (1 : Int32) I1)

def f_X4_boilsIn_L34 (a2 : Int32) (K : kgM → Option (Int32 × kgM)) : Nat → Int32 → Int32 → kgM → Option (Int32 × kgM)
  | 0, _, _, _ => none
  | q + 1, x3h34, x4h34, Ih34 =>
    (if (100 : Int32) < x4h34 then
    K Ih34
    else
    (letJ (
    bndC (f_J9_min_7cf53 (100 : Int32) (x3h34 + ((5 : Int32) * a2)) Ih34) (fun x4 I3 => 
    bnd (x4h34 + (1 : Int32)) (fun x5 => 
    f_X4_boilsIn_L34 a2 K q x4 x5 I3))) (fun (j54 : Option (Int32 × kgM)) =>
    (if a2 ≤ 0 then
    j54
    else
    (if x3h34 = (100 : Int32) then
    some (x4h34, Ih34)
    else
    j54)))))

def f_X4_boilsIn (p1 : Int32) (I0 : kgM) : Option (Int32 × kgM) :=
    bndC (f_X4_isKettle p1 I0) (fun x1 I1 => 
    (if x1 = 0 then
    some ((-1011 : Int32), I1)
    else
    bndC (f_X3_heatUnder p1 I1) (fun x2 I2 => 
    ck (inb p1 10) (
    bnd (I2 10 p1.toNatClampNeg) (fun x3 => 
    f_X4_boilsIn_L34 x2 (fun I4 =>
    some ((-1015 : Int32), I4)) 200 x3 (0 : Int32) I2)))))

def f_X4_boilsInAgain (p1 : Int32) (I0 : kgM) : Option (Int32 × kgM) :=
    bndC (f_X4_isKettle p1 I0) (fun x1 I1 => 
    (if x1 = 0 then
    some ((-1011 : Int32), I1)
    else
    bndC (f_X3_heatUnder p1 I1) (fun x2 I2 => 
    bnd ((5 : Int32) * x2) (fun x3 => 
    (if 0 < x3 then
    ck (inb p1 10) (
    bnd ((100 : Int32) - (I2 10 p1.toNatClampNeg)) (fun x4 => 
    ck (decide (¬ x3 = 0)) (
    some (((x4 + x3) - (1 : Int32)) / x3, I2))))
    else
    some ((-1015 : Int32), I2))))))

def f_X4_dryIn (p1 : Int32) (I0 : kgM) : Option (Int32 × kgM) :=
    bndC (f_X4_boilsIn p1 I0) (fun x1 I1 => 
    (if x1 < 0 then
    some (x1, I1)
    else
    bndC (f_X4_isKettle p1 I1) (fun x2 I2 => 
    (if x2 = 0 then
    some (x1, I2)
    else
    ck (inb p1 10) (
    bndC (f_J9_max_7cf53 (1 : Int32) (I2 9 p1.toNatClampNeg) I2) (fun x3 I3 => 
    some (x1 + x3, I3)))))))

def f_X4_fitOf_L4 (a0 : Int32) (a1 : Int32) (K : Int32 → kgM → Option (Int32 × kgM)) : Nat → Int32 → Int32 → kgM → Option (Int32 × kgM)
  | 0, _, _, _ => none
  | q + 1, x2h4, x3h4, Ih4 =>
    (if (12 : Int32) < x3h4 then
    K x2h4 Ih4
    else
    bndC (f_X4_isIn a1 x3h4 Ih4) (fun x1 I1 => 
    (if x1 = 0 then
    bnd (x3h4 + (1 : Int32)) (fun x2 => 
    f_X4_fitOf_L4 a0 a1 K q x2h4 x2 I1)
    else
    bndC (f_X4_soundOf a0 x3h4 I1) (fun x3 I2 => 
    bnd (x2h4 + x3) (fun x4 => 
    bnd (x3h4 + (1 : Int32)) (fun x5 => 
    f_X4_fitOf_L4 a0 a1 K q x4 x5 I2))))))

def f_X4_fitOf (p1 : Int32) (p2 : Int32) (I0 : kgM) : Option (Int32 × kgM) :=
    f_X4_fitOf_L4 p1 p2 (fun x6 I3 =>
    some (x6, I3)) 200 (0 : Int32) (1 : Int32) I0

def f_X4_bestPitch_L15 (a1 : Int32) (K : Int32 → kgM → Option (Int32 × kgM)) : Nat → Int32 → Int32 → Int32 → kgM → Option (Int32 × kgM)
  | 0, _, _, _, _ => none
  | q + 1, x2h15, x3h15, x4h15, Ih15 =>
    (if (12 : Int32) < x4h15 then
    K x2h15 Ih15
    else
    bndC (f_X4_fitOf x4h15 a1 Ih15) (fun x2 I2 => 
    bndC (f_X4_isIn a1 x4h15 I2) (fun x3 I3 => 
    (if x3 = 0 then
    (if x2h15 = (-1 : Int32) then
    bnd (x4h15 + (1 : Int32)) (fun x5 => 
    f_X4_bestPitch_L15 a1 K q x4h15 x2 x5 I3)
    else
    (if x2 ≤ x3h15 then
    bnd (x4h15 + (1 : Int32)) (fun x6 => 
    f_X4_bestPitch_L15 a1 K q x2h15 x3h15 x6 I3)
    else
    bnd (x4h15 + (1 : Int32)) (fun x7 => 
    f_X4_bestPitch_L15 a1 K q x4h15 x2 x7 I3)))
    else
    bnd (x4h15 + (1 : Int32)) (fun x4 => 
    f_X4_bestPitch_L15 a1 K q x2h15 x3h15 x4 I3)))))

def f_X4_bestPitch  (I0 : kgM) : Option (Int32 × kgM) :=
    bndC (f_X3_whistledPitches I0) (fun x1 I1 => 
    f_X4_bestPitch_L15 x1 (fun x8 I4 =>
    some (x8, I4)) 200 (-1 : Int32) (0 : Int32) (1 : Int32) I1)

def f_X4_memberOf (p1 : Int32) (p2 : Int32) (I0 : kgM) : Option (Int32 × kgM) :=
    bndC (f_X4_isMember p1 I0) (fun x1 I1 => 
    (if x1 = 0 then
    some ((-1011 : Int32), I1)
    else
    (if p2.toInt = 0 then
    ck (inb p1 4) (
    some (I1 3 p1.toNatClampNeg, I1))
    else
    (if p2.toInt = 1 then
    bndC (f_X3_countPitchesOf p1 I1) (fun x2 I2 => 
    some (x2, I2))
    else
    (if p2.toInt = 2 then
    bndC (f_X3_countKettlesOf p1 I1) (fun x3 I3 => 
    some (x3, I3))
    else
    (if p2.toInt = 3 then
    bndC (f_X3_countWhistlersOf p1 I1) (fun x4 I4 => 
    some (x4, I4))
    else
    (if p2.toInt = 4 then
    ck (inb p1 4) (
    some (I1 4 p1.toNatClampNeg, I1))
    else
    (if p2.toInt = 5 then
    ck (inb p1 4) (
    some (I1 5 p1.toNatClampNeg, I1))
    else
    some ((-1012 : Int32), I1)))))))))

def f_J6_compare_7cf53 (p1 : Int32) (p2 : Int32) (I0 : kgM) : Option (Int32 × kgM) :=
    (if p2 ≤ p1 then
    (if p1 = p2 then
    some ((0 : Int32), I0)
    else
    some ((1 : Int32), I0))
    else
    some ((-1 : Int32), I0))

def f_X4_isMemberAhead (p1 : Int32) (p2 : Int32) (I0 : kgM) : Option (Int32 × kgM) :=
    ck (inb p1 4) (
    ck (inb p2 4) (
    bndC (f_J6_compare_7cf53 (I0 3 p1.toNatClampNeg) (I0 3 p2.toNatClampNeg) I0) (fun x1 I1 => 
    (if x1 = 0 then
    bndC (f_X3_countPitchesOf p1 I1) (fun x2 I2 => 
    bndC (f_X3_countPitchesOf p2 I2) (fun x3 I3 => 
    bndC (f_J6_compare_7cf53 x2 x3 I3) (fun x4 I4 => 
    (if x4 = 0 then
    (if p2 ≤ p1 then
    some ((0 : Int32), I4)
    else
    some ((1 : Int32), I4))
    else
    (if x4 ≤ 0 then
    some ((0 : Int32), I4)
    else
    some ((1 : Int32), I4))))))
    else
    (if x1 ≤ 0 then
    some ((0 : Int32), I1)
    else
    some ((1 : Int32), I1))))))

def f_X4_countAheadOfMember_L4 (a1 : Int32) (K : Int32 → kgM → Option (Int32 × kgM)) : Nat → Int32 → Int32 → kgM → Option (Int32 × kgM)
  | 0, _, _, _ => none
  | q + 1, x2h4, x3h4, Ih4 =>
    (if (4 : Int32) ≤ x3h4 then
    K x2h4 Ih4
    else
    bndC (f_X4_isMemberAhead x3h4 a1 Ih4) (fun x1 I1 => 
    (if x1 = 0 then
    bnd (x3h4 + (1 : Int32)) (fun x2 => 
    f_X4_countAheadOfMember_L4 a1 K q x2h4 x2 I1)
    else
    bnd (x2h4 + (1 : Int32)) (fun x3 => 
    bnd (x3h4 + (1 : Int32)) (fun x4 => 
    f_X4_countAheadOfMember_L4 a1 K q x3 x4 I1)))))

def f_X4_countAheadOfMember (p1 : Int32) (I0 : kgM) : Option (Int32 × kgM) :=
    f_X4_countAheadOfMember_L4 p1 (fun x5 I2 =>
    some (x5, I2)) 200 (0 : Int32) (0 : Int32) I0

def f_X4_ranked_L2 (a1 : Int32) (K : kgM → Option (Int32 × kgM)) : Nat → Int32 → kgM → Option (Int32 × kgM)
  | 0, _, _ => none
  | q + 1, x2h2, Ih2 =>
    (if (4 : Int32) ≤ x2h2 then
    K Ih2
    else
    bndC (f_X4_countAheadOfMember x2h2 Ih2) (fun x1 I1 => 
    (if x1 = a1 then
    some (x2h2, I1)
    else
    bnd (x2h2 + (1 : Int32)) (fun x2 => 
    f_X4_ranked_L2 a1 K q x2 I1))))

def f_X4_ranked (p1 : Int32) (I0 : kgM) : Option (Int32 × kgM) :=
    f_X4_ranked_L2 p1 (fun I2 =>
    some ((-1011 : Int32), I2)) 200 (0 : Int32) I0

def f_X4_isKettleAhead (p1 : Int32) (p2 : Int32) (I0 : kgM) : Option (Int32 × kgM) :=
    ck (inb p1 10) (
    ck (inb p2 10) (
    bndC (f_J6_compare_7cf53 (I0 10 p1.toNatClampNeg) (I0 10 p2.toNatClampNeg) I0) (fun x1 I1 => 
    (if x1 = 0 then
    ck (inb p1 10) (
    ck (inb p2 10) (
    bndC (f_J6_compare_7cf53 (I1 9 p1.toNatClampNeg) (I1 9 p2.toNatClampNeg) I1) (fun x2 I2 => 
    (if x2 = 0 then
    (if p2 ≤ p1 then
    some ((0 : Int32), I2)
    else
    some ((1 : Int32), I2))
    else
    (if 0 ≤ x2 then
    some ((0 : Int32), I2)
    else
    some ((1 : Int32), I2))))))
    else
    (if x1 ≤ 0 then
    some ((0 : Int32), I1)
    else
    some ((1 : Int32), I1))))))

def f_X4_countAheadOfKettle_L4 (a1 : Int32) (K : Int32 → kgM → Option (Int32 × kgM)) : Nat → Int32 → Int32 → kgM → Option (Int32 × kgM)
  | 0, _, _, _ => none
  | q + 1, x2h4, x3h4, Ih4 =>
    (if (Ih4 1 14) ≤ x3h4 then
    K x2h4 Ih4
    else
    bndC (f_X4_isKettleAhead x3h4 a1 Ih4) (fun x1 I1 => 
    (if x1 = 0 then
    bnd (x3h4 + (1 : Int32)) (fun x2 => 
    f_X4_countAheadOfKettle_L4 a1 K q x2h4 x2 I1)
    else
    bnd (x2h4 + (1 : Int32)) (fun x3 => 
    bnd (x3h4 + (1 : Int32)) (fun x4 => 
    f_X4_countAheadOfKettle_L4 a1 K q x3 x4 I1)))))

def f_X4_countAheadOfKettle (p1 : Int32) (I0 : kgM) : Option (Int32 × kgM) :=
    f_X4_countAheadOfKettle_L4 p1 (fun x5 I2 =>
    some (x5, I2)) 200 (0 : Int32) (0 : Int32) I0

def f_X4_hottest_L2 (a1 : Int32) (K : kgM → Option (Int32 × kgM)) : Nat → Int32 → kgM → Option (Int32 × kgM)
  | 0, _, _ => none
  | q + 1, x2h2, Ih2 =>
    (if (Ih2 1 14) ≤ x2h2 then
    K Ih2
    else
    bndC (f_X4_countAheadOfKettle x2h2 Ih2) (fun x1 I1 => 
    (if x1 = a1 then
    some (x2h2, I1)
    else
    bnd (x2h2 + (1 : Int32)) (fun x2 => 
    f_X4_hottest_L2 a1 K q x2 I1))))

def f_X4_hottest (p1 : Int32) (I0 : kgM) : Option (Int32 × kgM) :=
    f_X4_hottest_L2 p1 (fun I2 =>
    some ((-1011 : Int32), I2)) 200 (0 : Int32) I0

def f_X4_append (p1 : Int32) (I0 : kgM) : Option (Int32 × kgM) :=
    (if p1 < (32 : Int32) then
    some ((-1012 : Int32), I0)
    else
    (if p1 ≤ (126 : Int32) then
    bndC (f_X1_add ((p1.toUInt32 % 65536).toInt32) I0) (fun x1 I1 => 
    (if x1 = 0 then
    some ((-1013 : Int32), I1)
    else
    some (I1 171 4, I1)))
    else
    some ((-1012 : Int32), I0)))

def f_X4_carryOut (p1 : Int32) (I0 : kgM) : Option (Int32 × kgM) :=
    bndC (f_X1_numberOf p1 (0 : Int32) I0) (fun x1 I1 => 
    bndC (f_X1_numberOf p1 (1 : Int32) I1) (fun x2 I2 => 
    bndC (f_X1_kindOf p1 I2) (fun x3 I3 => 
    (if x3.toInt = 0 then
    bndC (f_X4_takePitch x1 x2 I3) (fun x4 I4 => 
    some (x4, I4))
    else
    (if x3.toInt = 1 then
    bndC (f_X1_numberOf p1 (2 : Int32) I3) (fun x5 I5 => 
    bndC (f_X4_bringKettle x1 x2 x5 I5) (fun x6 I6 => 
    some (x6, I6)))
    else
    (if x3.toInt = 2 then
    bndC (f_X4_putOnStove x1 x2 I3) (fun x7 I7 => 
    some (x7, I7))
    else
    (if x3.toInt = 3 then
    bndC (f_X4_takeOffStove x1 I3) (fun x8 I8 => 
    some (x8, I8))
    else
    (if x3.toInt = 4 then
    bndC (f_X4_turnStove x1 x2 I3) (fun x9 I9 => 
    some (x9, I9))
    else
    (if x3.toInt = 5 then
    bndC (f_X4_pourWater x1 x2 I3) (fun x10 I10 => 
    some (x10, I10))
    else
    (if x3.toInt = 6 then
    bndC (f_X4_moveLid x1 x2 I3) (fun x11 I11 => 
    some (x11, I11))
    else
    (if x3.toInt = 7 then
    bndC (f_X4_makeAppeal x1 x2 I3) (fun x12 I12 => 
    some (x12, I12))
    else
    (if x3.toInt = 8 then
    bndC (f_X4_passMinutes x1 I3) (fun x13 I13 => 
    some (x13, I13))
    else
    some ((-1011 : Int32), I3)))))))))))))

def f_X4_refuseOrder (p1 : Int32) (p2 : Int32) (I0 : kgM) : Option (Int32 × kgM) :=
    (if p2 = (-1014 : Int32) then
    bndC (f_X2_putAhead (16 : Int32) p1 I0) (fun x1 I1 => 
    some ((-1014 : Int32), I1))
    else
    bnd (kgW I0 168 2 (0 : Int32)) (fun I2 => 
    bndC (f_X2_putAhead (16 : Int32) p1 I2) (fun x2 I3 => 
    some ((-1014 : Int32), I3))))

def f_X4_run_L39  (K : kgM → Option (Int32 × kgM)) : Nat → Int32 → kgM → Option (Int32 × kgM)
  | 0, _, _ => none
  | q + 1, x2h39, Ih39 =>
    (if (Ih39 171 5) ≤ x2h39 then
    K Ih39
    else
    bndC (f_X4_carryOut x2h39 Ih39) (fun x4 I4 => 
    (if 0 ≤ x4 then
    bnd (x2h39 + (1 : Int32)) (fun x5 => 
    f_X4_run_L39 K q x5 I4)
    else
    bndC (f_X0_takeBackBegun I4) (fun x6 I5 => 
    bndC (f_X4_refuseOrder x2h39 x4 I5) (fun x7 I6 => 
    some (x7, I6))))))

def f_X4_run  (I0 : kgM) : Option (Int32 × kgM) :=
    bndC (f_X1_read I0) (fun x1 I1 => 
    bndC (f_X1_empty I1) (fun x2 I2 => 
    (if x1 = (-1 : Int32) then
    bndC (f_X0_begin I2) (fun x3 I3 => 
    f_X4_run_L39 (fun I7 =>
    bndC (f_X4_settle (I7 171 5) I7) (fun x8 I8 => 
    some (x8, I8))) 200 (0 : Int32) I3)
    else
    some ((-2000 : Int32) - x1, I2))))

def f_X4_reason (p1 : Int32) (p2 : Int32) (I0 : kgM) : Option (Int32 × kgM) :=
    (if p1 < 0 then
    some ((-1012 : Int32), I0)
    else
    (if p1 < (3 : Int32) then
    (if p1 < (I0 168 2) then
    (if p2 = 0 then
    ck (inb p1 3) (
    some (I0 169 p1.toNatClampNeg, I0))
    else
    ck (inb p1 3) (
    some (I0 170 p1.toNatClampNeg, I0)))
    else
    some ((-1015 : Int32), I0))
    else
    some ((-1012 : Int32), I0)))

def f_X4_sumOf_4_L10 (a3 : Int32) (K : Int32 → kgM → Option (Int32 × kgM)) : Nat → Int32 → Int32 → kgM → Option (Int32 × kgM)
  | 0, _, _, _ => none
  | q + 1, x1h10, x4h10, Ih10 =>
    (if a3 ≤ x4h10 then
    K x1h10 Ih10
    else
    ck (inb x4h10 4) (
    bnd (Ih10 4 x4h10.toNatClampNeg) (fun x2 => 
    bnd (x1h10 + x2) (fun x3 => 
    bnd (x4h10 + (1 : Int32)) (fun x4 => 
    f_X4_sumOf_4_L10 a3 K q x3 x4 Ih10)))))

def f_X4_sumOf_4  (I0 : kgM) : Option (Int32 × kgM) :=
    bnd (Int32.ofNat 4) (fun x1 => 
    f_X4_sumOf_4_L10 x1 (fun x5 I1 =>
    some (x5, I1)) 200 (0 : Int32) (0 : Int32) I0)

def f_X4_sumOf_3_L10 (a3 : Int32) (K : Int32 → kgM → Option (Int32 × kgM)) : Nat → Int32 → Int32 → kgM → Option (Int32 × kgM)
  | 0, _, _, _ => none
  | q + 1, x1h10, x4h10, Ih10 =>
    (if a3 ≤ x4h10 then
    K x1h10 Ih10
    else
    ck (inb x4h10 4) (
    bnd (Ih10 3 x4h10.toNatClampNeg) (fun x2 => 
    bnd (x1h10 + x2) (fun x3 => 
    bnd (x4h10 + (1 : Int32)) (fun x4 => 
    f_X4_sumOf_3_L10 a3 K q x3 x4 Ih10)))))

def f_X4_sumOf_3  (I0 : kgM) : Option (Int32 × kgM) :=
    bnd (Int32.ofNat 4) (fun x1 => 
    f_X4_sumOf_3_L10 x1 (fun x5 I1 =>
    some (x5, I1)) 200 (0 : Int32) (0 : Int32) I0)

def f_X4_account (p1 : Int32) (I0 : kgM) : Option (Int32 × kgM) :=
    (if p1.toInt = 0 then
    some (I0 1 14, I0)
    else
    (if p1.toInt = 1 then
    bndC (f_X3_countOnStoves I0) (fun x1 I1 => 
    some (x1, I1))
    else
    (if p1.toInt = 2 then
    bndC (f_X3_countBoiling I0) (fun x2 I2 => 
    some (x2, I2))
    else
    (if p1.toInt = 3 then
    bndC (f_X3_countLidsOn I0) (fun x3 I3 => 
    some (x3, I3))
    else
    (if p1.toInt = 4 then
    bndC (f_X3_countLidsBarred I0) (fun x4 I4 => 
    some (x4, I4))
    else
    (if p1.toInt = 5 then
    some (I0 1 15, I0)
    else
    (if p1.toInt = 6 then
    bndC (f_X3_sumWater I0) (fun x5 I5 => 
    some (x5, I5))
    else
    (if p1.toInt = 7 then
    some (I0 1 16, I0)
    else
    (if p1.toInt = 8 then
    some (I0 1 17, I0)
    else
    (if p1.toInt = 9 then
    bndC (f_X4_sumOf_4 I0) (fun x6 I6 => 
    some (x6, I6))
    else
    (if p1.toInt = 10 then
    bndC (f_X4_sumOf_3 I0) (fun x7 I7 => 
    some (x7, I7))
    else
    (if p1.toInt = 11 then
    some (I0 171 4, I0)
    else
    (if p1.toInt = 12 then
    some (I0 31 2, I0)
    else
    some ((-1012 : Int32), I0))))))))))))))

def f_X4_isBoilingSame_L2  (K : kgM → Option (Int32 × kgM)) : Nat → Int32 → kgM → Option (Int32 × kgM)
  | 0, _, _ => none
  | q + 1, x1h2, Ih2 =>
    (if (Ih2 1 14) ≤ x1h2 then
    K Ih2
    else
    bndC (f_X4_boilsIn x1h2 Ih2) (fun x1 I1 => 
    bndC (f_X4_boilsInAgain x1h2 I1) (fun x2 I2 => 
    (if x1 = x2 then
    bnd (x1h2 + (1 : Int32)) (fun x3 => 
    f_X4_isBoilingSame_L2 K q x3 I2)
    else
    some ((0 : Int32), I2)))))

def f_X4_isBoilingSame  (I0 : kgM) : Option (Int32 × kgM) :=
    f_X4_isBoilingSame_L2 (fun I3 =>
    some ((1 : Int32), I3)) 200 (0 : Int32) I0

def f_X4_isBalanced  (I0 : kgM) : Option (Int32 × kgM) :=
    bndC (f_X3_sumWater I0) (fun x1 I1 => 
    (letJ (fun y0j30 =>
    bndC (f_X4_harmony I1) (fun x2 I2 => 
    bndC (f_X4_harmonyAgain I2) (fun x3 I3 => 
    (letJ (fun y0j47 =>
    (if y0j30 = 0 then
    some ((0 : Int32), I3)
    else
    (if y0j47 = 0 then
    some ((0 : Int32), I3)
    else
    bndC (f_X4_isBoilingSame I3) (fun x4 I4 => 
    (if x4 = 0 then
    some ((0 : Int32), I4)
    else
    bndC (f_X3_hasPitchOnTwoStoves I4) (fun x5 I5 => 
    (if x5 = 0 then
    some ((1 : Int32), I5)
    else
    some ((0 : Int32), I5)))))))) (fun (j47 : Int32 → Option (Int32 × kgM)) =>
    (if x2 = x3 then
    j47 (1 : Int32)
    else
    j47 (0 : Int32))))))) (fun (j30 : Int32 → Option (Int32 × kgM)) =>
    (if (I0 1 16) = (x1 + (I1 1 17)) then
    j30 (1 : Int32)
    else
    j30 (0 : Int32)))))

def f_X4_meanWater  (I0 : kgM) : Option (UInt64 × kgM) :=
    (if (I0 1 14) = 0 then
    some (FP.dconst0, I0)
    else
    bndC (f_X3_sumWater I0) (fun x1 I1 => 
    ck (kn64 (FP.ddiv (FP.i2d x1) (FP.i2d (I1 1 14)))) (
    some (FP.ddiv (FP.i2d x1) (FP.i2d (I1 1 14)), I1))))

def f_X4_whistleShare  (I0 : kgM) : Option (UInt32 × kgM) :=
    bndC (f_X3_countOnStoves I0) (fun x1 I1 => 
    (if x1 = 0 then
    some (FP.fconst0, I1)
    else
    bndC (f_X3_whistlers I1) (fun x2 I2 => 
    bndC (f_J6_bitCount_0f7a4 x2 I2) (fun x3 I3 => 
    ck (kn32 (FP.fdiv (FP.i2f x3) (FP.i2f x1))) (
    some (FP.fdiv (FP.i2f x3) (FP.i2f x1), I3))))))

def f_X4_undo  (I0 : kgM) : Option (Int32 × kgM) :=
    (if (I0 31 2) = 0 then
    some ((-1015 : Int32), I0)
    else
    bndC (f_X0_takeBackLatest I0) (fun x1 I1 => 
    some (I1 31 2, I1)))

def f_X4_save  (I0 : kgM) : Option (Int32 × kgM) :=
    bndC (f_X3_copyFrom 16 1 I0) (fun x1 I1 => 
    bnd (kgW I1 0 6 (1 : Int32)) (fun I2 => 
    some (I2 1 14, I2)))

def f_X4_restore  (I0 : kgM) : Option (Int32 × kgM) :=
    (if (I0 0 6) = 0 then
    some ((-1015 : Int32), I0)
    else
    bndC (f_X3_copyFrom 1 16 I0) (fun x1 I1 => 
    bnd (kgW I1 31 2 (0 : Int32)) (fun I2 => 
    some (I2 1 14, I2))))


