/-! The world: cell k at the address q k; F: the numbers in objects (100 * the object + the field), A: the numbers in arrays (by cell) -/
def gw (q : Nat → Nat) (c : Nat → ClassId) (F : Nat → Int) (A : Nat → Int → Int) : va_W := [
  (q 0, .inr (0, [.ref (q 1), .ref (q 2), .ref (q 3), .ref (q 4)])),
  (q 1, .inr (1, [.int (iI (F 100)), .int (iI (F 101)), .int (iI (F 102)), .ref (q 6), .ref (q 7), .ref (q 8), .ref (q 9), .ref (q 10), .ref (q 11), .ref (q 12), .ref (q 13)])),
  (q 2, .inr (2, [.int (iI (F 200)), .int (iI (F 201)), .ref (q 14), .ref (q 15), .ref (q 16), .ref (q 17)])),
  (q 3, .inr (3, [.int (iI (F 300)), .int (iI (F 301)), .int (iI (F 302)), .int (iI (F 303)), .int (iI (F 304)), .ref (q 18), .ref (q 19), .ref (q 20), .ref (q 21), .ref (q 22), .ref (q 23), .ref (q 24), .ref (q 25)])),
  (q 4, .inr (4, [.ref (q 26)])),
  (q 5, .inr (5, [.int (iI (F 500)), .int (iI (F 501)), .int (iI (F 502)), .ref (q 35), .ref (q 36), .ref (q 37), .ref (q 38), .ref (q 39), .ref (q 40), .int (iI (F 509)), .int (iI (F 510)), .int (iI (F 511)), .int (iI (F 512)), .ref (q 41), .ref (q 42), .ref (q 43), .ref (q 44), .ref (q 45), .ref (q 46), .ref (q 47), .int (iI (F 520)), .ref (q 48), .ref (q 49), .int (iI (F 523)), .ref (q 50), .int (iI (F 525)), .ref (q 51), .ref (q 52), .ref (q 53), .ref (q 54), .ref (q 55), .int (iI (F 531)), .int (iI (F 532)), .ref (q 56)])),
  (q 6, .inl (c 0, 8, .inl (aI (A 6)))),
  (q 7, .inl (c 0, 8, .inl (aI (A 7)))),
  (q 8, .inl (c 0, 8, .inl (aI (A 8)))),
  (q 9, .inl (c 0, 14, .inl (aI (A 9)))),
  (q 10, .inl (c 0, 14, .inl (aI (A 10)))),
  (q 11, .inl (c 0, 14, .inl (aI (A 11)))),
  (q 12, .inl (c 0, 14, .inl (aI (A 12)))),
  (q 13, .inl (c 0, 14, .inl (aI (A 13)))),
  (q 14, .inl (c 0, 400, .inl (aI (A 14)))),
  (q 15, .inl (c 0, 8, .inl (aI (A 15)))),
  (q 16, .inl (c 0, 14, .inl (aI (A 16)))),
  (q 17, .inl (c 0, 14, .inl (aI (A 17)))),
  (q 18, .inl (c 0, 8, .inl (aI (A 18)))),
  (q 19, .inl (c 0, 40, .inl (aI (A 19)))),
  (q 20, .inl (c 0, 600, .inl (aI (A 20)))),
  (q 21, .inl (c 0, 600, .inl (aI (A 21)))),
  (q 22, .inl (c 0, 600, .inl (aI (A 22)))),
  (q 23, .inl (c 0, 40, .inl (aI (A 23)))),
  (q 24, .inl (c 0, 40, .inl (aI (A 24)))),
  (q 25, .inl (c 0, 40, .inl (aI (A 25)))),
  (q 26, .inl (c 3, 8, .inr (.inr (.inr (.inr (fun i => if i < 8 then some (q (27 + i)) else none)))))),
  (q 27, .inl (c 0, 8, .inl (aI (A 27)))),
  (q 28, .inl (c 0, 8, .inl (aI (A 28)))),
  (q 29, .inl (c 0, 8, .inl (aI (A 29)))),
  (q 30, .inl (c 0, 8, .inl (aI (A 30)))),
  (q 31, .inl (c 0, 8, .inl (aI (A 31)))),
  (q 32, .inl (c 0, 8, .inl (aI (A 32)))),
  (q 33, .inl (c 0, 8, .inl (aI (A 33)))),
  (q 34, .inl (c 0, 8, .inl (aI (A 34)))),
  (q 35, .inl (c 0, 8, .inl (aI (A 35)))),
  (q 36, .inl (c 0, 14, .inl (aI (A 36)))),
  (q 37, .inl (c 0, 14, .inl (aI (A 37)))),
  (q 38, .inl (c 0, 14, .inl (aI (A 38)))),
  (q 39, .inl (c 0, 14, .inl (aI (A 39)))),
  (q 40, .inl (c 0, 14, .inl (aI (A 40)))),
  (q 41, .inl (c 0, 8, .inl (aI (A 41)))),
  (q 42, .inl (c 1, 8, .inr (.inl (aL (A 42))))),
  (q 43, .inl (c 1, 8, .inr (.inl (aL (A 43))))),
  (q 44, .inl (c 0, 8, .inl (aI (A 44)))),
  (q 45, .inl (c 0, 8, .inl (aI (A 45)))),
  (q 46, .inl (c 0, 14, .inl (aI (A 46)))),
  (q 47, .inl (c 0, 14, .inl (aI (A 47)))),
  (q 48, .inl (c 0, 400, .inl (aI (A 48)))),
  (q 49, .inl (c 2, 8, .inl (aI (A 49)))),
  (q 50, .inl (c 0, 8, .inl (aI (A 50)))),
  (q 51, .inl (c 0, 700, .inl (aI (A 51)))),
  (q 52, .inl (c 0, 700, .inl (aI (A 52)))),
  (q 53, .inl (c 0, 700, .inl (aI (A 53)))),
  (q 54, .inl (c 0, 700, .inl (aI (A 54)))),
  (q 55, .inl (c 1, 40, .inr (.inl (aL (A 55))))),
  (q 56, .inl (c 0, 64, .inl (aI (A 56)))),
  (q 57, .inl (c 1, 1, .inr (.inl (aL (A 57)))))]
section GW
variable {q : Nat → Nat} {c : Nat → ClassId} {F : Nat → Int} {A : Nat → Int → Int}
theorem ga_0 : (gw q c F A)[0]? = some (q 0, .inr (0, [.ref (q 1), .ref (q 2), .ref (q 3), .ref (q 4)])) := rfl
theorem ga_1 : (gw q c F A)[1]? = some (q 1, .inr (1, [.int (iI (F 100)), .int (iI (F 101)), .int (iI (F 102)), .ref (q 6), .ref (q 7), .ref (q 8), .ref (q 9), .ref (q 10), .ref (q 11), .ref (q 12), .ref (q 13)])) := rfl
theorem ga_2 : (gw q c F A)[2]? = some (q 2, .inr (2, [.int (iI (F 200)), .int (iI (F 201)), .ref (q 14), .ref (q 15), .ref (q 16), .ref (q 17)])) := rfl
theorem ga_3 : (gw q c F A)[3]? = some (q 3, .inr (3, [.int (iI (F 300)), .int (iI (F 301)), .int (iI (F 302)), .int (iI (F 303)), .int (iI (F 304)), .ref (q 18), .ref (q 19), .ref (q 20), .ref (q 21), .ref (q 22), .ref (q 23), .ref (q 24), .ref (q 25)])) := rfl
theorem ga_4 : (gw q c F A)[4]? = some (q 4, .inr (4, [.ref (q 26)])) := rfl
theorem ga_5 : (gw q c F A)[5]? = some (q 5, .inr (5, [.int (iI (F 500)), .int (iI (F 501)), .int (iI (F 502)), .ref (q 35), .ref (q 36), .ref (q 37), .ref (q 38), .ref (q 39), .ref (q 40), .int (iI (F 509)), .int (iI (F 510)), .int (iI (F 511)), .int (iI (F 512)), .ref (q 41), .ref (q 42), .ref (q 43), .ref (q 44), .ref (q 45), .ref (q 46), .ref (q 47), .int (iI (F 520)), .ref (q 48), .ref (q 49), .int (iI (F 523)), .ref (q 50), .int (iI (F 525)), .ref (q 51), .ref (q 52), .ref (q 53), .ref (q 54), .ref (q 55), .int (iI (F 531)), .int (iI (F 532)), .ref (q 56)])) := rfl
theorem ga_6 : (gw q c F A)[6]? = some (q 6, .inl (c 0, 8, .inl (aI (A 6)))) := rfl
theorem ga_7 : (gw q c F A)[7]? = some (q 7, .inl (c 0, 8, .inl (aI (A 7)))) := rfl
theorem ga_8 : (gw q c F A)[8]? = some (q 8, .inl (c 0, 8, .inl (aI (A 8)))) := rfl
theorem ga_9 : (gw q c F A)[9]? = some (q 9, .inl (c 0, 14, .inl (aI (A 9)))) := rfl
theorem ga_10 : (gw q c F A)[10]? = some (q 10, .inl (c 0, 14, .inl (aI (A 10)))) := rfl
theorem ga_11 : (gw q c F A)[11]? = some (q 11, .inl (c 0, 14, .inl (aI (A 11)))) := rfl
theorem ga_12 : (gw q c F A)[12]? = some (q 12, .inl (c 0, 14, .inl (aI (A 12)))) := rfl
theorem ga_13 : (gw q c F A)[13]? = some (q 13, .inl (c 0, 14, .inl (aI (A 13)))) := rfl
theorem ga_14 : (gw q c F A)[14]? = some (q 14, .inl (c 0, 400, .inl (aI (A 14)))) := rfl
theorem ga_15 : (gw q c F A)[15]? = some (q 15, .inl (c 0, 8, .inl (aI (A 15)))) := rfl
theorem ga_16 : (gw q c F A)[16]? = some (q 16, .inl (c 0, 14, .inl (aI (A 16)))) := rfl
theorem ga_17 : (gw q c F A)[17]? = some (q 17, .inl (c 0, 14, .inl (aI (A 17)))) := rfl
theorem ga_18 : (gw q c F A)[18]? = some (q 18, .inl (c 0, 8, .inl (aI (A 18)))) := rfl
theorem ga_19 : (gw q c F A)[19]? = some (q 19, .inl (c 0, 40, .inl (aI (A 19)))) := rfl
theorem ga_20 : (gw q c F A)[20]? = some (q 20, .inl (c 0, 600, .inl (aI (A 20)))) := rfl
theorem ga_21 : (gw q c F A)[21]? = some (q 21, .inl (c 0, 600, .inl (aI (A 21)))) := rfl
theorem ga_22 : (gw q c F A)[22]? = some (q 22, .inl (c 0, 600, .inl (aI (A 22)))) := rfl
theorem ga_23 : (gw q c F A)[23]? = some (q 23, .inl (c 0, 40, .inl (aI (A 23)))) := rfl
theorem ga_24 : (gw q c F A)[24]? = some (q 24, .inl (c 0, 40, .inl (aI (A 24)))) := rfl
theorem ga_25 : (gw q c F A)[25]? = some (q 25, .inl (c 0, 40, .inl (aI (A 25)))) := rfl
theorem ga_26 : (gw q c F A)[26]? = some (q 26, .inl (c 3, 8, .inr (.inr (.inr (.inr (fun i => if i < 8 then some (q (27 + i)) else none)))))) := rfl
theorem ga_27 : (gw q c F A)[27]? = some (q 27, .inl (c 0, 8, .inl (aI (A 27)))) := rfl
theorem ga_28 : (gw q c F A)[28]? = some (q 28, .inl (c 0, 8, .inl (aI (A 28)))) := rfl
theorem ga_29 : (gw q c F A)[29]? = some (q 29, .inl (c 0, 8, .inl (aI (A 29)))) := rfl
theorem ga_30 : (gw q c F A)[30]? = some (q 30, .inl (c 0, 8, .inl (aI (A 30)))) := rfl
theorem ga_31 : (gw q c F A)[31]? = some (q 31, .inl (c 0, 8, .inl (aI (A 31)))) := rfl
theorem ga_32 : (gw q c F A)[32]? = some (q 32, .inl (c 0, 8, .inl (aI (A 32)))) := rfl
theorem ga_33 : (gw q c F A)[33]? = some (q 33, .inl (c 0, 8, .inl (aI (A 33)))) := rfl
theorem ga_34 : (gw q c F A)[34]? = some (q 34, .inl (c 0, 8, .inl (aI (A 34)))) := rfl
theorem ga_35 : (gw q c F A)[35]? = some (q 35, .inl (c 0, 8, .inl (aI (A 35)))) := rfl
theorem ga_36 : (gw q c F A)[36]? = some (q 36, .inl (c 0, 14, .inl (aI (A 36)))) := rfl
theorem ga_37 : (gw q c F A)[37]? = some (q 37, .inl (c 0, 14, .inl (aI (A 37)))) := rfl
theorem ga_38 : (gw q c F A)[38]? = some (q 38, .inl (c 0, 14, .inl (aI (A 38)))) := rfl
theorem ga_39 : (gw q c F A)[39]? = some (q 39, .inl (c 0, 14, .inl (aI (A 39)))) := rfl
theorem ga_40 : (gw q c F A)[40]? = some (q 40, .inl (c 0, 14, .inl (aI (A 40)))) := rfl
theorem ga_41 : (gw q c F A)[41]? = some (q 41, .inl (c 0, 8, .inl (aI (A 41)))) := rfl
theorem ga_42 : (gw q c F A)[42]? = some (q 42, .inl (c 1, 8, .inr (.inl (aL (A 42))))) := rfl
theorem ga_43 : (gw q c F A)[43]? = some (q 43, .inl (c 1, 8, .inr (.inl (aL (A 43))))) := rfl
theorem ga_44 : (gw q c F A)[44]? = some (q 44, .inl (c 0, 8, .inl (aI (A 44)))) := rfl
theorem ga_45 : (gw q c F A)[45]? = some (q 45, .inl (c 0, 8, .inl (aI (A 45)))) := rfl
theorem ga_46 : (gw q c F A)[46]? = some (q 46, .inl (c 0, 14, .inl (aI (A 46)))) := rfl
theorem ga_47 : (gw q c F A)[47]? = some (q 47, .inl (c 0, 14, .inl (aI (A 47)))) := rfl
theorem ga_48 : (gw q c F A)[48]? = some (q 48, .inl (c 0, 400, .inl (aI (A 48)))) := rfl
theorem ga_49 : (gw q c F A)[49]? = some (q 49, .inl (c 2, 8, .inl (aI (A 49)))) := rfl
theorem ga_50 : (gw q c F A)[50]? = some (q 50, .inl (c 0, 8, .inl (aI (A 50)))) := rfl
theorem ga_51 : (gw q c F A)[51]? = some (q 51, .inl (c 0, 700, .inl (aI (A 51)))) := rfl
theorem ga_52 : (gw q c F A)[52]? = some (q 52, .inl (c 0, 700, .inl (aI (A 52)))) := rfl
theorem ga_53 : (gw q c F A)[53]? = some (q 53, .inl (c 0, 700, .inl (aI (A 53)))) := rfl
theorem ga_54 : (gw q c F A)[54]? = some (q 54, .inl (c 0, 700, .inl (aI (A 54)))) := rfl
theorem ga_55 : (gw q c F A)[55]? = some (q 55, .inl (c 1, 40, .inr (.inl (aL (A 55))))) := rfl
theorem ga_56 : (gw q c F A)[56]? = some (q 56, .inl (c 0, 64, .inl (aI (A 56)))) := rfl
theorem ga_57 : (gw q c F A)[57]? = some (q 57, .inl (c 1, 1, .inr (.inl (aL (A 57))))) := rfl
theorem gs_1_0 {x : Int} : (gw q c F A).set 1 (q 1, .inr (1, ([.int (iI (F 100)), .int (iI (F 101)), .int (iI (F 102)), .ref (q 6), .ref (q 7), .ref (q 8), .ref (q 9), .ref (q 10), .ref (q 11), .ref (q 12), .ref (q 13)] : List Value).set 0 (.int (iI x)))) = gw q c (fuP F 100 x) A := rfl
theorem gs_1_1 {x : Int} : (gw q c F A).set 1 (q 1, .inr (1, ([.int (iI (F 100)), .int (iI (F 101)), .int (iI (F 102)), .ref (q 6), .ref (q 7), .ref (q 8), .ref (q 9), .ref (q 10), .ref (q 11), .ref (q 12), .ref (q 13)] : List Value).set 1 (.int (iI x)))) = gw q c (fuP F 101 x) A := rfl
theorem gs_1_2 {x : Int} : (gw q c F A).set 1 (q 1, .inr (1, ([.int (iI (F 100)), .int (iI (F 101)), .int (iI (F 102)), .ref (q 6), .ref (q 7), .ref (q 8), .ref (q 9), .ref (q 10), .ref (q 11), .ref (q 12), .ref (q 13)] : List Value).set 2 (.int (iI x)))) = gw q c (fuP F 102 x) A := rfl
theorem gs_2_0 {x : Int} : (gw q c F A).set 2 (q 2, .inr (2, ([.int (iI (F 200)), .int (iI (F 201)), .ref (q 14), .ref (q 15), .ref (q 16), .ref (q 17)] : List Value).set 0 (.int (iI x)))) = gw q c (fuP F 200 x) A := rfl
theorem gs_2_1 {x : Int} : (gw q c F A).set 2 (q 2, .inr (2, ([.int (iI (F 200)), .int (iI (F 201)), .ref (q 14), .ref (q 15), .ref (q 16), .ref (q 17)] : List Value).set 1 (.int (iI x)))) = gw q c (fuP F 201 x) A := rfl
theorem gs_3_0 {x : Int} : (gw q c F A).set 3 (q 3, .inr (3, ([.int (iI (F 300)), .int (iI (F 301)), .int (iI (F 302)), .int (iI (F 303)), .int (iI (F 304)), .ref (q 18), .ref (q 19), .ref (q 20), .ref (q 21), .ref (q 22), .ref (q 23), .ref (q 24), .ref (q 25)] : List Value).set 0 (.int (iI x)))) = gw q c (fuP F 300 x) A := rfl
theorem gs_3_1 {x : Int} : (gw q c F A).set 3 (q 3, .inr (3, ([.int (iI (F 300)), .int (iI (F 301)), .int (iI (F 302)), .int (iI (F 303)), .int (iI (F 304)), .ref (q 18), .ref (q 19), .ref (q 20), .ref (q 21), .ref (q 22), .ref (q 23), .ref (q 24), .ref (q 25)] : List Value).set 1 (.int (iI x)))) = gw q c (fuP F 301 x) A := rfl
theorem gs_3_2 {x : Int} : (gw q c F A).set 3 (q 3, .inr (3, ([.int (iI (F 300)), .int (iI (F 301)), .int (iI (F 302)), .int (iI (F 303)), .int (iI (F 304)), .ref (q 18), .ref (q 19), .ref (q 20), .ref (q 21), .ref (q 22), .ref (q 23), .ref (q 24), .ref (q 25)] : List Value).set 2 (.int (iI x)))) = gw q c (fuP F 302 x) A := rfl
theorem gs_3_3 {x : Int} : (gw q c F A).set 3 (q 3, .inr (3, ([.int (iI (F 300)), .int (iI (F 301)), .int (iI (F 302)), .int (iI (F 303)), .int (iI (F 304)), .ref (q 18), .ref (q 19), .ref (q 20), .ref (q 21), .ref (q 22), .ref (q 23), .ref (q 24), .ref (q 25)] : List Value).set 3 (.int (iI x)))) = gw q c (fuP F 303 x) A := rfl
theorem gs_3_4 {x : Int} : (gw q c F A).set 3 (q 3, .inr (3, ([.int (iI (F 300)), .int (iI (F 301)), .int (iI (F 302)), .int (iI (F 303)), .int (iI (F 304)), .ref (q 18), .ref (q 19), .ref (q 20), .ref (q 21), .ref (q 22), .ref (q 23), .ref (q 24), .ref (q 25)] : List Value).set 4 (.int (iI x)))) = gw q c (fuP F 304 x) A := rfl
theorem gs_5_0 {x : Int} : (gw q c F A).set 5 (q 5, .inr (5, ([.int (iI (F 500)), .int (iI (F 501)), .int (iI (F 502)), .ref (q 35), .ref (q 36), .ref (q 37), .ref (q 38), .ref (q 39), .ref (q 40), .int (iI (F 509)), .int (iI (F 510)), .int (iI (F 511)), .int (iI (F 512)), .ref (q 41), .ref (q 42), .ref (q 43), .ref (q 44), .ref (q 45), .ref (q 46), .ref (q 47), .int (iI (F 520)), .ref (q 48), .ref (q 49), .int (iI (F 523)), .ref (q 50), .int (iI (F 525)), .ref (q 51), .ref (q 52), .ref (q 53), .ref (q 54), .ref (q 55), .int (iI (F 531)), .int (iI (F 532)), .ref (q 56)] : List Value).set 0 (.int (iI x)))) = gw q c (fuP F 500 x) A := rfl
theorem gs_5_1 {x : Int} : (gw q c F A).set 5 (q 5, .inr (5, ([.int (iI (F 500)), .int (iI (F 501)), .int (iI (F 502)), .ref (q 35), .ref (q 36), .ref (q 37), .ref (q 38), .ref (q 39), .ref (q 40), .int (iI (F 509)), .int (iI (F 510)), .int (iI (F 511)), .int (iI (F 512)), .ref (q 41), .ref (q 42), .ref (q 43), .ref (q 44), .ref (q 45), .ref (q 46), .ref (q 47), .int (iI (F 520)), .ref (q 48), .ref (q 49), .int (iI (F 523)), .ref (q 50), .int (iI (F 525)), .ref (q 51), .ref (q 52), .ref (q 53), .ref (q 54), .ref (q 55), .int (iI (F 531)), .int (iI (F 532)), .ref (q 56)] : List Value).set 1 (.int (iI x)))) = gw q c (fuP F 501 x) A := rfl
theorem gs_5_2 {x : Int} : (gw q c F A).set 5 (q 5, .inr (5, ([.int (iI (F 500)), .int (iI (F 501)), .int (iI (F 502)), .ref (q 35), .ref (q 36), .ref (q 37), .ref (q 38), .ref (q 39), .ref (q 40), .int (iI (F 509)), .int (iI (F 510)), .int (iI (F 511)), .int (iI (F 512)), .ref (q 41), .ref (q 42), .ref (q 43), .ref (q 44), .ref (q 45), .ref (q 46), .ref (q 47), .int (iI (F 520)), .ref (q 48), .ref (q 49), .int (iI (F 523)), .ref (q 50), .int (iI (F 525)), .ref (q 51), .ref (q 52), .ref (q 53), .ref (q 54), .ref (q 55), .int (iI (F 531)), .int (iI (F 532)), .ref (q 56)] : List Value).set 2 (.int (iI x)))) = gw q c (fuP F 502 x) A := rfl
theorem gs_5_9 {x : Int} : (gw q c F A).set 5 (q 5, .inr (5, ([.int (iI (F 500)), .int (iI (F 501)), .int (iI (F 502)), .ref (q 35), .ref (q 36), .ref (q 37), .ref (q 38), .ref (q 39), .ref (q 40), .int (iI (F 509)), .int (iI (F 510)), .int (iI (F 511)), .int (iI (F 512)), .ref (q 41), .ref (q 42), .ref (q 43), .ref (q 44), .ref (q 45), .ref (q 46), .ref (q 47), .int (iI (F 520)), .ref (q 48), .ref (q 49), .int (iI (F 523)), .ref (q 50), .int (iI (F 525)), .ref (q 51), .ref (q 52), .ref (q 53), .ref (q 54), .ref (q 55), .int (iI (F 531)), .int (iI (F 532)), .ref (q 56)] : List Value).set 9 (.int (iI x)))) = gw q c (fuP F 509 x) A := rfl
theorem gs_5_10 {x : Int} : (gw q c F A).set 5 (q 5, .inr (5, ([.int (iI (F 500)), .int (iI (F 501)), .int (iI (F 502)), .ref (q 35), .ref (q 36), .ref (q 37), .ref (q 38), .ref (q 39), .ref (q 40), .int (iI (F 509)), .int (iI (F 510)), .int (iI (F 511)), .int (iI (F 512)), .ref (q 41), .ref (q 42), .ref (q 43), .ref (q 44), .ref (q 45), .ref (q 46), .ref (q 47), .int (iI (F 520)), .ref (q 48), .ref (q 49), .int (iI (F 523)), .ref (q 50), .int (iI (F 525)), .ref (q 51), .ref (q 52), .ref (q 53), .ref (q 54), .ref (q 55), .int (iI (F 531)), .int (iI (F 532)), .ref (q 56)] : List Value).set 10 (.int (iI x)))) = gw q c (fuP F 510 x) A := rfl
theorem gs_5_11 {x : Int} : (gw q c F A).set 5 (q 5, .inr (5, ([.int (iI (F 500)), .int (iI (F 501)), .int (iI (F 502)), .ref (q 35), .ref (q 36), .ref (q 37), .ref (q 38), .ref (q 39), .ref (q 40), .int (iI (F 509)), .int (iI (F 510)), .int (iI (F 511)), .int (iI (F 512)), .ref (q 41), .ref (q 42), .ref (q 43), .ref (q 44), .ref (q 45), .ref (q 46), .ref (q 47), .int (iI (F 520)), .ref (q 48), .ref (q 49), .int (iI (F 523)), .ref (q 50), .int (iI (F 525)), .ref (q 51), .ref (q 52), .ref (q 53), .ref (q 54), .ref (q 55), .int (iI (F 531)), .int (iI (F 532)), .ref (q 56)] : List Value).set 11 (.int (iI x)))) = gw q c (fuP F 511 x) A := rfl
theorem gs_5_12 {x : Int} : (gw q c F A).set 5 (q 5, .inr (5, ([.int (iI (F 500)), .int (iI (F 501)), .int (iI (F 502)), .ref (q 35), .ref (q 36), .ref (q 37), .ref (q 38), .ref (q 39), .ref (q 40), .int (iI (F 509)), .int (iI (F 510)), .int (iI (F 511)), .int (iI (F 512)), .ref (q 41), .ref (q 42), .ref (q 43), .ref (q 44), .ref (q 45), .ref (q 46), .ref (q 47), .int (iI (F 520)), .ref (q 48), .ref (q 49), .int (iI (F 523)), .ref (q 50), .int (iI (F 525)), .ref (q 51), .ref (q 52), .ref (q 53), .ref (q 54), .ref (q 55), .int (iI (F 531)), .int (iI (F 532)), .ref (q 56)] : List Value).set 12 (.int (iI x)))) = gw q c (fuP F 512 x) A := rfl
theorem gs_5_20 {x : Int} : (gw q c F A).set 5 (q 5, .inr (5, ([.int (iI (F 500)), .int (iI (F 501)), .int (iI (F 502)), .ref (q 35), .ref (q 36), .ref (q 37), .ref (q 38), .ref (q 39), .ref (q 40), .int (iI (F 509)), .int (iI (F 510)), .int (iI (F 511)), .int (iI (F 512)), .ref (q 41), .ref (q 42), .ref (q 43), .ref (q 44), .ref (q 45), .ref (q 46), .ref (q 47), .int (iI (F 520)), .ref (q 48), .ref (q 49), .int (iI (F 523)), .ref (q 50), .int (iI (F 525)), .ref (q 51), .ref (q 52), .ref (q 53), .ref (q 54), .ref (q 55), .int (iI (F 531)), .int (iI (F 532)), .ref (q 56)] : List Value).set 20 (.int (iI x)))) = gw q c (fuP F 520 x) A := rfl
theorem gs_5_23 {x : Int} : (gw q c F A).set 5 (q 5, .inr (5, ([.int (iI (F 500)), .int (iI (F 501)), .int (iI (F 502)), .ref (q 35), .ref (q 36), .ref (q 37), .ref (q 38), .ref (q 39), .ref (q 40), .int (iI (F 509)), .int (iI (F 510)), .int (iI (F 511)), .int (iI (F 512)), .ref (q 41), .ref (q 42), .ref (q 43), .ref (q 44), .ref (q 45), .ref (q 46), .ref (q 47), .int (iI (F 520)), .ref (q 48), .ref (q 49), .int (iI (F 523)), .ref (q 50), .int (iI (F 525)), .ref (q 51), .ref (q 52), .ref (q 53), .ref (q 54), .ref (q 55), .int (iI (F 531)), .int (iI (F 532)), .ref (q 56)] : List Value).set 23 (.int (iI x)))) = gw q c (fuP F 523 x) A := rfl
theorem gs_5_25 {x : Int} : (gw q c F A).set 5 (q 5, .inr (5, ([.int (iI (F 500)), .int (iI (F 501)), .int (iI (F 502)), .ref (q 35), .ref (q 36), .ref (q 37), .ref (q 38), .ref (q 39), .ref (q 40), .int (iI (F 509)), .int (iI (F 510)), .int (iI (F 511)), .int (iI (F 512)), .ref (q 41), .ref (q 42), .ref (q 43), .ref (q 44), .ref (q 45), .ref (q 46), .ref (q 47), .int (iI (F 520)), .ref (q 48), .ref (q 49), .int (iI (F 523)), .ref (q 50), .int (iI (F 525)), .ref (q 51), .ref (q 52), .ref (q 53), .ref (q 54), .ref (q 55), .int (iI (F 531)), .int (iI (F 532)), .ref (q 56)] : List Value).set 25 (.int (iI x)))) = gw q c (fuP F 525 x) A := rfl
theorem gs_5_31 {x : Int} : (gw q c F A).set 5 (q 5, .inr (5, ([.int (iI (F 500)), .int (iI (F 501)), .int (iI (F 502)), .ref (q 35), .ref (q 36), .ref (q 37), .ref (q 38), .ref (q 39), .ref (q 40), .int (iI (F 509)), .int (iI (F 510)), .int (iI (F 511)), .int (iI (F 512)), .ref (q 41), .ref (q 42), .ref (q 43), .ref (q 44), .ref (q 45), .ref (q 46), .ref (q 47), .int (iI (F 520)), .ref (q 48), .ref (q 49), .int (iI (F 523)), .ref (q 50), .int (iI (F 525)), .ref (q 51), .ref (q 52), .ref (q 53), .ref (q 54), .ref (q 55), .int (iI (F 531)), .int (iI (F 532)), .ref (q 56)] : List Value).set 31 (.int (iI x)))) = gw q c (fuP F 531 x) A := rfl
theorem gs_5_32 {x : Int} : (gw q c F A).set 5 (q 5, .inr (5, ([.int (iI (F 500)), .int (iI (F 501)), .int (iI (F 502)), .ref (q 35), .ref (q 36), .ref (q 37), .ref (q 38), .ref (q 39), .ref (q 40), .int (iI (F 509)), .int (iI (F 510)), .int (iI (F 511)), .int (iI (F 512)), .ref (q 41), .ref (q 42), .ref (q 43), .ref (q 44), .ref (q 45), .ref (q 46), .ref (q 47), .int (iI (F 520)), .ref (q 48), .ref (q 49), .int (iI (F 523)), .ref (q 50), .int (iI (F 525)), .ref (q 51), .ref (q 52), .ref (q 53), .ref (q 54), .ref (q 55), .int (iI (F 531)), .int (iI (F 532)), .ref (q 56)] : List Value).set 32 (.int (iI x)))) = gw q c (fuP F 532 x) A := rfl
theorem gs_6 {i x : Int} : (gw q c F A).set 6 (q 6, .inl (c 0, 8, .inl (aI (upI (A 6) i x)))) = gw q c F (auP A 6 i x) := rfl
theorem gs_7 {i x : Int} : (gw q c F A).set 7 (q 7, .inl (c 0, 8, .inl (aI (upI (A 7) i x)))) = gw q c F (auP A 7 i x) := rfl
theorem gs_8 {i x : Int} : (gw q c F A).set 8 (q 8, .inl (c 0, 8, .inl (aI (upI (A 8) i x)))) = gw q c F (auP A 8 i x) := rfl
theorem gs_9 {i x : Int} : (gw q c F A).set 9 (q 9, .inl (c 0, 14, .inl (aI (upI (A 9) i x)))) = gw q c F (auP A 9 i x) := rfl
theorem gs_10 {i x : Int} : (gw q c F A).set 10 (q 10, .inl (c 0, 14, .inl (aI (upI (A 10) i x)))) = gw q c F (auP A 10 i x) := rfl
theorem gs_11 {i x : Int} : (gw q c F A).set 11 (q 11, .inl (c 0, 14, .inl (aI (upI (A 11) i x)))) = gw q c F (auP A 11 i x) := rfl
theorem gs_12 {i x : Int} : (gw q c F A).set 12 (q 12, .inl (c 0, 14, .inl (aI (upI (A 12) i x)))) = gw q c F (auP A 12 i x) := rfl
theorem gs_13 {i x : Int} : (gw q c F A).set 13 (q 13, .inl (c 0, 14, .inl (aI (upI (A 13) i x)))) = gw q c F (auP A 13 i x) := rfl
theorem gs_14 {i x : Int} : (gw q c F A).set 14 (q 14, .inl (c 0, 400, .inl (aI (upI (A 14) i x)))) = gw q c F (auP A 14 i x) := rfl
theorem gs_15 {i x : Int} : (gw q c F A).set 15 (q 15, .inl (c 0, 8, .inl (aI (upI (A 15) i x)))) = gw q c F (auP A 15 i x) := rfl
theorem gs_16 {i x : Int} : (gw q c F A).set 16 (q 16, .inl (c 0, 14, .inl (aI (upI (A 16) i x)))) = gw q c F (auP A 16 i x) := rfl
theorem gs_17 {i x : Int} : (gw q c F A).set 17 (q 17, .inl (c 0, 14, .inl (aI (upI (A 17) i x)))) = gw q c F (auP A 17 i x) := rfl
theorem gs_18 {i x : Int} : (gw q c F A).set 18 (q 18, .inl (c 0, 8, .inl (aI (upI (A 18) i x)))) = gw q c F (auP A 18 i x) := rfl
theorem gs_19 {i x : Int} : (gw q c F A).set 19 (q 19, .inl (c 0, 40, .inl (aI (upI (A 19) i x)))) = gw q c F (auP A 19 i x) := rfl
theorem gs_20 {i x : Int} : (gw q c F A).set 20 (q 20, .inl (c 0, 600, .inl (aI (upI (A 20) i x)))) = gw q c F (auP A 20 i x) := rfl
theorem gs_21 {i x : Int} : (gw q c F A).set 21 (q 21, .inl (c 0, 600, .inl (aI (upI (A 21) i x)))) = gw q c F (auP A 21 i x) := rfl
theorem gs_22 {i x : Int} : (gw q c F A).set 22 (q 22, .inl (c 0, 600, .inl (aI (upI (A 22) i x)))) = gw q c F (auP A 22 i x) := rfl
theorem gs_23 {i x : Int} : (gw q c F A).set 23 (q 23, .inl (c 0, 40, .inl (aI (upI (A 23) i x)))) = gw q c F (auP A 23 i x) := rfl
theorem gs_24 {i x : Int} : (gw q c F A).set 24 (q 24, .inl (c 0, 40, .inl (aI (upI (A 24) i x)))) = gw q c F (auP A 24 i x) := rfl
theorem gs_25 {i x : Int} : (gw q c F A).set 25 (q 25, .inl (c 0, 40, .inl (aI (upI (A 25) i x)))) = gw q c F (auP A 25 i x) := rfl
theorem gs_27 {i x : Int} : (gw q c F A).set 27 (q 27, .inl (c 0, 8, .inl (aI (upI (A 27) i x)))) = gw q c F (auP A 27 i x) := rfl
theorem gs_28 {i x : Int} : (gw q c F A).set 28 (q 28, .inl (c 0, 8, .inl (aI (upI (A 28) i x)))) = gw q c F (auP A 28 i x) := rfl
theorem gs_29 {i x : Int} : (gw q c F A).set 29 (q 29, .inl (c 0, 8, .inl (aI (upI (A 29) i x)))) = gw q c F (auP A 29 i x) := rfl
theorem gs_30 {i x : Int} : (gw q c F A).set 30 (q 30, .inl (c 0, 8, .inl (aI (upI (A 30) i x)))) = gw q c F (auP A 30 i x) := rfl
theorem gs_31 {i x : Int} : (gw q c F A).set 31 (q 31, .inl (c 0, 8, .inl (aI (upI (A 31) i x)))) = gw q c F (auP A 31 i x) := rfl
theorem gs_32 {i x : Int} : (gw q c F A).set 32 (q 32, .inl (c 0, 8, .inl (aI (upI (A 32) i x)))) = gw q c F (auP A 32 i x) := rfl
theorem gs_33 {i x : Int} : (gw q c F A).set 33 (q 33, .inl (c 0, 8, .inl (aI (upI (A 33) i x)))) = gw q c F (auP A 33 i x) := rfl
theorem gs_34 {i x : Int} : (gw q c F A).set 34 (q 34, .inl (c 0, 8, .inl (aI (upI (A 34) i x)))) = gw q c F (auP A 34 i x) := rfl
theorem gs_35 {i x : Int} : (gw q c F A).set 35 (q 35, .inl (c 0, 8, .inl (aI (upI (A 35) i x)))) = gw q c F (auP A 35 i x) := rfl
theorem gs_36 {i x : Int} : (gw q c F A).set 36 (q 36, .inl (c 0, 14, .inl (aI (upI (A 36) i x)))) = gw q c F (auP A 36 i x) := rfl
theorem gs_37 {i x : Int} : (gw q c F A).set 37 (q 37, .inl (c 0, 14, .inl (aI (upI (A 37) i x)))) = gw q c F (auP A 37 i x) := rfl
theorem gs_38 {i x : Int} : (gw q c F A).set 38 (q 38, .inl (c 0, 14, .inl (aI (upI (A 38) i x)))) = gw q c F (auP A 38 i x) := rfl
theorem gs_39 {i x : Int} : (gw q c F A).set 39 (q 39, .inl (c 0, 14, .inl (aI (upI (A 39) i x)))) = gw q c F (auP A 39 i x) := rfl
theorem gs_40 {i x : Int} : (gw q c F A).set 40 (q 40, .inl (c 0, 14, .inl (aI (upI (A 40) i x)))) = gw q c F (auP A 40 i x) := rfl
theorem gs_41 {i x : Int} : (gw q c F A).set 41 (q 41, .inl (c 0, 8, .inl (aI (upI (A 41) i x)))) = gw q c F (auP A 41 i x) := rfl
theorem gs_42 {i x : Int} : (gw q c F A).set 42 (q 42, .inl (c 1, 8, .inr (.inl (aL (upI (A 42) i x))))) = gw q c F (auP A 42 i x) := rfl
theorem gs_43 {i x : Int} : (gw q c F A).set 43 (q 43, .inl (c 1, 8, .inr (.inl (aL (upI (A 43) i x))))) = gw q c F (auP A 43 i x) := rfl
theorem gs_44 {i x : Int} : (gw q c F A).set 44 (q 44, .inl (c 0, 8, .inl (aI (upI (A 44) i x)))) = gw q c F (auP A 44 i x) := rfl
theorem gs_45 {i x : Int} : (gw q c F A).set 45 (q 45, .inl (c 0, 8, .inl (aI (upI (A 45) i x)))) = gw q c F (auP A 45 i x) := rfl
theorem gs_46 {i x : Int} : (gw q c F A).set 46 (q 46, .inl (c 0, 14, .inl (aI (upI (A 46) i x)))) = gw q c F (auP A 46 i x) := rfl
theorem gs_47 {i x : Int} : (gw q c F A).set 47 (q 47, .inl (c 0, 14, .inl (aI (upI (A 47) i x)))) = gw q c F (auP A 47 i x) := rfl
theorem gs_48 {i x : Int} : (gw q c F A).set 48 (q 48, .inl (c 0, 400, .inl (aI (upI (A 48) i x)))) = gw q c F (auP A 48 i x) := rfl
theorem gs_49 {i x : Int} : (gw q c F A).set 49 (q 49, .inl (c 2, 8, .inl (aI (upI (A 49) i x)))) = gw q c F (auP A 49 i x) := rfl
theorem gs_50 {i x : Int} : (gw q c F A).set 50 (q 50, .inl (c 0, 8, .inl (aI (upI (A 50) i x)))) = gw q c F (auP A 50 i x) := rfl
theorem gs_51 {i x : Int} : (gw q c F A).set 51 (q 51, .inl (c 0, 700, .inl (aI (upI (A 51) i x)))) = gw q c F (auP A 51 i x) := rfl
theorem gs_52 {i x : Int} : (gw q c F A).set 52 (q 52, .inl (c 0, 700, .inl (aI (upI (A 52) i x)))) = gw q c F (auP A 52 i x) := rfl
theorem gs_53 {i x : Int} : (gw q c F A).set 53 (q 53, .inl (c 0, 700, .inl (aI (upI (A 53) i x)))) = gw q c F (auP A 53 i x) := rfl
theorem gs_54 {i x : Int} : (gw q c F A).set 54 (q 54, .inl (c 0, 700, .inl (aI (upI (A 54) i x)))) = gw q c F (auP A 54 i x) := rfl
theorem gs_55 {i x : Int} : (gw q c F A).set 55 (q 55, .inl (c 1, 40, .inr (.inl (aL (upI (A 55) i x))))) = gw q c F (auP A 55 i x) := rfl
theorem gs_56 {i x : Int} : (gw q c F A).set 56 (q 56, .inl (c 0, 64, .inl (aI (upI (A 56) i x)))) = gw q c F (auP A 56 i x) := rfl
theorem gs_57 {i x : Int} : (gw q c F A).set 57 (q 57, .inl (c 1, 1, .inr (.inl (aL (upI (A 57) i x))))) = gw q c F (auP A 57 i x) := rfl
end GW
abbrev zS : Type := (Nat → Int) × (Nat → Int → Int)
def zty (c : Nat → ClassId) : List (ClassId × FieldType) := [(c 0, .int), (c 1, .long), (c 2, .boolean), (c 3, .array .int)]
def zB (D : va_G) (q : Nat → Nat) (c : Nat → ClassId) (F : Nat → Int) (A : Nat → Int → Int) (sz : Nat) : State → Prop := fun U => U.heap.size = sz ∧ va_P D zcl (gw q c F A) U.heap ∧ (va_K D zcl (zty c) U ∧ zNW U) ∧ va_D (fun _ => True) (gw q c F A)
def zPi (post : Int → (Nat → Int) → (Nat → Int → Int) → Prop) : Int32 → zS → Prop := fun r u => ∃ z, r = iI z ∧ post z u.1 u.2
def zPl (post : Int → (Nat → Int) → (Nat → Int → Int) → Prop) : Int64 → zS → Prop := fun r u => ∃ z, r = lI z ∧ post z u.1 u.2
def zPv (post : (Nat → Int) → (Nat → Int → Int) → Prop) : zS → Prop := fun u => post u.1 u.2
def zW (D : va_G) (q : Nat → Nat) (c : Nat → ClassId) (A0 : Nat → Prop) : zS → State → Prop := fun u t => va_P D zcl (gw q c u.1 u.2) t.heap ∧ va_D A0 (gw q c u.1 u.2)
/-- contracts over the whole world: the method answers z and leaves F', A' with 'post z F' A'' -/
def zMI (l : Launch) (y : MethodName) (bytes : ByteArray) (maxL : Nat) (ret : Option FieldType) (rm : Room) (D : va_G) (q : Nat → Nat) (c : Nat → ClassId) (sz : Nat) (av : List Value) (F : Nat → Int) (A : Nat → Int → Int) (post : Int → (Nat → Int) → (Nat → Int → Int) → Prop) : Prop :=
  Met l y (Cond.code y bytes maxL ret :: zG) rm (va_Pc av (zB D q c F A sz)) (va_Qi (zPi post) (zW D q c (va_A (gw q c F A) sz)) (va_A (gw q c F A) sz)) 0 0 (va_A (gw q c F A) sz)
def zML (l : Launch) (y : MethodName) (bytes : ByteArray) (maxL : Nat) (ret : Option FieldType) (rm : Room) (D : va_G) (q : Nat → Nat) (c : Nat → ClassId) (sz : Nat) (av : List Value) (F : Nat → Int) (A : Nat → Int → Int) (post : Int → (Nat → Int) → (Nat → Int → Int) → Prop) : Prop :=
  Met l y (Cond.code y bytes maxL ret :: zG) rm (va_Pc av (zB D q c F A sz)) (va_Ql (zPl post) (zW D q c (va_A (gw q c F A) sz)) (va_A (gw q c F A) sz)) 0 0 (va_A (gw q c F A) sz)
def zMV (l : Launch) (y : MethodName) (bytes : ByteArray) (maxL : Nat) (ret : Option FieldType) (rm : Room) (D : va_G) (q : Nat → Nat) (c : Nat → ClassId) (sz : Nat) (av : List Value) (F : Nat → Int) (A : Nat → Int → Int) (post : (Nat → Int) → (Nat → Int → Int) → Prop) : Prop :=
  Met l y (Cond.code y bytes maxL ret :: zG) rm (va_Pc av (zB D q c F A sz)) (va_Qv (zPv post) (zW D q c (va_A (gw q c F A) sz)) (va_A (gw q c F A) sz)) 0 0 (va_A (gw q c F A) sz)
theorem z_blind {D : va_G} {q : Nat → Nat} {c : Nat → ClassId} {F : Nat → Int} {A : Nat → Int → Int} {sz : Nat} {av : List Value} : FrameBlind (va_Pc av (zB D q c F A sz)) := fun a U g mk h => by
  obtain ⟨q0, q1, qP, qK, qD⟩ := h
  exact ⟨q0, q1, qP, ⟨va_K.moved (u := U) (U := U.calling g mk a) (Vm.Alike.refl U.vm) qK.1, zNW.same (u := U) rfl qK.2⟩, qD⟩
theorem z_pre {D : va_G} {q : Nat → Nat} {c : Nat → ClassId} {F : Nat → Int} {A : Nat → Int → Int} {av : List Value} {s : State} {H : Heap} {A0 : Nat → Prop} (hK : va_K D zcl (zty c) s ∧ zNW s) (hP : va_P D zcl (gw q c F A) H) (hD : va_D A0 (gw q c F A)) : ∀ U : State, U.heap = H → s.WarmedH U.vm → va_Pc av (zB D q c F A H.size) av.toArray U := fun U hU hW => ⟨rfl, by rw [hU], by rw [hU]; exact hP, ⟨va_K.moved hW.alike hK.1, zNW.warm hW hK.2⟩, hD.weaken (fun _ _ _ _ => trivial)⟩
section ZR
variable {p : Program} {l : Launch} {e : Env} {R : Room} {s : State} {m : MethodId} {args : Array Value} {below : List Frame} {meth : Method} {c0 : Code} {H : Heap} {locs : List Loc}
variable {cc : ByteArray} {pc : Nat} {ls : Array Slot} {D : va_G} {q : Nat → Nat} {c : Nat → ClassId} {F : Nat → Int} {A : Nat → Int → Int} {A0 : Nat → Prop}
theorem z_iret {post : Int → (Nat → Int) → (Nat → Int → Int) → Prop} {z : Int} (hexec : p.tables.exec = Jvm.exec) (hb : c0.code = cc) (hr : meth.sig.returnType = some .int) (hlocks : meth.locks = false) (hP : va_P D zcl (gw q c F A) H) (hD : va_D A0 (gw q c F A)) (hS : va_S A0 s.heap H locs) (hdg : decode cc pc = .ok (.ireturn, 1)) (hpost : post z F A) :
    W p l e R s m args below meth c0 H locs 0 0 (MQ below (va_Qi (zPi post) (zW D q c A0) A0) args s 0 0 A0) (F0 m pc ls [.int (iI z)]) :=
  W.iret (v := iI z) hexec hb hr (fun t ht hW => ⟨⟨iI z, (F, A), rfl, ⟨z, rfl, hpost⟩, by rw [ht]; exact hP, hD⟩, hS.F ht⟩) hS.2.2 hdg hlocks
theorem z_bret {post : Int → (Nat → Int) → (Nat → Int → Int) → Prop} {z : Int} (hexec : p.tables.exec = Jvm.exec) (hb : c0.code = cc) (hr : meth.sig.returnType = some .boolean) (hlocks : meth.locks = false) (hP : va_P D zcl (gw q c F A) H) (hD : va_D A0 (gw q c F A)) (hS : va_S A0 s.heap H locs) (hdg : decode cc pc = .ok (.ireturn, 1)) (hz : z = 0 ∨ z = 1) (hpost : post z F A) :
    W p l e R s m args below meth c0 H locs 0 0 (MQ below (va_Qi (zPi post) (zW D q c A0) A0) args s 0 0 A0) (F0 m pc ls [.int (iI z)]) :=
  W.zret (v := iI z) (ty := .boolean) hexec hb hr (by rcases hz with rfl | rfl <;> rfl) (fun t ht hW => ⟨⟨iI z, (F, A), rfl, ⟨z, rfl, hpost⟩, by rw [ht]; exact hP, hD⟩, hS.F ht⟩) hS.2.2 hdg hlocks
theorem z_lret {post : Int → (Nat → Int) → (Nat → Int → Int) → Prop} {z : Int} (hexec : p.tables.exec = Jvm.exec) (hb : c0.code = cc) (hr : meth.sig.returnType = some .long) (hlocks : meth.locks = false) (hP : va_P D zcl (gw q c F A) H) (hD : va_D A0 (gw q c F A)) (hS : va_S A0 s.heap H locs) (hdg : decode cc pc = .ok (.lreturn, 1)) (hpost : post z F A) :
    W p l e R s m args below meth c0 H locs 0 0 (MQ below (va_Ql (zPl post) (zW D q c A0) A0) args s 0 0 A0) (F0 m pc ls [.long (lI z)]) :=
  W.lret (v := lI z) hexec hb hr (fun t ht hW => ⟨⟨lI z, (F, A), rfl, ⟨z, rfl, hpost⟩, by rw [ht]; exact hP, hD⟩, hS.F ht⟩) hS.2.2 hdg hlocks
theorem z_vret {post : (Nat → Int) → (Nat → Int → Int) → Prop} (hexec : p.tables.exec = Jvm.exec) (hb : c0.code = cc) (hr : meth.sig.returnType = none) (hlocks : meth.locks = false) (hP : va_P D zcl (gw q c F A) H) (hD : va_D A0 (gw q c F A)) (hS : va_S A0 s.heap H locs) (hdg : decode cc pc = .ok (.return_, 1)) (hpost : post F A) :
    W p l e R s m args below meth c0 H locs 0 0 (MQ below (va_Qv (zPv post) (zW D q c A0) A0) args s 0 0 A0) (F0 m pc ls []) :=
  W.vret hexec hb hr (fun t ht hW => ⟨⟨(F, A), rfl, hpost, by rw [ht]; exact hP, hD⟩, hS.F ht⟩) hS.2.2 hdg hlocks
end ZR
/-- a method's body, from its entry: 'ret' is its end -/
abbrev zCtx (l : Launch) (y : MethodName) (bytes : ByteArray) (maxL : Nat) (ret : Option FieldType) (D : va_G) (c : Nat → ClassId) (p : Program) (s : State) (m : MethodId) (args : Array Value) (c0 : Code) (A0 : Nat → Prop) : Prop :=
  CallFix p m c0 bytes maxL s args (Cond.code y bytes maxL ret :: zG) y.cls ∧ (va_K D zcl (zty c) s ∧ zNW s) ∧ ∀ x, s.heap.size ≤ x → A0 x
section ZM
variable {l : Launch} {y : MethodName} {bytes : ByteArray} {maxL : Nat} {rm : Room} {D : va_G} {q : Nat → Nat} {c : Nat → ClassId} {sz : Nat} {av : List Value} {F : Nat → Int} {A : Nat → Int → Int}
theorem z_ofI {post : Int → (Nat → Int) → (Nat → Int → Int) → Prop} (hy : plainName y.cls = true) (hlen : (lg_sl av).length ≤ maxL)
    (body : ∀ (p : Program) (e : Env) (s : State) (m : MethodId) (args : Array Value) (below : List Frame) (meth : Method) (c0 : Code) (A0 : Nat → Prop) (Q : State → Prop), zCtx l y bytes maxL (some .int) D c p s m args c0 A0 →
      (∀ (z : Int) (F1 : Nat → Int) (A1 : Nat → Int → Int) (H : Heap) (locs : List Loc) (pc : Nat) (ls : Array Slot), decode bytes pc = .ok (.ireturn, 1) → va_P D zcl (gw q c F1 A1) H → va_D A0 (gw q c F1 A1) → va_S A0 s.heap H locs → post z F1 A1 → W p l e rm s m args below meth c0 H locs 0 0 Q (F0 m pc ls [.int (iI z)])) →
      va_P D zcl (gw q c F A) s.heap → va_D A0 (gw q c F A) → va_S A0 s.heap s.heap [] → ∀ ls : Array Slot, lv_has ls maxL (lv_args 0 av) → W p l e rm s m args below meth c0 s.heap [] 0 0 Q (F0 m 0 ls [])) :
    zMI l y bytes maxL (some .int) rm D q c sz av F A post := by
  refine Met.ofW (cc := bytes) (maxL := maxL) (ret := (some .int)) hy rfl ?_
  intro p e s m args below meth c0 s₁ B hml hv
  obtain ⟨rfl, hsz, hP, hK, hD0⟩ := hv
  subst hsz
  have hl := lv_entry av (n := maxL) hlen
  rw [lg_entry_eq]
  refine body p e s m _ below meth c0 (va_A (gw q c F A) s.heap.size) _ ⟨⟨B.exec, B.bytes, hml, findClass_of_methodNamed B.named, atoms_spec (ws := Cond.code y bytes maxL (some .int) :: zG) B.pre⟩, hK, fun x h => Or.inr h⟩ ?_ hP hD0.self va_S.rf _ hl
  intro z F1 A1 H locs pc ls hdg hP1 hD1 hS1 hpost
  exact z_iret B.exec B.bytes B.returns B.notSynchronized hP1 hD1 hS1 hdg hpost
theorem z_ofB {post : Int → (Nat → Int) → (Nat → Int → Int) → Prop} (hy : plainName y.cls = true) (hlen : (lg_sl av).length ≤ maxL)
    (body : ∀ (p : Program) (e : Env) (s : State) (m : MethodId) (args : Array Value) (below : List Frame) (meth : Method) (c0 : Code) (A0 : Nat → Prop) (Q : State → Prop), zCtx l y bytes maxL (some .boolean) D c p s m args c0 A0 →
      (∀ (z : Int) (F1 : Nat → Int) (A1 : Nat → Int → Int) (H : Heap) (locs : List Loc) (pc : Nat) (ls : Array Slot), decode bytes pc = .ok (.ireturn, 1) → va_P D zcl (gw q c F1 A1) H → va_D A0 (gw q c F1 A1) → va_S A0 s.heap H locs → z = 0 ∨ z = 1 → post z F1 A1 → W p l e rm s m args below meth c0 H locs 0 0 Q (F0 m pc ls [.int (iI z)])) →
      va_P D zcl (gw q c F A) s.heap → va_D A0 (gw q c F A) → va_S A0 s.heap s.heap [] → ∀ ls : Array Slot, lv_has ls maxL (lv_args 0 av) → W p l e rm s m args below meth c0 s.heap [] 0 0 Q (F0 m 0 ls [])) :
    zMI l y bytes maxL (some .boolean) rm D q c sz av F A post := by
  refine Met.ofW (cc := bytes) (maxL := maxL) (ret := (some .boolean)) hy rfl ?_
  intro p e s m args below meth c0 s₁ B hml hv
  obtain ⟨rfl, hsz, hP, hK, hD0⟩ := hv
  subst hsz
  have hl := lv_entry av (n := maxL) hlen
  rw [lg_entry_eq]
  refine body p e s m _ below meth c0 (va_A (gw q c F A) s.heap.size) _ ⟨⟨B.exec, B.bytes, hml, findClass_of_methodNamed B.named, atoms_spec (ws := Cond.code y bytes maxL (some .boolean) :: zG) B.pre⟩, hK, fun x h => Or.inr h⟩ ?_ hP hD0.self va_S.rf _ hl
  intro z F1 A1 H locs pc ls hdg hP1 hD1 hS1 hz hpost
  exact z_bret B.exec B.bytes B.returns B.notSynchronized hP1 hD1 hS1 hdg hz hpost
theorem z_ofL {post : Int → (Nat → Int) → (Nat → Int → Int) → Prop} (hy : plainName y.cls = true) (hlen : (lg_sl av).length ≤ maxL)
    (body : ∀ (p : Program) (e : Env) (s : State) (m : MethodId) (args : Array Value) (below : List Frame) (meth : Method) (c0 : Code) (A0 : Nat → Prop) (Q : State → Prop), zCtx l y bytes maxL (some .long) D c p s m args c0 A0 →
      (∀ (z : Int) (F1 : Nat → Int) (A1 : Nat → Int → Int) (H : Heap) (locs : List Loc) (pc : Nat) (ls : Array Slot), decode bytes pc = .ok (.lreturn, 1) → va_P D zcl (gw q c F1 A1) H → va_D A0 (gw q c F1 A1) → va_S A0 s.heap H locs → post z F1 A1 → W p l e rm s m args below meth c0 H locs 0 0 Q (F0 m pc ls [.long (lI z)])) →
      va_P D zcl (gw q c F A) s.heap → va_D A0 (gw q c F A) → va_S A0 s.heap s.heap [] → ∀ ls : Array Slot, lv_has ls maxL (lv_args 0 av) → W p l e rm s m args below meth c0 s.heap [] 0 0 Q (F0 m 0 ls [])) :
    zML l y bytes maxL (some .long) rm D q c sz av F A post := by
  refine Met.ofW (cc := bytes) (maxL := maxL) (ret := (some .long)) hy rfl ?_
  intro p e s m args below meth c0 s₁ B hml hv
  obtain ⟨rfl, hsz, hP, hK, hD0⟩ := hv
  subst hsz
  have hl := lv_entry av (n := maxL) hlen
  rw [lg_entry_eq]
  refine body p e s m _ below meth c0 (va_A (gw q c F A) s.heap.size) _ ⟨⟨B.exec, B.bytes, hml, findClass_of_methodNamed B.named, atoms_spec (ws := Cond.code y bytes maxL (some .long) :: zG) B.pre⟩, hK, fun x h => Or.inr h⟩ ?_ hP hD0.self va_S.rf _ hl
  intro z F1 A1 H locs pc ls hdg hP1 hD1 hS1 hpost
  exact z_lret B.exec B.bytes B.returns B.notSynchronized hP1 hD1 hS1 hdg hpost
theorem z_ofV {post : (Nat → Int) → (Nat → Int → Int) → Prop} (hy : plainName y.cls = true) (hlen : (lg_sl av).length ≤ maxL)
    (body : ∀ (p : Program) (e : Env) (s : State) (m : MethodId) (args : Array Value) (below : List Frame) (meth : Method) (c0 : Code) (A0 : Nat → Prop) (Q : State → Prop), zCtx l y bytes maxL none D c p s m args c0 A0 →
      (∀ (F1 : Nat → Int) (A1 : Nat → Int → Int) (H : Heap) (locs : List Loc) (pc : Nat) (ls : Array Slot), decode bytes pc = .ok (.return_, 1) → va_P D zcl (gw q c F1 A1) H → va_D A0 (gw q c F1 A1) → va_S A0 s.heap H locs → post F1 A1 → W p l e rm s m args below meth c0 H locs 0 0 Q (F0 m pc ls [])) →
      va_P D zcl (gw q c F A) s.heap → va_D A0 (gw q c F A) → va_S A0 s.heap s.heap [] → ∀ ls : Array Slot, lv_has ls maxL (lv_args 0 av) → W p l e rm s m args below meth c0 s.heap [] 0 0 Q (F0 m 0 ls [])) :
    zMV l y bytes maxL none rm D q c sz av F A post := by
  refine Met.ofW (cc := bytes) (maxL := maxL) (ret := none) hy rfl ?_
  intro p e s m args below meth c0 s₁ B hml hv
  obtain ⟨rfl, hsz, hP, hK, hD0⟩ := hv
  subst hsz
  have hl := lv_entry av (n := maxL) hlen
  rw [lg_entry_eq]
  refine body p e s m _ below meth c0 (va_A (gw q c F A) s.heap.size) _ ⟨⟨B.exec, B.bytes, hml, findClass_of_methodNamed B.named, atoms_spec (ws := Cond.code y bytes maxL none :: zG) B.pre⟩, hK, fun x h => Or.inr h⟩ ?_ hP hD0.self va_S.rf _ hl
  intro F1 A1 H locs pc ls hdg hP1 hD1 hS1 hpost
  exact z_vret B.exec B.bytes B.returns B.notSynchronized hP1 hD1 hS1 hdg hpost
end ZM
theorem z_gS {w0 w1 : Cond} (h5 : w1 ∈ zG) : GoodIn (w0 :: zG) (w1 :: zG) := fun w h => by
  rcases List.mem_cons.mp h with rfl | h
  · exact ⟨List.mem_cons_of_mem _ h5, good_of_word (List.mem_filter.mp h5).2⟩
  · exact ⟨List.mem_cons_of_mem _ h, good_of_word (List.mem_filter.mp h).2⟩
theorem z_gA {w0 : Cond} {pre ws : List Cond} (hp : ∀ w ∈ pre, w ∈ zG) (h : GoodIn (w0 :: zG) ws) : GoodIn (w0 :: zG) (pre ++ ws) := fun w hw => by
  rcases List.mem_append.mp hw with h1 | h1
  · exact ⟨List.mem_cons_of_mem _ (hp w h1), good_of_word (List.mem_filter.mp (hp w h1)).2⟩
  · exact h w h1
/-- which way a call goes: how many words, the words themselves -/
abbrev zCW (R : Room) (y : MethodName) (maxL : Nat) (rm : Room) (n : Nat) : Prop := (y.cls ≠ "java/lang/invoke/MethodHandle" ∧ y.cls ≠ "java/lang/invoke/VarHandle" ∧ (parseMethodDescriptor y.desc).map (fun d => d.parameters.length) = some n) ∧ (rm.frames + 1 ≤ R.frames ∧ 8 + (maxL + 11) + rm.locals ≤ R.locals) ∧ rm.cells = 0 ∧ rm.slots = 0
section ZC
variable {p : Program} {l : Launch} {e : Env} {R : Room} {s : State} {m : MethodId} {args : Array Value} {below : List Frame} {meth : Method} {c0 : Code} {H : Heap} {locs : List Loc} {cells slots : Nat} {Q : State → Prop}
variable {cc bytes : ByteArray} {maxL nL n index : Nat} {ret : Option FieldType} {rm : Room} {w0 : Cond} {own C host : String} {y : MethodName} {b : Addr} {As rest st0 : List Value} {pc : Nat} {ls : Array Slot}
variable {D : va_G} {q : Nat → Nat} {c : Nat → ClassId} {F : Nat → Int} {A : Nat → Int → Int} {A0 : Nat → Prop}
/-- the runs -/
theorem z_runV {Qc : Array Value → State → Outcome → State → Prop} {free : Addr → Prop} {k ci : Nat} {r : vw_C} {fs : List Value} (S : CallFix p m c0 cc nL s args (w0 :: zG) own) (hM : Met l y (Cond.code y bytes maxL ret :: zG) rm (va_Pc (.ref b :: As) (zB D q c F A H.size)) Qc 0 0 free)
    (h1 : Cond.methodLink own index y ∈ zG) (h2 : Cond.instanceMethod y ∈ zG) (h3 : Cond.selects y.cls y y ∈ zG) (h4 : Cond.initialized y.cls ∈ zG) (h5 : Cond.code y bytes maxL ret ∈ zG) (hd : zCW R y maxL rm n)
    (hK : va_K D zcl (zty c) s ∧ zNW s) (hP : va_P D zcl (gw q c F A) H) (hD : va_D A0 (gw q c F A)) (hk : (gw q c F A)[k]? = some (b, .inr (ci, fs))) (hc : zcl[ci]? = some r) (hr : r.1 = y.cls) (hn : As.length = n) (hsz : ls.size = nL) (hst : st0 = As.reverse ++ .ref b :: rest) (hW : (rest.map fun v => v.category).sum ≤ 8) (hdg : decode cc pc = .ok (.invokevirtual index, 3)) (hf : cells ≤ R.cells ∧ slots ≤ R.slots) :
    va_Run p l e R s m args below meth c0 H locs cells slots 0 0 (F0 m pc ls st0) rest (Qc (Value.ref b :: As).toArray) free := by
  refine va_runV (C := y.cls) S hM (cwV n S.2.2.2.2 (z_gA (fun w hw => ?_) (z_gS h5)) rfl hd.2.2.1 hd.2.2.2 ⟨rfl, hd.1⟩ hd.2.1) ⟨z_blind, by rw [← hr]; exact va_recv hK.1 hP hc hk, z_pre hK hP hD⟩ rfl hn hsz hst (lv_room hW) hdg hf
  simp only [List.mem_cons, List.not_mem_nil, or_false] at hw
  rcases hw with rfl | rfl | rfl | rfl <;> assumption
theorem z_runVN {Qc : Array Value → State → Outcome → State → Prop} {free : Addr → Prop} {k ci : Nat} {r : vw_C} {fs : List Value} (S : CallFix p m c0 cc nL s args (w0 :: zG) own) (hM : Met l y (Cond.code y bytes maxL ret :: zG) rm (va_Pc (.ref b :: As) (zB D q c F A H.size)) Qc 0 0 free)
    (h1 : Cond.methodLinkNest own index y host ∈ zNs) (h2 : Cond.instanceMethod y ∈ zG) (h3 : Cond.selects y.cls y y ∈ zG) (h4 : Cond.initialized y.cls ∈ zG) (h5 : Cond.code y bytes maxL ret ∈ zG) (hd : zCW R y maxL rm n)
    (hK : va_K D zcl (zty c) s ∧ zNW s) (hP : va_P D zcl (gw q c F A) H) (hD : va_D A0 (gw q c F A)) (hk : (gw q c F A)[k]? = some (b, .inr (ci, fs))) (hc : zcl[ci]? = some r) (hr : r.1 = y.cls) (hn : As.length = n) (hsz : ls.size = nL) (hst : st0 = As.reverse ++ .ref b :: rest) (hW : (rest.map fun v => v.category).sum ≤ 8) (hdg : decode cc pc = .ok (.invokevirtual index, 3)) (hf : cells ≤ R.cells ∧ slots ≤ R.slots) :
    va_Run p l e R s m args below meth c0 H locs cells slots 0 0 (F0 m pc ls st0) rest (Qc (Value.ref b :: As).toArray) free := by
  have ok : ∀ w ∈ zG, w.before args s = true := fun w h => S.2.2.2.2 w (List.mem_cons_of_mem _ h)
  exact va_runVN (C := y.cls) S hM ⟨va_cnB n S.2.2.2.2 (z_gS h5) rfl hd.2.2.1 hd.2.2.2 (hK.2 _ h1) (ok _ h4) hd.1 hd.2.1, ok _ h2, ok _ h3⟩ ⟨z_blind, by rw [← hr]; exact va_recv hK.1 hP hc hk, z_pre hK hP hD⟩ rfl hn hsz hst (lv_room hW) hdg hf
theorem z_runS {Qc : Array Value → State → Outcome → State → Prop} {free : Addr → Prop} (S : CallFix p m c0 cc nL s args (w0 :: zG) own) (hM : Met l y (Cond.code y bytes maxL ret :: zG) rm (va_Pc As (zB D q c F A H.size)) Qc 0 0 free)
    (h1 : Cond.methodLink own index y ∈ zG) (h2 : Cond.static y ∈ zG) (h4 : Cond.initialized own ∈ zG) (h5 : Cond.code y bytes maxL ret ∈ zG) (hd : zCW R y maxL rm n) (ho : y.cls = own)
    (hK : va_K D zcl (zty c) s ∧ zNW s) (hP : va_P D zcl (gw q c F A) H) (hD : va_D A0 (gw q c F A)) (hn : As.length = n) (hsz : ls.size = nL) (hst : st0 = As.reverse ++ rest) (hW : (rest.map fun v => v.category).sum ≤ 8) (hdg : decode cc pc = .ok (.invokestatic index, 3)) (hf : cells ≤ R.cells ∧ slots ≤ R.slots) :
    va_Run p l e R s m args below meth c0 H locs cells slots 0 0 (F0 m pc ls st0) rest (Qc As.toArray) free := by
  refine va_runS S hM (cwS n S.2.2.2.2 (z_gA (fun w hw => ?_) (z_gS h5)) rfl hd.2.2.1 hd.2.2.2 ⟨ho, hd.1⟩ hd.2.1) ⟨z_blind, z_pre hK hP hD⟩ rfl hn hsz hst (lv_room hW) hdg hf
  simp only [List.mem_cons, List.not_mem_nil, or_false] at hw
  rcases hw with rfl | rfl | rfl <;> assumption
theorem z_runSN {Qc : Array Value → State → Outcome → State → Prop} {free : Addr → Prop} (S : CallFix p m c0 cc nL s args (w0 :: zG) own) (hM : Met l y (Cond.code y bytes maxL ret :: zG) rm (va_Pc As (zB D q c F A H.size)) Qc 0 0 free)
    (h1 : Cond.methodLinkNest own index y host ∈ zNs) (h2 : Cond.static y ∈ zG) (h4 : Cond.initialized y.cls ∈ zG) (h5 : Cond.code y bytes maxL ret ∈ zG) (hd : zCW R y maxL rm n)
    (hK : va_K D zcl (zty c) s ∧ zNW s) (hP : va_P D zcl (gw q c F A) H) (hD : va_D A0 (gw q c F A)) (hn : As.length = n) (hsz : ls.size = nL) (hst : st0 = As.reverse ++ rest) (hW : (rest.map fun v => v.category).sum ≤ 8) (hdg : decode cc pc = .ok (.invokestatic index, 3)) (hf : cells ≤ R.cells ∧ slots ≤ R.slots) :
    va_Run p l e R s m args below meth c0 H locs cells slots 0 0 (F0 m pc ls st0) rest (Qc As.toArray) free := by
  have ok : ∀ w ∈ zG, w.before args s = true := fun w h => S.2.2.2.2 w (List.mem_cons_of_mem _ h)
  exact va_runSN S hM ⟨va_cnB n S.2.2.2.2 (z_gS h5) rfl hd.2.2.1 hd.2.2.2 (hK.2 _ h1) (ok _ h4) hd.1 hd.2.1, ok _ h2, trivial⟩ ⟨z_blind, z_pre hK hP hD⟩ rfl hn hsz hst (lv_room hW) hdg hf
/-- behind a run -/
theorem z_goi {a : Array Value} {H0 : Heap} {post : Int → (Nat → Int) → (Nat → Int → Int) → Prop} (hr : va_Run p l e R s m args below meth c0 H locs cells slots 0 0 (F0 m pc ls st0) rest (va_Qi (zPi post) (zW D q c (va_A (gw q c F A) H.size)) (va_A (gw q c F A) H.size) a) (va_A (gw q c F A) H.size)) (hD : va_D A0 (gw q c F A)) (hS : va_S A0 H0 H locs) (hA : ∀ x, H0.size ≤ x → A0 x)
    (kk : ∀ (z : Int) (F1 : Nat → Int) (A1 : Nat → Int → Int) (H1 : Heap) (locs1 : List Loc), post z F1 A1 → va_P D zcl (gw q c F1 A1) H1 → va_D A0 (gw q c F1 A1) → va_S A0 H0 H1 locs1 → W p l e R s m args below meth c0 H1 locs1 cells slots Q (F0 m (pc + 3) ls (.int (iI z) :: rest))) : W p l e R s m args below meth c0 H locs cells slots Q (F0 m pc ls st0) :=
  x_calli (gwf := fun u : zS => gw q c u.1 u.2) hr hD hS hA (fun r u H1 locs1 hp h1 h2 h3 => by
    obtain ⟨z, rfl, hp⟩ := hp
    exact kk z u.1 u.2 H1 locs1 hp h1 h2 h3)
theorem z_gov {a : Array Value} {H0 : Heap} {post : (Nat → Int) → (Nat → Int → Int) → Prop} (hr : va_Run p l e R s m args below meth c0 H locs cells slots 0 0 (F0 m pc ls st0) rest (va_Qv (zPv post) (zW D q c (va_A (gw q c F A) H.size)) (va_A (gw q c F A) H.size) a) (va_A (gw q c F A) H.size)) (hD : va_D A0 (gw q c F A)) (hS : va_S A0 H0 H locs) (hA : ∀ x, H0.size ≤ x → A0 x)
    (kk : ∀ (F1 : Nat → Int) (A1 : Nat → Int → Int) (H1 : Heap) (locs1 : List Loc), post F1 A1 → va_P D zcl (gw q c F1 A1) H1 → va_D A0 (gw q c F1 A1) → va_S A0 H0 H1 locs1 → W p l e R s m args below meth c0 H1 locs1 cells slots Q (F0 m (pc + 3) ls rest)) : W p l e R s m args below meth c0 H locs cells slots Q (F0 m pc ls st0) :=
  x_callv (gwf := fun u : zS => gw q c u.1 u.2) hr hD hS hA (fun u H1 locs1 hp h1 h2 h3 => kk u.1 u.2 H1 locs1 hp h1 h2 h3)
end ZC
