def fX0 : pvF
  | 11 => some (0, 0, 2)
  | 31 => some (1, 3, 0)
  | _ => none
def kX0 : pvCo
  | 39 => some (vI 262143)
  | _ => none
def eX0 : pvEx
  | 50 => some 100
  | _ => none
def fX1 : pvF
  | 9 => some (1, 0, 2)
  | 15 => some (1, 1, 0)
  | 19 => some (1, 2, 2)
  | 22 => some (1, 3, 0)
  | 25 => some (1, 4, 0)
  | _ => none
def kX1 : pvCo
  | _ => none
def eX1 : pvEx
  | _ => none
def fX2 : pvF
  | 13 => some (2, 0, 2)
  | 17 => some (2, 1, 2)
  | 20 => some (2, 2, 0)
  | 24 => some (2, 3, 0)
  | 27 => some (2, 4, 1)
  | _ => none
def kX2 : pvCo
  | _ => none
def eX2 : pvEx
  | _ => none
def fX3 : pvF
  | 11 => some (3, 0, 2)
  | 17 => some (3, 1, 2)
  | 20 => some (3, 2, 2)
  | 23 => some (3, 3, 0)
  | 27 => some (3, 4, 0)
  | 30 => some (3, 5, 0)
  | 33 => some (3, 6, 1)
  | _ => none
def kX3 : pvCo
  | _ => none
def eX3 : pvEx
  | _ => none
def fX5 : pvF
  | 11 => some (5, 0, 2)
  | 15 => some (5, 1, 2)
  | 18 => some (5, 2, 2)
  | 21 => some (5, 3, 2)
  | 24 => some (5, 4, 0)
  | 50 => some (3, 4, 0)
  | 82 => some (3, 5, 0)
  | _ => none
def kX5 : pvCo
  | _ => none
def eX5 : pvEx
  | _ => none
def fX6 : pvF
  | 9 => some (6, 0, 2)
  | 15 => some (6, 1, 2)
  | 18 => some (6, 2, 2)
  | 23 => some (6, 3, 0)
  | 27 => some (6, 4, 0)
  | _ => none
def kX6 : pvCo
  | _ => none
def eX6 : pvEx
  | _ => none
def fX7 : pvF
  | _ => none
def kX7 : pvCo
  | 17 => some (vI 262143)
  | _ => none
def eX7 : pvEx
  | _ => none
def fX8 : pvF
  | 13 => some (7, 0, 2)
  | 17 => some (7, 1, 2)
  | 22 => some (3, 4, 0)
  | 36 => some (3, 5, 0)
  | _ => none
def kX8 : pvCo
  | 20 => some (vL 15)
  | _ => none
def eX8 : pvEx
  | 43 => some 101
  | _ => none
def fX9 : pvF
  | 10 => some (8, 0, 2)
  | 16 => some (8, 1, 2)
  | 22 => some (8, 2, 2)
  | 26 => some (8, 3, 2)
  | 29 => some (8, 4, 2)
  | 35 => some (8, 5, 2)
  | 42 => some (8, 6, 2)
  | 49 => some (8, 7, 2)
  | 56 => some (8, 8, 2)
  | 63 => some (8, 9, 2)
  | 70 => some (8, 10, 2)
  | 93 => some (1, 4, 0)
  | 172 => some (6, 4, 0)
  | 221 => some (3, 3, 0)
  | 303 => some (3, 6, 1)
  | _ => none
def kX9 : pvCo
  | _ => none
def eX9 : pvEx
  | 306 => some 0
  | 309 => some 1
  | 312 => some 2
  | 315 => some 3
  | _ => none
def fJ6 : pvF
  | _ => none
def kJ6 : pvCo
  | 265 => some (vI 1431655765)
  | 266 => some (vI 858993459)
  | 267 => some (vI 252645135)
  | _ => none
def eJ6 : pvEx
  | _ => none
def fJ9 : pvF
  | _ => none
def kJ9 : pvCo
  | _ => none
def eJ9 : pvEx
  | _ => none
theorem fX0_11 : fX0 11 = some (0, 0, 2) := rfl
theorem fX0_31 : fX0 31 = some (1, 3, 0) := rfl
theorem kX0_39 : kX0 39 = some (vI 262143) := rfl
theorem eX0_15 : eX0 15 = none := rfl
theorem eX0_46 : eX0 46 = none := rfl
theorem eX0_50 : eX0 50 = some 100 := rfl
theorem eX0_59 : eX0 59 = none := rfl
theorem eX0_75 : eX0 75 = none := rfl
theorem eX0_78 : eX0 78 = none := rfl
theorem fX1_9 : fX1 9 = some (1, 0, 2) := rfl
theorem fX1_15 : fX1 15 = some (1, 1, 0) := rfl
theorem fX1_19 : fX1 19 = some (1, 2, 2) := rfl
theorem fX1_22 : fX1 22 = some (1, 3, 0) := rfl
theorem fX1_25 : fX1 25 = some (1, 4, 0) := rfl
theorem eX1_28 : eX1 28 = none := rfl
theorem eX1_46 : eX1 46 = none := rfl
theorem eX1_50 : eX1 50 = none := rfl
theorem fX2_13 : fX2 13 = some (2, 0, 2) := rfl
theorem fX2_20 : fX2 20 = some (2, 2, 0) := rfl
theorem fX2_24 : fX2 24 = some (2, 3, 0) := rfl
theorem eX2_35 : eX2 35 = none := rfl
theorem fX3_11 : fX3 11 = some (3, 0, 2) := rfl
theorem fX3_17 : fX3 17 = some (3, 1, 2) := rfl
theorem fX3_20 : fX3 20 = some (3, 2, 2) := rfl
theorem fX3_23 : fX3 23 = some (3, 3, 0) := rfl
theorem fX3_27 : fX3 27 = some (3, 4, 0) := rfl
theorem fX3_30 : fX3 30 = some (3, 5, 0) := rfl
theorem fX3_33 : fX3 33 = some (3, 6, 1) := rfl
theorem eX3_64 : eX3 64 = none := rfl
theorem eX3_68 : eX3 68 = none := rfl
theorem eX3_83 : eX3 83 = none := rfl
theorem fX5_11 : fX5 11 = some (5, 0, 2) := rfl
theorem fX5_15 : fX5 15 = some (5, 1, 2) := rfl
theorem fX5_18 : fX5 18 = some (5, 2, 2) := rfl
theorem fX5_21 : fX5 21 = some (5, 3, 2) := rfl
theorem fX5_24 : fX5 24 = some (5, 4, 0) := rfl
theorem fX5_50 : fX5 50 = some (3, 4, 0) := rfl
theorem fX5_82 : fX5 82 = some (3, 5, 0) := rfl
theorem eX5_74 : eX5 74 = none := rfl
theorem eX5_78 : eX5 78 = none := rfl
theorem eX5_85 : eX5 85 = none := rfl
theorem eX5_89 : eX5 89 = none := rfl
theorem eX5_96 : eX5 96 = none := rfl
theorem eX5_113 : eX5 113 = none := rfl
theorem fX6_9 : fX6 9 = some (6, 0, 2) := rfl
theorem fX6_15 : fX6 15 = some (6, 1, 2) := rfl
theorem fX6_18 : fX6 18 = some (6, 2, 2) := rfl
theorem fX6_23 : fX6 23 = some (6, 3, 0) := rfl
theorem fX6_27 : fX6 27 = some (6, 4, 0) := rfl
theorem eX6_30 : eX6 30 = none := rfl
theorem eX6_34 : eX6 34 = none := rfl
theorem eX6_38 : eX6 38 = none := rfl
theorem kX7_17 : kX7 17 = some (vI 262143) := rfl
theorem eX7_9 : eX7 9 = none := rfl
theorem eX7_13 : eX7 13 = none := rfl
theorem fX8_13 : fX8 13 = some (7, 0, 2) := rfl
theorem fX8_17 : fX8 17 = some (7, 1, 2) := rfl
theorem fX8_22 : fX8 22 = some (3, 4, 0) := rfl
theorem fX8_36 : fX8 36 = some (3, 5, 0) := rfl
theorem kX8_20 : kX8 20 = some (vL 15) := rfl
theorem eX8_28 : eX8 28 = none := rfl
theorem eX8_43 : eX8 43 = some 101 := rfl
theorem eX8_49 : eX8 49 = none := rfl
theorem eX8_53 : eX8 53 = none := rfl
theorem eX8_61 : eX8 61 = none := rfl
theorem fX9_10 : fX9 10 = some (8, 0, 2) := rfl
theorem fX9_16 : fX9 16 = some (8, 1, 2) := rfl
theorem fX9_22 : fX9 22 = some (8, 2, 2) := rfl
theorem fX9_26 : fX9 26 = some (8, 3, 2) := rfl
theorem fX9_29 : fX9 29 = some (8, 4, 2) := rfl
theorem fX9_35 : fX9 35 = some (8, 5, 2) := rfl
theorem fX9_42 : fX9 42 = some (8, 6, 2) := rfl
theorem fX9_56 : fX9 56 = some (8, 8, 2) := rfl
theorem fX9_63 : fX9 63 = some (8, 9, 2) := rfl
theorem fX9_70 : fX9 70 = some (8, 10, 2) := rfl
theorem fX9_93 : fX9 93 = some (1, 4, 0) := rfl
theorem fX9_172 : fX9 172 = some (6, 4, 0) := rfl
theorem fX9_221 : fX9 221 = some (3, 3, 0) := rfl
theorem fX9_303 : fX9 303 = some (3, 6, 1) := rfl
theorem eX9_74 : eX9 74 = none := rfl
theorem eX9_78 : eX9 78 = none := rfl
theorem eX9_86 : eX9 86 = none := rfl
theorem eX9_97 : eX9 97 = none := rfl
theorem eX9_128 : eX9 128 = none := rfl
theorem eX9_136 : eX9 136 = none := rfl
theorem eX9_189 : eX9 189 = none := rfl
theorem eX9_204 : eX9 204 = none := rfl
theorem eX9_264 : eX9 264 = none := rfl
theorem eX9_268 : eX9 268 = none := rfl
theorem eX9_306 : eX9 306 = some 0 := rfl
theorem eX9_309 : eX9 309 = some 1 := rfl
theorem eX9_312 : eX9 312 = some 2 := rfl
theorem eX9_315 : eX9 315 = some 3 := rfl
theorem kJ6_265 : kJ6 265 = some (vI 1431655765) := rfl
theorem kJ6_266 : kJ6 266 = some (vI 858993459) := rfl
theorem kJ6_267 : kJ6 267 = some (vI 252645135) := rfl

