/-- cell id: an object of class ci (its place in vwCl), or an array: 0 of ints, 1 of longs, 2 of doubles, with its length -/
def pvSh : Nat → Nat ⊕ (Nat × Nat)
  | 0 => .inl 8
  | 1 => .inl 0
  | 2 => .inr (0, 173)
  | 3 => .inl 0
  | 4 => .inr (0, 173)
  | 5 => .inl 3
  | 6 => .inr (0, 648)
  | 7 => .inr (0, 16)
  | 8 => .inr (0, 16)
  | 9 => .inl 3
  | 10 => .inr (0, 648)
  | 11 => .inr (0, 16)
  | 12 => .inr (0, 16)
  | 13 => .inl 3
  | 14 => .inr (0, 648)
  | 15 => .inr (0, 16)
  | 16 => .inr (0, 16)
  | 17 => .inl 1
  | 18 => .inr (0, 30)
  | 19 => .inr (0, 12)
  | 20 => .inl 6
  | 21 => .inr (0, 10)
  | 22 => .inr (0, 10)
  | 23 => .inr (0, 10)
  | 24 => .inl 4
  | 25 => .inr (1, 4)
  | 26 => .inr (1, 4)
  | 27 => .inr (0, 11)
  | 28 => .inl 5
  | 29 => .inr (0, 23552)
  | 30 => .inr (0, 23552)
  | 31 => .inr (0, 23552)
  | 32 => .inr (0, 12)
  | 33 => .inl 7
  | 34 => .inr (1, 3456)
  | 35 => .inr (1, 3456)
  | 36 => .inl 2
  | 37 => .inr (0, 2768)
  | 38 => .inr (0, 346)
  | n => .inr (0, (n - 64) % 128)
def pvNf : Nat → Nat
  | 0 => 1
  | 1 => 5
  | 2 => 5
  | 3 => 7
  | 4 => 3
  | 5 => 5
  | 6 => 5
  | 7 => 2
  | 8 => 11
  | 9 => 4
  | 10 => 4
  | _ => 0
/-- kind of a field: 0 int, 1 boolean, 2 a reference that stays -/
def pvKd : Nat → Nat → Nat
  | 0, 0 => 2
  | 1, 0 => 2
  | 1, 2 => 2
  | 2, 0 => 2
  | 2, 1 => 2
  | 2, 4 => 1
  | 3, 0 => 2
  | 3, 1 => 2
  | 3, 2 => 2
  | 3, 6 => 1
  | 4, 0 => 2
  | 4, 1 => 2
  | 4, 2 => 2
  | 5, 0 => 2
  | 5, 1 => 2
  | 5, 2 => 2
  | 5, 3 => 2
  | 6, 0 => 2
  | 6, 1 => 2
  | 6, 2 => 2
  | 7, 0 => 2
  | 7, 1 => 2
  | 8, 0 => 2
  | 8, 1 => 2
  | 8, 2 => 2
  | 8, 3 => 2
  | 8, 4 => 2
  | 8, 5 => 2
  | 8, 6 => 2
  | 8, 7 => 2
  | 8, 8 => 2
  | 8, 9 => 2
  | 8, 10 => 2
  | 9, 0 => 2
  | 9, 1 => 3
  | 9, 3 => 1
  | 10, 0 => 2
  | 10, 1 => 3
  | 10, 2 => 1
  | _, _ => 0
def pvRf : Nat → Nat → Nat
  | 0, 0 => 1
  | 0, 1 => 3
  | 0, 2 => 5
  | 0, 3 => 9
  | 0, 4 => 13
  | 0, 5 => 17
  | 0, 6 => 20
  | 0, 7 => 24
  | 0, 8 => 28
  | 0, 9 => 33
  | 0, 10 => 36
  | 1, 0 => 2
  | 3, 0 => 4
  | 5, 0 => 6
  | 5, 1 => 7
  | 5, 2 => 8
  | 9, 0 => 10
  | 9, 1 => 11
  | 9, 2 => 12
  | 13, 0 => 14
  | 13, 1 => 15
  | 13, 2 => 16
  | 17, 0 => 18
  | 17, 2 => 19
  | 20, 0 => 21
  | 20, 1 => 22
  | 20, 2 => 23
  | 24, 0 => 25
  | 24, 1 => 26
  | 24, 2 => 27
  | 28, 0 => 29
  | 28, 1 => 30
  | 28, 2 => 31
  | 28, 3 => 32
  | 33, 0 => 34
  | 33, 1 => 35
  | 36, 0 => 37
  | 36, 1 => 38
  | _, _ => 0
theorem pvSh_0 : pvSh 0 = .inl 8 := rfl
theorem pvSh_1 : pvSh 1 = .inl 0 := rfl
theorem pvSh_2 : pvSh 2 = .inr (0, 173) := rfl
theorem pvSh_3 : pvSh 3 = .inl 0 := rfl
theorem pvSh_4 : pvSh 4 = .inr (0, 173) := rfl
theorem pvSh_5 : pvSh 5 = .inl 3 := rfl
theorem pvSh_6 : pvSh 6 = .inr (0, 648) := rfl
theorem pvSh_7 : pvSh 7 = .inr (0, 16) := rfl
theorem pvSh_8 : pvSh 8 = .inr (0, 16) := rfl
theorem pvSh_9 : pvSh 9 = .inl 3 := rfl
theorem pvSh_10 : pvSh 10 = .inr (0, 648) := rfl
theorem pvSh_11 : pvSh 11 = .inr (0, 16) := rfl
theorem pvSh_12 : pvSh 12 = .inr (0, 16) := rfl
theorem pvSh_13 : pvSh 13 = .inl 3 := rfl
theorem pvSh_14 : pvSh 14 = .inr (0, 648) := rfl
theorem pvSh_15 : pvSh 15 = .inr (0, 16) := rfl
theorem pvSh_16 : pvSh 16 = .inr (0, 16) := rfl
theorem pvSh_17 : pvSh 17 = .inl 1 := rfl
theorem pvSh_18 : pvSh 18 = .inr (0, 30) := rfl
theorem pvSh_19 : pvSh 19 = .inr (0, 12) := rfl
theorem pvSh_20 : pvSh 20 = .inl 6 := rfl
theorem pvSh_21 : pvSh 21 = .inr (0, 10) := rfl
theorem pvSh_22 : pvSh 22 = .inr (0, 10) := rfl
theorem pvSh_23 : pvSh 23 = .inr (0, 10) := rfl
theorem pvSh_24 : pvSh 24 = .inl 4 := rfl
theorem pvSh_25 : pvSh 25 = .inr (1, 4) := rfl
theorem pvSh_26 : pvSh 26 = .inr (1, 4) := rfl
theorem pvSh_27 : pvSh 27 = .inr (0, 11) := rfl
theorem pvSh_28 : pvSh 28 = .inl 5 := rfl
theorem pvSh_29 : pvSh 29 = .inr (0, 23552) := rfl
theorem pvSh_30 : pvSh 30 = .inr (0, 23552) := rfl
theorem pvSh_31 : pvSh 31 = .inr (0, 23552) := rfl
theorem pvSh_32 : pvSh 32 = .inr (0, 12) := rfl
theorem pvSh_33 : pvSh 33 = .inl 7 := rfl
theorem pvSh_34 : pvSh 34 = .inr (1, 3456) := rfl
theorem pvSh_35 : pvSh 35 = .inr (1, 3456) := rfl
theorem pvSh_36 : pvSh 36 = .inl 2 := rfl
theorem pvSh_37 : pvSh 37 = .inr (0, 2768) := rfl
theorem pvSh_38 : pvSh 38 = .inr (0, 346) := rfl
theorem pvRf_0_0 : pvRf 0 0 = 1 := rfl
theorem pvRf_0_1 : pvRf 0 1 = 3 := rfl
theorem pvRf_0_2 : pvRf 0 2 = 5 := rfl
theorem pvRf_0_3 : pvRf 0 3 = 9 := rfl
theorem pvRf_0_4 : pvRf 0 4 = 13 := rfl
theorem pvRf_0_5 : pvRf 0 5 = 17 := rfl
theorem pvRf_0_6 : pvRf 0 6 = 20 := rfl
theorem pvRf_0_7 : pvRf 0 7 = 24 := rfl
theorem pvRf_0_8 : pvRf 0 8 = 28 := rfl
theorem pvRf_0_9 : pvRf 0 9 = 33 := rfl
theorem pvRf_0_10 : pvRf 0 10 = 36 := rfl
theorem pvRf_1_0 : pvRf 1 0 = 2 := rfl
theorem pvRf_3_0 : pvRf 3 0 = 4 := rfl
theorem pvRf_5_0 : pvRf 5 0 = 6 := rfl
theorem pvRf_5_1 : pvRf 5 1 = 7 := rfl
theorem pvRf_5_2 : pvRf 5 2 = 8 := rfl
theorem pvRf_9_0 : pvRf 9 0 = 10 := rfl
theorem pvRf_9_1 : pvRf 9 1 = 11 := rfl
theorem pvRf_9_2 : pvRf 9 2 = 12 := rfl
theorem pvRf_13_0 : pvRf 13 0 = 14 := rfl
theorem pvRf_13_1 : pvRf 13 1 = 15 := rfl
theorem pvRf_13_2 : pvRf 13 2 = 16 := rfl
theorem pvRf_17_0 : pvRf 17 0 = 18 := rfl
theorem pvRf_17_2 : pvRf 17 2 = 19 := rfl
theorem pvRf_20_0 : pvRf 20 0 = 21 := rfl
theorem pvRf_20_1 : pvRf 20 1 = 22 := rfl
theorem pvRf_20_2 : pvRf 20 2 = 23 := rfl
theorem pvRf_24_0 : pvRf 24 0 = 25 := rfl
theorem pvRf_24_1 : pvRf 24 1 = 26 := rfl
theorem pvRf_24_2 : pvRf 24 2 = 27 := rfl
theorem pvRf_28_0 : pvRf 28 0 = 29 := rfl
theorem pvRf_28_1 : pvRf 28 1 = 30 := rfl
theorem pvRf_28_2 : pvRf 28 2 = 31 := rfl
theorem pvRf_28_3 : pvRf 28 3 = 32 := rfl
theorem pvRf_33_0 : pvRf 33 0 = 34 := rfl
theorem pvRf_33_1 : pvRf 33 1 = 35 := rfl
theorem pvRf_36_0 : pvRf 36 0 = 37 := rfl
theorem pvRf_36_1 : pvRf 36 1 = 38 := rfl
