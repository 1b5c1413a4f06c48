/-! the cells: the reference (mR), the class (mC; sw: the two rows of chances are exchanged) -/
def shR : Nat → Nat × Nat := fun i => match i with
  | 0 => (12, 0)
  | 1 => (0, 2)
  | 2 => (0, 82)
  | 3 => (0, 37)
  | 4 => (0, 9)
  | 5 => (0, 9)
  | 6 => (0, 9)
  | 7 => (0, 2)
  | 8 => (0, 16)
  | 9 => (0, 16)
  | 10 => (0, 16)
  | 11 => (0, 3600)
  | 12 => (0, 36)
  | 13 => (0, 2)
  | 14 => (0, 8)
  | 15 => (0, 8)
  | 16 => (0, 36)
  | 17 => (1, 36)
  | 18 => (1, 36)
  | 19 => (2, 4)
  | 20 => (0, 4)
  | 21 => (0, 4)
  | 22 => (0, 240)
  | 23 => (0, 60)
  | _ => (99, 0)
theorem shR_0 : shR 0 = (12, 0) := mzrf rfl
theorem shR_1 : shR 1 = (0, 2) := mzrf rfl
theorem shR_2 : shR 2 = (0, 82) := mzrf rfl
theorem shR_3 : shR 3 = (0, 37) := mzrf rfl
theorem shR_4 : shR 4 = (0, 9) := mzrf rfl
theorem shR_5 : shR 5 = (0, 9) := mzrf rfl
theorem shR_6 : shR 6 = (0, 9) := mzrf rfl
theorem shR_7 : shR 7 = (0, 2) := mzrf rfl
theorem shR_8 : shR 8 = (0, 16) := mzrf rfl
theorem shR_9 : shR 9 = (0, 16) := mzrf rfl
theorem shR_10 : shR 10 = (0, 16) := mzrf rfl
theorem shR_11 : shR 11 = (0, 3600) := mzrf rfl
theorem shR_12 : shR 12 = (0, 36) := mzrf rfl
theorem shR_13 : shR 13 = (0, 2) := mzrf rfl
theorem shR_14 : shR 14 = (0, 8) := mzrf rfl
theorem shR_15 : shR 15 = (0, 8) := mzrf rfl
theorem shR_16 : shR 16 = (0, 36) := mzrf rfl
theorem shR_17 : shR 17 = (1, 36) := mzrf rfl
theorem shR_18 : shR 18 = (1, 36) := mzrf rfl
theorem shR_19 : shR 19 = (2, 4) := mzrf rfl
theorem shR_20 : shR 20 = (0, 4) := mzrf rfl
theorem shR_21 : shR 21 = (0, 4) := mzrf rfl
theorem shR_22 : shR 22 = (0, 240) := mzrf rfl
theorem shR_23 : shR 23 = (0, 60) := mzrf rfl
def rrR : Nat → Nat → Option Nat := fun i k => match i with
  | 0 => (match k with
    | 0 => some 1
    | 1 => some 2
    | 5 => some 3
    | 7 => some 4
    | 8 => some 5
    | 9 => some 6
    | 10 => some 7
    | 11 => some 8
    | 12 => some 9
    | 13 => some 10
    | 14 => some 11
    | 15 => some 12
    | 16 => some 13
    | 18 => some 14
    | 19 => some 15
    | 20 => some 16
    | 21 => some 17
    | 22 => some 18
    | 23 => some 19
    | 24 => some 20
    | 25 => some 21
    | 26 => some 22
    | 27 => some 23
    | _ => none)
  | _ => none
theorem rrR_0_0 : rrR 0 0 = some 1 := mzrf rfl
theorem rrR_0_1 : rrR 0 1 = some 2 := mzrf rfl
theorem rrR_0_5 : rrR 0 5 = some 3 := mzrf rfl
theorem rrR_0_7 : rrR 0 7 = some 4 := mzrf rfl
theorem rrR_0_8 : rrR 0 8 = some 5 := mzrf rfl
theorem rrR_0_9 : rrR 0 9 = some 6 := mzrf rfl
theorem rrR_0_10 : rrR 0 10 = some 7 := mzrf rfl
theorem rrR_0_11 : rrR 0 11 = some 8 := mzrf rfl
theorem rrR_0_12 : rrR 0 12 = some 9 := mzrf rfl
theorem rrR_0_13 : rrR 0 13 = some 10 := mzrf rfl
theorem rrR_0_14 : rrR 0 14 = some 11 := mzrf rfl
theorem rrR_0_15 : rrR 0 15 = some 12 := mzrf rfl
theorem rrR_0_16 : rrR 0 16 = some 13 := mzrf rfl
theorem rrR_0_18 : rrR 0 18 = some 14 := mzrf rfl
theorem rrR_0_19 : rrR 0 19 = some 15 := mzrf rfl
theorem rrR_0_20 : rrR 0 20 = some 16 := mzrf rfl
theorem rrR_0_21 : rrR 0 21 = some 17 := mzrf rfl
theorem rrR_0_22 : rrR 0 22 = some 18 := mzrf rfl
theorem rrR_0_23 : rrR 0 23 = some 19 := mzrf rfl
theorem rrR_0_24 : rrR 0 24 = some 20 := mzrf rfl
theorem rrR_0_25 : rrR 0 25 = some 21 := mzrf rfl
theorem rrR_0_26 : rrR 0 26 = some 22 := mzrf rfl
theorem rrR_0_27 : rrR 0 27 = some 23 := mzrf rfl
def shC : Nat → Nat × Nat := fun i => match i with
  | 0 => (11, 0)
  | 1 => (9, 0)
  | 2 => (0, 41)
  | 3 => (9, 0)
  | 4 => (0, 39)
  | 5 => (5, 0)
  | 6 => (1, 100)
  | 7 => (1, 100)
  | 8 => (10, 0)
  | 9 => (0, 8)
  | 10 => (0, 8)
  | 11 => (0, 8)
  | 12 => (6, 0)
  | 13 => (0, 8)
  | 14 => (0, 8)
  | 15 => (0, 8)
  | 16 => (6, 0)
  | 17 => (0, 8)
  | 18 => (0, 8)
  | 19 => (0, 8)
  | 20 => (8, 0)
  | 21 => (0, 100)
  | 22 => (3, 4)
  | 23 => (7, 0)
  | 24 => (0, 60)
  | 25 => (7, 0)
  | 26 => (0, 60)
  | 27 => (7, 0)
  | 28 => (0, 60)
  | 29 => (7, 0)
  | 30 => (0, 60)
  | 31 => (0, 2)
  | 32 => (4, 0)
  | 33 => (0, 144)
  | 34 => (0, 144)
  | 35 => (0, 144)
  | 36 => (0, 36)
  | 37 => (1, 36)
  | 38 => (1, 36)
  | _ => (99, 0)
theorem shC_0 : shC 0 = (11, 0) := mzrf rfl
theorem shC_1 : shC 1 = (9, 0) := mzrf rfl
theorem shC_2 : shC 2 = (0, 41) := mzrf rfl
theorem shC_3 : shC 3 = (9, 0) := mzrf rfl
theorem shC_4 : shC 4 = (0, 39) := mzrf rfl
theorem shC_5 : shC 5 = (5, 0) := mzrf rfl
theorem shC_6 : shC 6 = (1, 100) := mzrf rfl
theorem shC_7 : shC 7 = (1, 100) := mzrf rfl
theorem shC_8 : shC 8 = (10, 0) := mzrf rfl
theorem shC_9 : shC 9 = (0, 8) := mzrf rfl
theorem shC_10 : shC 10 = (0, 8) := mzrf rfl
theorem shC_11 : shC 11 = (0, 8) := mzrf rfl
theorem shC_12 : shC 12 = (6, 0) := mzrf rfl
theorem shC_13 : shC 13 = (0, 8) := mzrf rfl
theorem shC_14 : shC 14 = (0, 8) := mzrf rfl
theorem shC_15 : shC 15 = (0, 8) := mzrf rfl
theorem shC_16 : shC 16 = (6, 0) := mzrf rfl
theorem shC_17 : shC 17 = (0, 8) := mzrf rfl
theorem shC_18 : shC 18 = (0, 8) := mzrf rfl
theorem shC_19 : shC 19 = (0, 8) := mzrf rfl
theorem shC_20 : shC 20 = (8, 0) := mzrf rfl
theorem shC_21 : shC 21 = (0, 100) := mzrf rfl
theorem shC_22 : shC 22 = (3, 4) := mzrf rfl
theorem shC_23 : shC 23 = (7, 0) := mzrf rfl
theorem shC_24 : shC 24 = (0, 60) := mzrf rfl
theorem shC_25 : shC 25 = (7, 0) := mzrf rfl
theorem shC_26 : shC 26 = (0, 60) := mzrf rfl
theorem shC_27 : shC 27 = (7, 0) := mzrf rfl
theorem shC_28 : shC 28 = (0, 60) := mzrf rfl
theorem shC_29 : shC 29 = (7, 0) := mzrf rfl
theorem shC_30 : shC 30 = (0, 60) := mzrf rfl
theorem shC_31 : shC 31 = (0, 2) := mzrf rfl
theorem shC_32 : shC 32 = (4, 0) := mzrf rfl
theorem shC_33 : shC 33 = (0, 144) := mzrf rfl
theorem shC_34 : shC 34 = (0, 144) := mzrf rfl
theorem shC_35 : shC 35 = (0, 144) := mzrf rfl
theorem shC_36 : shC 36 = (0, 36) := mzrf rfl
theorem shC_37 : shC 37 = (1, 36) := mzrf rfl
theorem shC_38 : shC 38 = (1, 36) := mzrf rfl
def rrC (sw : Bool) : Nat → Nat → Option Nat := fun i k => match i with
  | 0 => (match k with
    | 0 => some 1
    | 1 => some 3
    | 2 => some 5
    | 3 => some 8
    | 4 => some 12
    | 5 => some 16
    | 6 => some 20
    | 7 => some 22
    | 9 => some 31
    | 10 => some 32
    | 11 => some 36
    | 12 => some (if sw then 38 else 37)
    | 13 => some (if sw then 37 else 38)
    | _ => none)
  | 1 => (match k with
    | 0 => some 2
    | _ => none)
  | 3 => (match k with
    | 0 => some 4
    | _ => none)
  | 5 => (match k with
    | 0 => some 6
    | 1 => some 7
    | _ => none)
  | 8 => (match k with
    | 0 => some 9
    | 1 => some 10
    | 2 => some 11
    | _ => none)
  | 12 => (match k with
    | 0 => some 13
    | 1 => some 14
    | 2 => some 15
    | _ => none)
  | 16 => (match k with
    | 0 => some 17
    | 1 => some 18
    | 2 => some 19
    | _ => none)
  | 20 => (match k with
    | 0 => some 21
    | _ => none)
  | 22 => (match k with
    | 0 => some 23
    | 1 => some 25
    | 2 => some 27
    | 3 => some 29
    | _ => none)
  | 23 => (match k with
    | 0 => some 24
    | _ => none)
  | 25 => (match k with
    | 0 => some 26
    | _ => none)
  | 27 => (match k with
    | 0 => some 28
    | _ => none)
  | 29 => (match k with
    | 0 => some 30
    | _ => none)
  | 32 => (match k with
    | 0 => some 33
    | 1 => some 34
    | 2 => some 35
    | _ => none)
  | _ => none
theorem rrC_0_0 {sw : Bool} : rrC sw 0 0 = some 1 := mzrf rfl
theorem rrC_0_1 {sw : Bool} : rrC sw 0 1 = some 3 := mzrf rfl
theorem rrC_0_2 {sw : Bool} : rrC sw 0 2 = some 5 := mzrf rfl
theorem rrC_0_3 {sw : Bool} : rrC sw 0 3 = some 8 := mzrf rfl
theorem rrC_0_4 {sw : Bool} : rrC sw 0 4 = some 12 := mzrf rfl
theorem rrC_0_5 {sw : Bool} : rrC sw 0 5 = some 16 := mzrf rfl
theorem rrC_0_6 {sw : Bool} : rrC sw 0 6 = some 20 := mzrf rfl
theorem rrC_0_7 {sw : Bool} : rrC sw 0 7 = some 22 := mzrf rfl
theorem rrC_0_9 {sw : Bool} : rrC sw 0 9 = some 31 := mzrf rfl
theorem rrC_0_10 {sw : Bool} : rrC sw 0 10 = some 32 := mzrf rfl
theorem rrC_0_11 {sw : Bool} : rrC sw 0 11 = some 36 := mzrf rfl
theorem rrC_0_12 {sw : Bool} : rrC sw 0 12 = some (if sw then 38 else 37) := mzrf rfl
theorem rrC_0_13 {sw : Bool} : rrC sw 0 13 = some (if sw then 37 else 38) := mzrf rfl
theorem rrC_1_0 {sw : Bool} : rrC sw 1 0 = some 2 := mzrf rfl
theorem rrC_3_0 {sw : Bool} : rrC sw 3 0 = some 4 := mzrf rfl
theorem rrC_5_0 {sw : Bool} : rrC sw 5 0 = some 6 := mzrf rfl
theorem rrC_5_1 {sw : Bool} : rrC sw 5 1 = some 7 := mzrf rfl
theorem rrC_8_0 {sw : Bool} : rrC sw 8 0 = some 9 := mzrf rfl
theorem rrC_8_1 {sw : Bool} : rrC sw 8 1 = some 10 := mzrf rfl
theorem rrC_8_2 {sw : Bool} : rrC sw 8 2 = some 11 := mzrf rfl
theorem rrC_12_0 {sw : Bool} : rrC sw 12 0 = some 13 := mzrf rfl
theorem rrC_12_1 {sw : Bool} : rrC sw 12 1 = some 14 := mzrf rfl
theorem rrC_12_2 {sw : Bool} : rrC sw 12 2 = some 15 := mzrf rfl
theorem rrC_16_0 {sw : Bool} : rrC sw 16 0 = some 17 := mzrf rfl
theorem rrC_16_1 {sw : Bool} : rrC sw 16 1 = some 18 := mzrf rfl
theorem rrC_16_2 {sw : Bool} : rrC sw 16 2 = some 19 := mzrf rfl
theorem rrC_20_0 {sw : Bool} : rrC sw 20 0 = some 21 := mzrf rfl
theorem rrC_22_0 {sw : Bool} : rrC sw 22 0 = some 23 := mzrf rfl
theorem rrC_22_1 {sw : Bool} : rrC sw 22 1 = some 25 := mzrf rfl
theorem rrC_22_2 {sw : Bool} : rrC sw 22 2 = some 27 := mzrf rfl
theorem rrC_22_3 {sw : Bool} : rrC sw 22 3 = some 29 := mzrf rfl
theorem rrC_23_0 {sw : Bool} : rrC sw 23 0 = some 24 := mzrf rfl
theorem rrC_25_0 {sw : Bool} : rrC sw 25 0 = some 26 := mzrf rfl
theorem rrC_27_0 {sw : Bool} : rrC sw 27 0 = some 28 := mzrf rfl
theorem rrC_29_0 {sw : Bool} : rrC sw 29 0 = some 30 := mzrf rfl
theorem rrC_32_0 {sw : Bool} : rrC sw 32 0 = some 33 := mzrf rfl
theorem rrC_32_1 {sw : Bool} : rrC sw 32 1 = some 34 := mzrf rfl
theorem rrC_32_2 {sw : Bool} : rrC sw 32 2 = some 35 := mzrf rfl
def mR (I : Nat → Nat → Int32) (L : Nat → Nat → Int64) : mzM := (shR, I, L, rrR)
def mC (I : Nat → Nat → Int32) (L : Nat → Nat → Int64) (sw : Bool) : mzM := (shC, I, L, rrC sw)
theorem mR_1 (I : Nat → Nat → Int32) (L : Nat → Nat → Int64) : (mR I L).1 = shR := mzrf rfl
theorem mR_2 (I : Nat → Nat → Int32) (L : Nat → Nat → Int64) : (mR I L).2.1 = I := mzrf rfl
theorem mR_3 (I : Nat → Nat → Int32) (L : Nat → Nat → Int64) : (mR I L).2.2.1 = L := mzrf rfl
theorem mR_4 (I : Nat → Nat → Int32) (L : Nat → Nat → Int64) : (mR I L).2.2.2 = rrR := mzrf rfl
theorem mR_p0 (I : Nat → Nat → Int32) (L : Nat → Nat → Int64) (id k : Nat) (z : Int32) : mzput 0 (mR I L) id k (.int z) = mR (mzset I id k z) L := mzrf rfl
theorem mR_p1 (I : Nat → Nat → Int32) (L : Nat → Nat → Int64) (id k : Nat) (z : Int64) : mzput 1 (mR I L) id k (.long z) = mR I (mzset L id k z) := mzrf rfl
theorem mR_a0 (I : Nat → Nat → Int32) (L : Nat → Nat → Int64) (id k : Nat) (z : Int32) : mzasto 0 (mR I L) id k (.int z) = mR (mzset I id k z) L := mzrf rfl
theorem mR_a1 (I : Nat → Nat → Int32) (L : Nat → Nat → Int64) (id k : Nat) (z : Int64) : mzasto 1 (mR I L) id k (.long z) = mR I (mzset L id k z) := mzrf rfl
theorem mR_a2 (I : Nat → Nat → Int32) (L : Nat → Nat → Int64) (id k : Nat) (z : Int32) : mzasto 2 (mR I L) id k (.int z) = mR (mzset I id k (vp_nar .boolean z)) L := mzrf rfl
theorem mR_g0 (I : Nat → Nat → Int32) (L : Nat → Nat → Int64) (id k : Nat) : mzget 0 (mR I L) id k = .int (I id k) := mzrf rfl
theorem mR_g1 (I : Nat → Nat → Int32) (L : Nat → Nat → Int64) (id k : Nat) : mzget 1 (mR I L) id k = .long (L id k) := mzrf rfl
theorem mR_d0 (I : Nat → Nat → Int32) (L : Nat → Nat → Int64) (id k : Nat) : mzald 0 (mR I L) id k = .int (I id k) := mzrf rfl
theorem mR_d1 (I : Nat → Nat → Int32) (L : Nat → Nat → Int64) (id k : Nat) : mzald 1 (mR I L) id k = .long (L id k) := mzrf rfl
theorem mC_1 (I : Nat → Nat → Int32) (L : Nat → Nat → Int64) (sw : Bool) : (mC I L sw).1 = shC := mzrf rfl
theorem mC_2 (I : Nat → Nat → Int32) (L : Nat → Nat → Int64) (sw : Bool) : (mC I L sw).2.1 = I := mzrf rfl
theorem mC_3 (I : Nat → Nat → Int32) (L : Nat → Nat → Int64) (sw : Bool) : (mC I L sw).2.2.1 = L := mzrf rfl
theorem mC_4 (I : Nat → Nat → Int32) (L : Nat → Nat → Int64) (sw : Bool) : (mC I L sw).2.2.2 = rrC sw := mzrf rfl
theorem mC_p0 (I : Nat → Nat → Int32) (L : Nat → Nat → Int64) (sw : Bool) (id k : Nat) (z : Int32) : mzput 0 (mC I L sw) id k (.int z) = mC (mzset I id k z) L sw := mzrf rfl
theorem mC_p1 (I : Nat → Nat → Int32) (L : Nat → Nat → Int64) (sw : Bool) (id k : Nat) (z : Int64) : mzput 1 (mC I L sw) id k (.long z) = mC I (mzset L id k z) sw := mzrf rfl
theorem mC_a0 (I : Nat → Nat → Int32) (L : Nat → Nat → Int64) (sw : Bool) (id k : Nat) (z : Int32) : mzasto 0 (mC I L sw) id k (.int z) = mC (mzset I id k z) L sw := mzrf rfl
theorem mC_a1 (I : Nat → Nat → Int32) (L : Nat → Nat → Int64) (sw : Bool) (id k : Nat) (z : Int64) : mzasto 1 (mC I L sw) id k (.long z) = mC I (mzset L id k z) sw := mzrf rfl
theorem mC_g0 (I : Nat → Nat → Int32) (L : Nat → Nat → Int64) (sw : Bool) (id k : Nat) : mzget 0 (mC I L sw) id k = .int (I id k) := mzrf rfl
theorem mC_g1 (I : Nat → Nat → Int32) (L : Nat → Nat → Int64) (sw : Bool) (id k : Nat) : mzget 1 (mC I L sw) id k = .long (L id k) := mzrf rfl
theorem mC_d0 (I : Nat → Nat → Int32) (L : Nat → Nat → Int64) (sw : Bool) (id k : Nat) : mzald 0 (mC I L sw) id k = .int (I id k) := mzrf rfl
theorem mC_d1 (I : Nat → Nat → Int32) (L : Nat → Nat → Int64) (sw : Bool) (id k : Nat) : mzald 1 (mC I L sw) id k = .long (L id k) := mzrf rfl
theorem gd_some (a : Nat) : (some a).getD 0 = a := mzrf rfl
theorem is_some (M : mzM) (a k : Nat) : mzis M (some a) k = ((M.1 a).1 = k) := mzrf rfl
theorem la_some (M : mzM) (a k : Nat) (i : Int32) : mzla M (some a) k i = ((M.1 a).1 = k ∧ vp_in i (M.1 a).2) := mzrf rfl
