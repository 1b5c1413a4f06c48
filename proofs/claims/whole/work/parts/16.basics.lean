/-! rows for locals that are told one by one, and for what comes out -/
theorem a_nil : mzar [] = [] := mzrf rfl
theorem a_int (z : Int32) (t : List Value) : mzar (.int z :: t) = some (.int z) :: mzar t := mzrf rfl
theorem a_long (z : Int64) (t : List Value) : mzar (.long z :: t) = some (.long z) :: none :: mzar t := mzrf rfl
theorem a_ref (z : Nat) (t : List Value) : mzar (.ref z :: t) = some (.ref z) :: mzar t := mzrf rfl
theorem a_null (t : List Value) : mzar (.null :: t) = some .null :: mzar t := mzrf rfl
theorem st_int (ls : mzL) (k : Nat) (z : Int32) : mzst ls k (.int z) = (mzkill ls k).set k (some (.int z)) := mzrf rfl
theorem st_ref (ls : mzL) (k : Nat) (z : Nat) : mzst ls k (.ref z) = (mzkill ls k).set k (some (.ref z)) := mzrf rfl
theorem st_null (ls : mzL) (k : Nat) : mzst ls k .null = (mzkill ls k).set k (some .null) := mzrf rfl
theorem st_long (ls : mzL) (k : Nat) (z : Int64) : mzst ls k (.long z) = ((mzkill ls k).set (k + 1) none).set k (some (.long z)) := mzrf rfl
theorem kl_0 (ls : mzL) : mzkill ls 0 = ls := mzrf rfl
theorem kl_s (ls : mzL) (k : Nat) : mzkill ls (k + 1) = (match ls[k]? with | some (some (.long _)) => ls.set k none | some (some (.double _)) => ls.set k none | _ => ls) := mzrf rfl
theorem rf_some (z : Nat) : va_rf (some z) = .ref z := mzrf rfl
theorem rf_none : va_rf none = .null := mzrf rfl
theorem mzand_l {a b : Prop} (h : a) : (a ∧ b) = b := propext ⟨fun q => q.2, fun q => ⟨h, q⟩⟩
theorem mzz01 (c : Prop) [Decidable c] : (Value.int (if c then 1 else 0) = .int 0 ∨ Value.int (if c then 1 else 0) = .int 1) = True := by
  by_cases h : c <;> simp [h]
theorem mzne0 (c : Prop) [Decidable c] : mzcmp .ne (if c then 1 else 0) 0 = decide c := by
  by_cases h : c <;> simp [h, mzcmp]
theorem in_0_2 : vp_in 0 2 = True := eq_true (by unfold vp_in; decide)
theorem in_1_2 : vp_in 1 2 = True := eq_true (by unfold vp_in; decide)
theorem it_ne0 (c : Prop) [Decidable c] : (¬ (if c then (1 : Int32) else 0) = 0) = c := by
  by_cases h : c <;> simp [h]
theorem it_eq0 (c : Prop) [Decidable c] : ((if c then (1 : Int32) else 0) = 0) = ¬ c := by
  by_cases h : c <;> simp [h]
theorem it_eq1 (c : Prop) [Decidable c] : ((if c then (1 : Int32) else 0) = 1) = c := by
  by_cases h : c <;> simp [h]
def kdOf (b : Int32) : Int32 := if b = 46 then 0 else if b = 114 then 1 else if b = 100 then 2 else if b = 98 then 3 else (-1)
def hdOf (b : Int32) : Int32 := if b = 110 then 0 else if b = 101 then 1 else if b = 115 then 2 else if b = 119 then 3 else (-1)
def haOf (b : Int32) : Int32 := if b = 108 then 0 else if b = 114 then 1 else if b = 97 then 2 else (-1)
theorem eq_10 : ((1 : Int32) = 0) = False := eq_false (by decide)
theorem eq_20 : ((2 : Int32) = 0) = False := eq_false (by decide)
theorem eq_21 : ((2 : Int32) = 1) = False := eq_false (by decide)
theorem eq_01 : ((0 : Int32) = 1) = False := eq_false (by decide)
theorem it_n0 (c : Prop) [Decidable c] : ((if c then nI 1 else nI 0) = nI 0) = ¬ c := it_eq0 c
theorem it_n1 (c : Prop) [Decidable c] : ((if c then nI 1 else nI 0) = nI 1) = c := it_eq1 c
def trI (hand head k : Int32) : Int32 := mzrem (head + (if k = 3 then 2 else if hand = 0 then mzrem (k + 3) 4 else if hand = 1 then mzrem (5 - k) 4 else if k = 0 then 0 else if k = 1 then 3 else 1)) 4
def bsI (W day way : Int32) : Int32 := if way = 0 then day - W else if way = 1 then day + 1 else if way = 2 then day + W else day - 1
