/-! the greatest common divisor: within how many rounds -/
theorem lm_bm {z : Int} (h1 : -9223372036854775808 ≤ z) (h2 : z < 9223372036854775808) : z.bmod (2 ^ 64) = z := by
  apply Int.bmod_eq_of_le <;> omega
theorem lm_rng (x : Int64) : -9223372036854775808 ≤ x.toInt ∧ x.toInt < 9223372036854775808 := by
  have h1 := Int64.minValue_le_toInt x
  have h2 := Int64.toInt_le x
  have e1 : Int64.minValue.toInt = -9223372036854775808 := by decide
  have e2 : Int64.maxValue.toInt = 9223372036854775807 := by decide
  omega
theorem lm_rem {z y : Int64} (h0 : ¬ y = 0) (hz : 1 ≤ y.toInt ∨ -9223372036854775807 ≤ z.toInt) : (mzlrem z y).toInt = z.toInt.tmod y.toInt := by
  have hy0 : y.toInt ≠ 0 := fun h => h0 (Int64.toInt_inj.mp h)
  obtain ⟨z1, z2⟩ := lm_rng z
  obtain ⟨y1, y2⟩ := lm_rng y
  have hq : (z.toInt.tdiv y.toInt).natAbs ≤ z.toInt.natAbs := Int.natAbs_tdiv_le_natAbs _ _
  have hm : z.toInt.tmod y.toInt + y.toInt * z.toInt.tdiv y.toInt = z.toInt := by first | exact Int.tmod_add_mul_tdiv _ _ | exact Int.tmod_add_tdiv_mul _ _ | (have := Int.mul_tdiv_add_tmod z.toInt y.toInt; omega)
  have hd : (z / y).toInt = z.toInt.tdiv y.toInt := by
    rw [Int64.toInt_div]
    apply lm_bm
    · omega
    · rcases hz with h | h
      · by_cases q : z.toInt = -9223372036854775808
        · have : z.toInt.tdiv y.toInt ≤ 0 := by
            rw [q, Int.neg_tdiv]
            have := Int.tdiv_nonneg (a := 9223372036854775808) (b := y.toInt) (by omega) (by omega)
            omega
          omega
        · omega
      · omega
  have hmn : (z.toInt.tmod y.toInt).natAbs ≤ z.toInt.natAbs := by
    rw [Int.natAbs_tmod]
    exact Nat.mod_le _ _
  have hms : (0 ≤ z.toInt → 0 ≤ z.toInt.tmod y.toInt) ∧ (z.toInt ≤ 0 → z.toInt.tmod y.toInt ≤ 0) := by
    refine ⟨fun h => Int.tmod_nonneg _ h, fun h => ?_⟩
    have := Int.tmod_nonneg (a := -z.toInt) y.toInt (by omega)
    rw [Int.neg_tmod] at this
    omega
  have he : y.toInt * z.toInt.tdiv y.toInt = z.toInt - z.toInt.tmod y.toInt := by omega
  have hp : (z / y * y).toInt = z.toInt - z.toInt.tmod y.toInt := by
    rw [Int64.toInt_mul, hd, Int.mul_comm, he]
    apply lm_bm <;> omega
  unfold mzlrem
  rw [Int64.toInt_sub, hp, show z.toInt - (z.toInt - z.toInt.tmod y.toInt) = z.toInt.tmod y.toInt by omega]
  apply lm_bm <;> omega
/-- it ends within f rounds -/
def dnN : Nat → Nat → Nat → Prop
  | 0, _, y => y = 0
  | f + 1, x, y => y = 0 ∨ dnN f y (x % y)
theorem dnN_pow : ∀ k x y, y < 2 ^ k → dnN (2 * k) x y := by
  intro k
  induction k with
  | zero => intro x y h; show y = 0; omega
  | succ k ih =>
    intro x y h
    rw [show 2 * (k + 1) = 2 * k + 1 + 1 by omega]
    by_cases h0 : y = 0
    · exact Or.inl h0
    · refine Or.inr ?_
      by_cases h1 : x % y = 0
      · exact Or.inl h1
      · refine Or.inr (ih _ _ ?_)
        have a1 := Nat.mod_lt x (show 0 < y by omega)
        generalize x % y = r at a1 h1 ⊢
        have a2 := Nat.mod_lt y (show 0 < r by omega)
        have a3 := Nat.div_add_mod y r
        have a4 : 1 ≤ y / r := Nat.div_pos (by omega) (by omega)
        have a5 : r * 1 ≤ r * (y / r) := Nat.mul_le_mul_left r a4
        rw [Nat.pow_succ] at h
        omega
theorem dnN_s : ∀ f x y, dnN f x y → dnN (f + 1) x y := by
  intro f
  induction f with
  | zero => intro x y h; exact Or.inl h
  | succ f ih =>
    intro x y h
    rcases h with h | h
    · exact Or.inl h
    · exact Or.inr (ih _ _ h)
theorem dnN_le {f g : Nat} (h : f ≤ g) {x y : Nat} (hd : dnN f x y) : dnN g x y := by
  induction g with
  | zero => rw [show f = 0 by omega] at hd; exact hd
  | succ g ih =>
    by_cases e : f = g + 1
    · rw [← e]; exact hd
    · exact dnN_s _ _ _ (ih (by omega))
def dnJ : Nat → Int64 → Int64 → Prop
  | 0, _, y => y = 0
  | f + 1, x, y => y = 0 ∨ dnJ f y (mzlrem x y)
def gcf : Nat → Int64 → Int64 → Int64
  | 0, x, _ => x
  | f + 1, x, y => if y = 0 then x else gcf f y (mzlrem x y)
theorem j_of {x : Int64} (h : x.toInt = 0) : x = 0 := Int64.toInt_inj.mp h
theorem dnJ_of : ∀ f x y, (1 ≤ Int64.toInt y ∨ -9223372036854775807 ≤ Int64.toInt x) → (Int64.toInt y).natAbs < 9223372036854775808 → dnN f (Int64.toInt x).natAbs (Int64.toInt y).natAbs → dnJ f x y := by
  intro f
  induction f with
  | zero => intro x y _ _ h; exact j_of (Int.natAbs_eq_zero.mp h)
  | succ f ih =>
    intro x y h1 h2 h
    by_cases h0 : y = 0
    · exact Or.inl h0
    · rcases h with h | h
      · exact absurd (j_of (Int.natAbs_eq_zero.mp h)) h0
      · have e := lm_rem h0 h1
        have e2 : (mzlrem x y).toInt.natAbs = x.toInt.natAbs % y.toInt.natAbs := by rw [e, Int.natAbs_tmod]
        have hy : 0 < y.toInt.natAbs := by
          rcases Nat.eq_zero_or_pos y.toInt.natAbs with q | q
          · exact absurd (j_of (Int.natAbs_eq_zero.mp q)) h0
          · exact q
        have := Nat.mod_lt x.toInt.natAbs hy
        refine Or.inr (ih _ _ (Or.inr (by omega)) (by omega) (by rw [e2]; exact h))
theorem gcf_0 : ∀ f x y, dnJ f x y → (¬ x = 0 ∨ ¬ y = 0) → ¬ gcf f x y = 0 := by
  intro f
  induction f with
  | zero => intro x y h h1; exact h1.elim (fun q => q) (fun q => absurd h q)
  | succ f ih =>
    intro x y h h1
    unfold gcf
    by_cases h0 : y = 0
    · rw [if_pos h0]; exact h1.elim (fun q => q) (fun q => absurd h0 q)
    · rw [if_neg h0]
      exact ih _ _ (h.elim (fun q => absurd q h0) (fun q => q)) (Or.inl h0)
/-- 12 times itself -/
def tw12 : Nat → Int64
  | 0 => 1
  | n + 1 => tw12 n * 12
theorem tw12_ok : ∀ n, n < 9 → 1 ≤ (tw12 n).toInt ∧ (tw12 n).toInt < 1073741824 := by decide
theorem dn100 (x : Int64) {n : Nat} (hn : n < 9) : dnJ 100 x (tw12 n) := by
  obtain ⟨h1, h2⟩ := tw12_ok n hn
  refine dnJ_of 100 x _ (Or.inl h1) (by omega) (dnN_le (f := 2 * 30) (by omega) (dnN_pow 30 _ _ ?_))
  have : (2 : Nat) ^ 30 = 1073741824 := by decide
  omega
theorem tw12_0 {n : Nat} (hn : n < 9) : ¬ tw12 n = 0 := by
  intro h
  have := (tw12_ok n hn).1
  rw [h] at this
  revert this
  decide
