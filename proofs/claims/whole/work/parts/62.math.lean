/-! THE SMALL LANGUAGE, 13: Math.max, Math.min of ints -/
def mzLkX (y : MethodName) (cc : ByteArray) (own idx : Nat) : Prop := Jvm.Cond.methodLink (mzcn own) idx y ∈ mzT ∧ Jvm.Cond.static y ∈ mzT ∧ Jvm.Cond.initialized "java/lang/Math" ∈ mzT ∧ Jvm.Cond.code y cc 2 (some .int) ∈ mzT
def mzcX (own idx : Nat) (ca cb : mzch) : mzch := fun C d p0 kn => match ca C d p0 none with
  | none => none
  | some p1 => match cb C (d + 1) p1 none with
    | none => none
    | some p2 => if (C.2.1 == own && mzdec C.1 p2 (.invokestatic idx) 3 && decide (1 ≤ C.2.2.2.1) && decide (d + 13 ≤ C.2.2.2.2.1)) = true then mzfin C (p2 + 3) kn else none
theorem yJ9_max_eq : yJ9_max_7cf53 = Lib.Math.max.name := rfl
theorem yJ9_min_eq : yJ9_min_7cf53 = Lib.Math.min.name := rfl
theorem cJ9_max_eq : cJ9_max_7cf53 = Lib.Math.max.code := by decide +kernel
theorem cJ9_min_eq : cJ9_min_7cf53 = Lib.Math.min.code := by decide +kernel
theorem mzE_max {own idx : Nat} (hl : mzLkX yJ9_max_7cf53 cJ9_max_7cf53 own idx) (a b : mzI) : mzE 1 (mzcX own idx a.1.1 b.1.1) (fun ls M K => (a.1.2.2 ls M ∧ b.1.2.2 ls M) ∧ K (.int (if a.1.2.1 ls M < b.1.2.1 ls M then b.1.2.1 ls M else a.1.2.1 ls M)) M) := by
  intro C d p0 kn p1 hc x hx A ls M H locs rest K h1 h2 h3 h4 h5
  unfold mzcX at hc
  split at hc
  · cases hc
  · rename_i q hq
    split at hc
    · cases hc
    · rename_i q2 hq2
      split at hc
      · rename_i hh
        simp only [Bool.and_eq_true] at hh
        obtain ⟨⟨⟨z1, z2⟩, z3⟩, z4⟩ := hh
        have ho : C.2.1 = own := by simpa using z1
        subst ho
        obtain ⟨⟨k1, k2⟩, k3⟩ := h4
        refine a.2 C d p0 none q hq x hx A ls M H locs rest (fun v M1 => v = .int (a.1.2.1 ls M) ∧ M1 = M) h1 h2 h3 ⟨k1, rfl, rfl⟩ (fun v1 M1 H1 locs1 k1 ty1 hh1 => ?_)
        obtain ⟨rfl, rfl⟩ := k1
        refine b.2 C (d + 1) q none q2 hq2 x hx A ls M1 H1 locs1 _ (fun v M2 => v = .int (b.1.2.1 ls M1) ∧ M2 = M1) h1 hh1 (mzdeep h3 ty1) ⟨k2, rfl, rfl⟩ (fun v2 M2 H2 locs2 k2 ty2 hh2 => ?_)
        obtain ⟨rfl, rfl⟩ := k2
        obtain ⟨l1, l2, l3, l4⟩ := hl
        rw [yJ9_max_eq] at l1 l2 l4
        rw [cJ9_max_eq] at l4
        have g4 := of_decide_eq_true z4
        exact va_mmax hx.1 hx.2.1 (by rw [h1.1]; exact hx.2.2.1) hx.2.2.2.1 (hx.2.2.2.2.1 _ l1) (hx.2.2.2.2.1 _ l2) (hx.2.2.2.2.1 _ l3) (hx.2.2.2.2.1 _ l4) (by rw [hx.2.2.2.2.2.2.2.2.2.1.1]; exact of_decide_eq_true z3) (by rw [hx.2.2.2.2.2.2.2.2.2.1.2]; exact Nat.le_trans (Nat.add_le_add_right h3 13) g4) (Nat.zero_le _) (Nat.zero_le _) (mzdec_ok z2) (mzfin_go hx hc (h5 _ _ _ _ k3 ⟨_, rfl⟩ hh2))
      · cases hc
theorem mzE_min {own idx : Nat} (hl : mzLkX yJ9_min_7cf53 cJ9_min_7cf53 own idx) (a b : mzI) : mzE 1 (mzcX own idx a.1.1 b.1.1) (fun ls M K => (a.1.2.2 ls M ∧ b.1.2.2 ls M) ∧ K (.int (if b.1.2.1 ls M < a.1.2.1 ls M then b.1.2.1 ls M else a.1.2.1 ls M)) M) := by
  intro C d p0 kn p1 hc x hx A ls M H locs rest K h1 h2 h3 h4 h5
  unfold mzcX at hc
  split at hc
  · cases hc
  · rename_i q hq
    split at hc
    · cases hc
    · rename_i q2 hq2
      split at hc
      · rename_i hh
        simp only [Bool.and_eq_true] at hh
        obtain ⟨⟨⟨z1, z2⟩, z3⟩, z4⟩ := hh
        have ho : C.2.1 = own := by simpa using z1
        subst ho
        obtain ⟨⟨k1, k2⟩, k3⟩ := h4
        refine a.2 C d p0 none q hq x hx A ls M H locs rest (fun v M1 => v = .int (a.1.2.1 ls M) ∧ M1 = M) h1 h2 h3 ⟨k1, rfl, rfl⟩ (fun v1 M1 H1 locs1 k1 ty1 hh1 => ?_)
        obtain ⟨rfl, rfl⟩ := k1
        refine b.2 C (d + 1) q none q2 hq2 x hx A ls M1 H1 locs1 _ (fun v M2 => v = .int (b.1.2.1 ls M1) ∧ M2 = M1) h1 hh1 (mzdeep h3 ty1) ⟨k2, rfl, rfl⟩ (fun v2 M2 H2 locs2 k2 ty2 hh2 => ?_)
        obtain ⟨rfl, rfl⟩ := k2
        obtain ⟨l1, l2, l3, l4⟩ := hl
        rw [yJ9_min_eq] at l1 l2 l4
        rw [cJ9_min_eq] at l4
        have g4 := of_decide_eq_true z4
        exact va_mmin hx.1 hx.2.1 (by rw [h1.1]; exact hx.2.2.1) hx.2.2.2.1 (hx.2.2.2.2.1 _ l1) (hx.2.2.2.2.1 _ l2) (hx.2.2.2.2.1 _ l3) (hx.2.2.2.2.1 _ l4) (by rw [hx.2.2.2.2.2.2.2.2.2.1.1]; exact of_decide_eq_true z3) (by rw [hx.2.2.2.2.2.2.2.2.2.1.2]; exact Nat.le_trans (Nat.add_le_add_right h3 13) g4) (Nat.zero_le _) (Nat.zero_le _) (mzdec_ok z2) (mzfin_go hx hc (h5 _ _ _ _ k3 ⟨_, rfl⟩ hh2))
      · cases hc
def imax {own idx : Nat} (hl : mzLkX yJ9_max_7cf53 cJ9_max_7cf53 own idx) (a b : mzI) : mzI := ⟨(mzcX own idx a.1.1 b.1.1, fun ls M => if a.1.2.1 ls M < b.1.2.1 ls M then b.1.2.1 ls M else a.1.2.1 ls M, fun ls M => a.1.2.2 ls M ∧ b.1.2.2 ls M), mzE_max hl a b⟩
def imin {own idx : Nat} (hl : mzLkX yJ9_min_7cf53 cJ9_min_7cf53 own idx) (a b : mzI) : mzI := ⟨(mzcX own idx a.1.1 b.1.1, fun ls M => if b.1.2.1 ls M < a.1.2.1 ls M then b.1.2.1 ls M else a.1.2.1 ls M, fun ls M => a.1.2.2 ls M ∧ b.1.2.2 ls M), mzE_min hl a b⟩
theorem e_imax {own idx : Nat} (hl : mzLkX yJ9_max_7cf53 cJ9_max_7cf53 own idx) (a b : mzI) {ls : mzL} {M : mzM} : (imax hl a b).1.2.1 ls M = (if a.1.2.1 ls M < b.1.2.1 ls M then b.1.2.1 ls M else a.1.2.1 ls M) := mzrf rfl
theorem o_imax {own idx : Nat} (hl : mzLkX yJ9_max_7cf53 cJ9_max_7cf53 own idx) (a b : mzI) {ls : mzL} {M : mzM} : (imax hl a b).1.2.2 ls M = (a.1.2.2 ls M ∧ b.1.2.2 ls M) := mzrf rfl
theorem e_imin {own idx : Nat} (hl : mzLkX yJ9_min_7cf53 cJ9_min_7cf53 own idx) (a b : mzI) {ls : mzL} {M : mzM} : (imin hl a b).1.2.1 ls M = (if b.1.2.1 ls M < a.1.2.1 ls M then b.1.2.1 ls M else a.1.2.1 ls M) := mzrf rfl
theorem o_imin {own idx : Nat} (hl : mzLkX yJ9_min_7cf53 cJ9_min_7cf53 own idx) (a b : mzI) {ls : mzL} {M : mzM} : (imin hl a b).1.2.2 ls M = (a.1.2.2 ls M ∧ b.1.2.2 ls M) := mzrf rfl
theorem lkX_0_21 : mzLkX yJ9_min_7cf53 cJ9_min_7cf53 0 21 := ⟨mzT_at 626 (by decide +kernel) rfl, mzT_at 627 (by decide +kernel) rfl, mzT_at 74 (by decide +kernel) rfl, mzT_at 628 (by decide +kernel) rfl⟩
theorem lkX_4_39 : mzLkX yJ9_max_7cf53 cJ9_max_7cf53 4 39 := ⟨mzT_at 607 (by decide +kernel) rfl, mzT_at 101 (by decide +kernel) rfl, mzT_at 74 (by decide +kernel) rfl, mzT_at 102 (by decide +kernel) rfl⟩
