/-! THE SMALL LANGUAGE, 4: conditions -/
abbrev mzcc : Type := mzs → Nat → Nat → Nat → Nat → Bool
abbrev mzwc : Type := mzL → mzM → (mzM → Prop) → (mzM → Prop) → Prop
def mzC (chk : mzcc) (wp : mzwc) : Prop :=
  ∀ (C : mzs) (d p0 kT kF : Nat), chk C d p0 kT kF = true → ∀ x : mzCx, mzok C x →
  ∀ (A : Array Slot) (ls : mzL) (M : mzM) (H : Heap) (locs : List Loc) (rest : List Value) (KT KF : mzM → Prop),
    mzlo C x A ls → mzhp x M H locs → (rest.map (fun v => v.category)).sum ≤ d → wp ls M KT KF →
    (∀ (M' : mzM) (H' : Heap) (locs' : List Loc), KT M' → mzhp x M' H' locs' → mzGo x H' locs' kT A rest) →
    (∀ (M' : mzM) (H' : Heap) (locs' : List Loc), KF M' → mzhp x M' H' locs' → mzGo x H' locs' kF A rest) →
    mzGo x H locs p0 A rest
theorem mzC.conv {chk : mzcc} {wp wp' : mzwc} (h : mzC chk wp) (hw : ∀ ls M KT KF, wp' ls M KT KF → wp ls M KT KF) : mzC chk wp' :=
  fun C d p0 kT kF hc x hx A ls M H locs rest KT KF h1 h2 h3 h4 h5 h6 => h C d p0 kT kF hc x hx A ls M H locs rest KT KF h1 h2 h3 (hw _ _ _ _ h4) h5 h6
def mzcmp (op : Jvm.ClassFile.Cond) (x y : Int32) : Bool := match op with
  | .eq => decide (x = y)
  | .ne => decide (¬ x = y)
  | .lt => decide (x < y)
  | .ge => decide (y ≤ x)
  | .gt => decide (y < x)
  | .le => decide (x ≤ y)
def mzcml (op : Jvm.ClassFile.Cond) (x y : Int64) : Bool := match op with
  | .eq => decide (x = y)
  | .ne => decide (¬ x = y)
  | .lt => decide (x < y)
  | .ge => decide (y ≤ x)
  | .gt => decide (y < x)
  | .le => decide (x ≤ y)
def mzneg (op : Jvm.ClassFile.Cond) : Jvm.ClassFile.Cond := match op with
  | .eq => .ne
  | .ne => .eq
  | .lt => .ge
  | .ge => .lt
  | .gt => .le
  | .le => .gt
theorem mzcmp_neg (op : Jvm.ClassFile.Cond) (x y : Int32) : mzcmp (mzneg op) x y = !mzcmp op x y := by
  cases op
  · simp [mzcmp, mzneg]
  · simp [mzcmp, mzneg]
  · simp only [mzcmp, mzneg]
    by_cases h : x < y
    · simp [h, Int32.not_le.mpr h]
    · simp [h, Int32.not_lt.mp h]
  · simp only [mzcmp, mzneg]
    by_cases h : x < y
    · simp [h, Int32.not_le.mpr h]
    · simp [h, Int32.not_lt.mp h]
  · simp only [mzcmp, mzneg]
    by_cases h : y < x
    · simp [h, Int32.not_le.mpr h]
    · simp [h, Int32.not_lt.mp h]
  · simp only [mzcmp, mzneg]
    by_cases h : y < x
    · simp [h, Int32.not_le.mpr h]
    · simp [h, Int32.not_lt.mp h]
theorem mzcml_cmp (op : Jvm.ClassFile.Cond) (x y : Int64) : mzcmp op (lg_cmp x y) 0 = mzcml op x y := by
  cases op
  · simp only [mzcmp, mzcml, lg_cmp_eq]
  · simp only [mzcmp, mzcml, lg_cmp_eq]
  · simp only [mzcmp, mzcml, lg_cmp_lt]
  · simp only [mzcmp, mzcml, lg_cmp_ge]
  · simp only [mzcmp, mzcml, lg_cmp_gt]
  · simp only [mzcmp, mzcml, lg_cmp_le]
theorem mzgo_icmp {C : mzs} {x : mzCx} (hx : mzok C x) {op : Jvm.ClassFile.Cond} {a b : Int32} {H : Heap} {locs : List Loc} {pc tgt : Nat} {off : Int} {A : Array Slot} {rest : List Value} (hd : decode C.1 pc = .ok (.if_icmp op off, 3)) (ht : (pc : Int) + off = (tgt : Int)) (g1 : mzcmp op a b = true → mzGo x H locs tgt A rest) (g2 : mzcmp op a b = false → mzGo x H locs (pc + 3) A rest) : mzGo x H locs pc A (.int b :: .int a :: rest) := by
  cases op
  · exact lv_icmp_eq hx.1 hx.2.1 hd ht (fun h => g1 (decide_eq_true h)) (fun h => g2 (decide_eq_false h))
  · exact lv_icmp_ne hx.1 hx.2.1 hd ht (fun h => g1 (decide_eq_true h)) (fun h => g2 (decide_eq_false (fun h' => h' h)))
  · exact lv_icmp_lt hx.1 hx.2.1 hd ht (fun h => g1 (decide_eq_true h)) (fun h => g2 (decide_eq_false h))
  · exact lv_icmp_ge hx.1 hx.2.1 hd ht (fun h => g1 (decide_eq_true h)) (fun h => g2 (decide_eq_false h))
  · exact lv_icmp_gt hx.1 hx.2.1 hd ht (fun h => g1 (decide_eq_true h)) (fun h => g2 (decide_eq_false h))
  · exact lv_icmp_le hx.1 hx.2.1 hd ht (fun h => g1 (decide_eq_true h)) (fun h => g2 (decide_eq_false h))
theorem mzgo_if0 {C : mzs} {x : mzCx} (hx : mzok C x) {op : Jvm.ClassFile.Cond} {a : Int32} {H : Heap} {locs : List Loc} {pc tgt : Nat} {off : Int} {A : Array Slot} {rest : List Value} (hd : decode C.1 pc = .ok (.ifCond op off, 3)) (ht : (pc : Int) + off = (tgt : Int)) (g1 : mzcmp op a 0 = true → mzGo x H locs tgt A rest) (g2 : mzcmp op a 0 = false → mzGo x H locs (pc + 3) A rest) : mzGo x H locs pc A (.int a :: rest) := by
  cases op
  · exact lv_if_eq hx.1 hx.2.1 hd ht (fun h => g1 (decide_eq_true h)) (fun h => g2 (decide_eq_false h))
  · exact lv_if_ne hx.1 hx.2.1 hd ht (fun h => g1 (decide_eq_true h)) (fun h => g2 (decide_eq_false (fun h' => h' h)))
  · exact lv_if_lt hx.1 hx.2.1 hd ht (fun h => g1 (decide_eq_true h)) (fun h => g2 (decide_eq_false h))
  · exact lv_if_ge hx.1 hx.2.1 hd ht (fun h => g1 (decide_eq_true h)) (fun h => g2 (decide_eq_false h))
  · exact lv_if_gt hx.1 hx.2.1 hd ht (fun h => g1 (decide_eq_true h)) (fun h => g2 (decide_eq_false h))
  · exact lv_if_le hx.1 hx.2.1 hd ht (fun h => g1 (decide_eq_true h)) (fun h => g2 (decide_eq_false h))
/-- a jump on 'op' at pc to tgt: where each way lands -/
def mzjmp (cc : ByteArray) (op o : Jvm.ClassFile.Cond) (pc : Nat) (off : Int) (kT kF : Nat) : Bool :=
  decide ((pc : Int) + off = (((pc : Int) + off).toNat : Int)) && ((decide (o = op) && mzland cc ((pc : Int) + off).toNat kT && mzland cc (pc + 3) kF) || (decide (o = mzneg op) && mzland cc ((pc : Int) + off).toNat kF && mzland cc (pc + 3) kT))
theorem mzjmp_ok {cc : ByteArray} {op o : Jvm.ClassFile.Cond} {pc : Nat} {off : Int} {kT kF : Nat} (h : mzjmp cc op o pc off kT kF = true) : (pc : Int) + off = (((pc : Int) + off).toNat : Int) ∧ ((o = op ∧ mzland cc ((pc : Int) + off).toNat kT = true ∧ mzland cc (pc + 3) kF = true) ∨ (o = mzneg op ∧ mzland cc ((pc : Int) + off).toNat kF = true ∧ mzland cc (pc + 3) kT = true)) := by
  unfold mzjmp at h
  rw [Bool.and_eq_true, Bool.or_eq_true, Bool.and_eq_true, Bool.and_eq_true, Bool.and_eq_true, Bool.and_eq_true] at h
  obtain ⟨h1, h2⟩ := h
  refine ⟨of_decide_eq_true h1, ?_⟩
  rcases h2 with h2 | h2
  · exact Or.inl ⟨of_decide_eq_true h2.1.1, h2.1.2, h2.2⟩
  · exact Or.inr ⟨of_decide_eq_true h2.1.1, h2.1.2, h2.2⟩
theorem mzneg_f {op : Jvm.ClassFile.Cond} {a b : Int32} (h : mzcmp (mzneg op) a b = true) : mzcmp op a b = false := by
  rw [mzcmp_neg] at h; simpa using h
theorem mzneg_t {op : Jvm.ClassFile.Cond} {a b : Int32} (h : mzcmp (mzneg op) a b = false) : mzcmp op a b = true := by
  rw [mzcmp_neg] at h; simpa using h
/-- both ways of a jump on an int compared with 0, or two ints -/
theorem mzjmp_go {C : mzs} {x : mzCx} (hx : mzok C x) {op o : Jvm.ClassFile.Cond} {pc : Nat} {off : Int} {kT kF : Nat} (h : mzjmp C.1 op o pc off kT kF = true) {a b : Int32} {H : Heap} {locs : List Loc} {A : Array Slot} {rest st : List Value} (row : ∀ tgt : Nat, (pc : Int) + off = (tgt : Int) → (mzcmp o a b = true → mzGo x H locs tgt A rest) → (mzcmp o a b = false → mzGo x H locs (pc + 3) A rest) → mzGo x H locs pc A st)
    (g1 : mzcmp op a b = true → mzGo x H locs kT A rest) (g2 : mzcmp op a b = false → mzGo x H locs kF A rest) : mzGo x H locs pc A st := by
  obtain ⟨h0, h | h⟩ := mzjmp_ok h
  · obtain ⟨rfl, h1, h2⟩ := h
    exact row _ h0 (fun q => mzland_go hx h1 (g1 q)) (fun q => mzland_go hx h2 (g2 q))
  · obtain ⟨rfl, h1, h2⟩ := h
    exact row _ h0 (fun q => mzland_go hx h1 (g2 (mzneg_f q))) (fun q => mzland_go hx h2 (g1 (mzneg_t q)))
def mzccmp (op : Jvm.ClassFile.Cond) (ca cb : mzch) : mzcc := fun C d p0 kT kF => match ca C d p0 none with
  | none => false
  | some p1 => match cb C (d + 1) p1 none with
    | none => false
    | some p2 => match decode C.1 p2 with
      | .ok (.if_icmp o off, 3) => mzjmp C.1 op o p2 off kT kF
      | _ => false
theorem mzC_cmp (op : Jvm.ClassFile.Cond) {ca cb : mzch} {wa wb : mzwp} (ha : mzE 1 ca wa) (hb : mzE 1 cb wb) : mzC (mzccmp op ca cb) (fun ls M KT KF => wa ls M (fun v1 M1 => wb ls M1 (fun v2 M2 => match v1, v2 with | .int a, .int b => (mzcmp op a b = true → KT M2) ∧ (mzcmp op a b = false → KF M2) | _, _ => False))) := by
  intro C d p0 kT kF hc x hx A ls M H locs rest KT KF h1 h2 h3 h4 h5 h6
  unfold mzccmp at hc
  split at hc
  · cases hc
  · rename_i q hq
    split at hc
    · cases hc
    · rename_i q2 hq2
      split at hc
      · rename_i o off hd
        refine ha C d p0 none q hq x hx A ls M H locs rest _ h1 h2 h3 h4 (fun v1 M1 H1 locs1 k1 ty1 hh1 => ?_)
        refine hb C _ q none q2 hq2 x hx A ls M1 H1 locs1 _ _ h1 hh1 (mzdeep h3 ty1) k1 (fun v2 M2 H2 locs2 k2 ty2 hh2 => ?_)
        split at k2
        · exact mzjmp_go hx hc (fun tgt ht => mzgo_icmp hx hd ht) (fun q => h5 _ _ _ (k2.1 q) hh2) (fun q => h6 _ _ _ (k2.2 q) hh2)
        · exact k2.elim
      · cases hc
def mzcif0 (op : Jvm.ClassFile.Cond) (ca : mzch) : mzcc := fun C d p0 kT kF => match ca C d p0 none with
  | none => false
  | some p1 => match decode C.1 p1 with
    | .ok (.ifCond o off, 3) => mzjmp C.1 op o p1 off kT kF
    | _ => false
theorem mzC_if0 (op : Jvm.ClassFile.Cond) {ca : mzch} {wa : mzwp} (ha : mzE 1 ca wa) : mzC (mzcif0 op ca) (fun ls M KT KF => wa ls M (fun v1 M1 => match v1 with | .int a => (mzcmp op a 0 = true → KT M1) ∧ (mzcmp op a 0 = false → KF M1) | _ => False)) := by
  intro C d p0 kT kF hc x hx A ls M H locs rest KT KF h1 h2 h3 h4 h5 h6
  unfold mzcif0 at hc
  split at hc
  · cases hc
  · rename_i q hq
    split at hc
    · rename_i o off hd
      refine ha C d p0 none q hq x hx A ls M H locs rest _ h1 h2 h3 h4 (fun v1 M1 H1 locs1 k1 ty1 hh1 => ?_)
      split at k1
      · exact mzjmp_go hx hc (fun tgt ht => mzgo_if0 hx hd ht) (fun q => h5 _ _ _ (k1.1 q) hh1) (fun q => h6 _ _ _ (k1.2 q) hh1)
      · exact k1.elim
    · cases hc
def mzccml (op : Jvm.ClassFile.Cond) (ca cb : mzch) : mzcc := fun C d p0 kT kF => match ca C d p0 none with
  | none => false
  | some p1 => match cb C (d + 2) p1 none with
    | none => false
    | some p2 => if mzdec C.1 p2 .lcmp 1 = true then (match decode C.1 (p2 + 1) with
      | .ok (.ifCond o off, 3) => mzjmp C.1 op o (p2 + 1) off kT kF
      | _ => false) else false
theorem mzC_cml (op : Jvm.ClassFile.Cond) {ca cb : mzch} {wa wb : mzwp} (ha : mzE 2 ca wa) (hb : mzE 2 cb wb) : mzC (mzccml op ca cb) (fun ls M KT KF => wa ls M (fun v1 M1 => wb ls M1 (fun v2 M2 => match v1, v2 with | .long a, .long b => (mzcml op a b = true → KT M2) ∧ (mzcml op a b = false → KF M2) | _, _ => False))) := by
  intro C d p0 kT kF hc x hx A ls M H locs rest KT KF h1 h2 h3 h4 h5 h6
  unfold mzccml at hc
  split at hc
  · cases hc
  · rename_i q hq
    split at hc
    · cases hc
    · rename_i q2 hq2
      split at hc
      · rename_i hd1
        split at hc
        · rename_i o off hd
          refine ha C d p0 none q hq x hx A ls M H locs rest _ h1 h2 h3 h4 (fun v1 M1 H1 locs1 k1 ty1 hh1 => ?_)
          refine hb C _ q none q2 hq2 x hx A ls M1 H1 locs1 _ _ h1 hh1 (mzdeep h3 ty1) k1 (fun v2 M2 H2 locs2 k2 ty2 hh2 => ?_)
          split at k2
          · rename_i a b
            refine W.lcmp hx.1 hx.2.1 (mzdec_ok hd1) ?_
            refine mzjmp_go hx hc (fun tgt ht => mzgo_if0 hx hd ht) (fun q => h5 _ _ _ (k2.1 ?_) hh2) (fun q => h6 _ _ _ (k2.2 ?_) hh2)
            · rw [← mzcml_cmp]; exact q
            · rw [← mzcml_cmp]; exact q
          · exact k2.elim
        · cases hc
      · cases hc
/-- is it null (op .eq), isn't it (op .ne) -/
def mzcnul (op : Jvm.ClassFile.Cond) (ca : mzch) : mzcc := fun C d p0 kT kF => match ca C d p0 none with
  | none => false
  | some p1 => match decode C.1 p1 with
    | .ok (.ifnull off, 3) => mzjmp C.1 op .eq p1 off kT kF
    | .ok (.ifnonnull off, 3) => mzjmp C.1 op .ne p1 off kT kF
    | _ => false
def mznul (v : Value) : Int32 := match v with
  | .null => 0
  | _ => 1
theorem mzC_nul (op : Jvm.ClassFile.Cond) {ca : mzch} {wa : mzwp} (ha : mzE 3 ca wa) : mzC (mzcnul op ca) (fun ls M KT KF => wa ls M (fun v1 M1 => (mzcmp op (mznul v1) 0 = true → KT M1) ∧ (mzcmp op (mznul v1) 0 = false → KF M1))) := by
  intro C d p0 kT kF hc x hx A ls M H locs rest KT KF h1 h2 h3 h4 h5 h6
  unfold mzcnul at hc
  split at hc
  · cases hc
  · rename_i q hq
    split at hc
    · rename_i off hd
      refine ha C d p0 none q hq x hx A ls M H locs rest _ h1 h2 h3 h4 (fun v1 M1 H1 locs1 k1 ty1 hh1 => ?_)
      refine mzjmp_go hx hc (a := mznul v1) (b := 0) (fun tgt ht g1 g2 => ?_) (fun q => h5 _ _ _ (k1.1 q) hh1) (fun q => h6 _ _ _ (k1.2 q) hh1)
      obtain ⟨r, rfl⟩ := ty1
      cases r with
      | none => exact lv_ifnullN hx.1 hx.2.1 hd ht (g1 rfl)
      | some z => exact lv_ifnull hx.1 hx.2.1 hd (g2 rfl)
    · rename_i off hd
      refine ha C d p0 none q hq x hx A ls M H locs rest _ h1 h2 h3 h4 (fun v1 M1 H1 locs1 k1 ty1 hh1 => ?_)
      refine mzjmp_go hx hc (a := mznul v1) (b := 0) (fun tgt ht g1 g2 => ?_) (fun q => h5 _ _ _ (k1.1 q) hh1) (fun q => h6 _ _ _ (k1.2 q) hh1)
      obtain ⟨r, rfl⟩ := ty1
      cases r with
      | none => exact lv_ifnonnullN hx.1 hx.2.1 hd (g2 rfl)
      | some z => exact lv_ifnonnull hx.1 hx.2.1 hd ht (g1 rfl)
    · cases hc
def mzcand (pb : Nat) (ca cb : mzcc) : mzcc := fun C d p0 kT kF => ca C d p0 pb kF && cb C d pb kT kF
def mzcor (pb : Nat) (ca cb : mzcc) : mzcc := fun C d p0 kT kF => ca C d p0 kT pb && cb C d pb kT kF
def mzcnot (ca : mzcc) : mzcc := fun C d p0 kT kF => ca C d p0 kF kT
theorem mzC_and (pb : Nat) {ca cb : mzcc} {wa wb : mzwc} (ha : mzC ca wa) (hb : mzC cb wb) : mzC (mzcand pb ca cb) (fun ls M KT KF => wa ls M (fun M1 => wb ls M1 KT KF) KF) := by
  intro C d p0 kT kF hc x hx A ls M H locs rest KT KF h1 h2 h3 h4 h5 h6
  unfold mzcand at hc
  rw [Bool.and_eq_true] at hc
  exact ha C d p0 pb kF hc.1 x hx A ls M H locs rest _ _ h1 h2 h3 h4 (fun M1 H1 locs1 k1 hh1 => hb C d pb kT kF hc.2 x hx A ls M1 H1 locs1 rest _ _ h1 hh1 h3 k1 h5 h6) h6
theorem mzC_or (pb : Nat) {ca cb : mzcc} {wa wb : mzwc} (ha : mzC ca wa) (hb : mzC cb wb) : mzC (mzcor pb ca cb) (fun ls M KT KF => wa ls M KT (fun M1 => wb ls M1 KT KF)) := by
  intro C d p0 kT kF hc x hx A ls M H locs rest KT KF h1 h2 h3 h4 h5 h6
  unfold mzcor at hc
  rw [Bool.and_eq_true] at hc
  exact ha C d p0 kT pb hc.1 x hx A ls M H locs rest _ _ h1 h2 h3 h4 h5 (fun M1 H1 locs1 k1 hh1 => hb C d pb kT kF hc.2 x hx A ls M1 H1 locs1 rest _ _ h1 hh1 h3 k1 h5 h6)
theorem mzC_not {ca : mzcc} {wa : mzwc} (ha : mzC ca wa) : mzC (mzcnot ca) (fun ls M KT KF => wa ls M KF KT) := by
  intro C d p0 kT kF hc x hx A ls M H locs rest KT KF h1 h2 h3 h4 h5 h6
  exact ha C d p0 kF kT hc x hx A ls M H locs rest _ _ h1 h2 h3 h4 h6 h5
/-- c ? a : b -/
def mzcq (pa pb : Nat) (cc : mzcc) (ca cb : mzch) : mzch := fun C d p0 kn => match kn with
  | none => (match cb C d pb none with
    | none => none
    | some pe => if (cc C d p0 pa pb && decide (ca C d pa (some pe) = some pe)) = true then some pe else none)
  | some k => if (cc C d p0 pa pb && decide (ca C d pa (some k) = some k) && decide (cb C d pb (some k) = some k)) = true then some k else none
theorem mzE_q {t : Nat} (pa pb : Nat) {cc : mzcc} {ca cb : mzch} {wc : mzwc} {wa wb : mzwp} (hc : mzC cc wc) (ha : mzE t ca wa) (hb : mzE t cb wb) : mzE t (mzcq pa pb cc ca cb) (fun ls M K => wc ls M (fun M1 => wa ls M1 K) (fun M1 => wb ls M1 K)) := by
  intro C d p0 kn p1 hk x hx A ls M H locs rest K h1 h2 h3 h4 h5
  unfold mzcq at hk
  split at hk
  · split at hk
    · cases hk
    · rename_i pe hpe
      split at hk
      · rename_i hh
        cases hk
        rw [Bool.and_eq_true] at hh
        exact hc C d p0 pa pb hh.1 x hx A ls M H locs rest _ _ h1 h2 h3 h4
          (fun M1 H1 locs1 k1 hh1 => ha C d pa _ _ (of_decide_eq_true hh.2) x hx A ls M1 H1 locs1 rest _ h1 hh1 h3 k1 h5)
          (fun M1 H1 locs1 k1 hh1 => hb C d pb _ _ hpe x hx A ls M1 H1 locs1 rest _ h1 hh1 h3 k1 h5)
      · cases hk
  · split at hk
    · rename_i hh
      cases hk
      rw [Bool.and_eq_true, Bool.and_eq_true] at hh
      exact hc C d p0 pa pb hh.1.1 x hx A ls M H locs rest _ _ h1 h2 h3 h4
        (fun M1 H1 locs1 k1 hh1 => ha C d pa _ _ (of_decide_eq_true hh.1.2) x hx A ls M1 H1 locs1 rest _ h1 hh1 h3 k1 h5)
        (fun M1 H1 locs1 k1 hh1 => hb C d pb _ _ (of_decide_eq_true hh.2) x hx A ls M1 H1 locs1 rest _ h1 hh1 h3 k1 h5)
    · cases hk
