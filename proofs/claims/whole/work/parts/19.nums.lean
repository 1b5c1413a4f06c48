/-! numbers: ints that are counted -/
theorem li_0 : (0 : Int32) = nI 0 := rfl
theorem li_1 : (1 : Int32) = nI 1 := rfl
theorem li_2 : (2 : Int32) = nI 2 := rfl
theorem li_3 : (3 : Int32) = nI 3 := rfl
theorem li_4 : (4 : Int32) = nI 4 := rfl
theorem li_5 : (5 : Int32) = nI 5 := rfl
theorem li_6 : (6 : Int32) = nI 6 := rfl
theorem li_7 : (7 : Int32) = nI 7 := rfl
theorem li_8 : (8 : Int32) = nI 8 := rfl
theorem li_9 : (9 : Int32) = nI 9 := rfl
theorem li_10 : (10 : Int32) = nI 10 := rfl
theorem li_12 : (12 : Int32) = nI 12 := rfl
theorem li_16 : (16 : Int32) = nI 16 := rfl
theorem li_18 : (18 : Int32) = nI 18 := rfl
theorem li_35 : (35 : Int32) = nI 35 := rfl
theorem li_36 : (36 : Int32) = nI 36 := rfl
theorem li_39 : (39 : Int32) = nI 39 := rfl
theorem li_41 : (41 : Int32) = nI 41 := rfl
theorem li_60 : (60 : Int32) = nI 60 := rfl
theorem li_99 : (99 : Int32) = nI 99 := rfl
theorem li_100 : (100 : Int32) = nI 100 := rfl
theorem li_143 : (143 : Int32) = nI 143 := rfl
theorem li_144 : (144 : Int32) = nI 144 := rfl
theorem li_150 : (150 : Int32) = nI 150 := rfl
theorem li_255 : (255 : Int32) = nI 255 := rfl
theorem li_1000 : (1000 : Int32) = nI 1000 := rfl
theorem li_1800 : (1800 : Int32) = nI 1800 := rfl
theorem li_far : (100000 : Int32) = nI 100000 := rfl
theorem in_nI {a n : Nat} (h : a < 2147483648) : vp_in (nI a) n = (a < n) := by
  apply propext
  rw [vp_in_iff, nI_toInt h]
  omega
theorem nu_lt {a b : Nat} (ha : a < 2147483648) (hb : b < 2147483648) : (nI a < nI b) = (a < b) := propext (nI_ltI ha hb)
theorem nu_le {a b : Nat} (ha : a < 2147483648) (hb : b < 2147483648) : (nI a ≤ nI b) = (a ≤ b) := propext (nI_leI ha hb)
theorem nu_eq {a b : Nat} (ha : a < 2147483648) (hb : b < 2147483648) : (nI a = nI b) = (a = b) := propext (nI_eq ha hb)
theorem nu_cl {a : Nat} (ha : a < 2147483648) : (nI a).toNatClampNeg = a := nI_clamp ha
theorem nu_sub {a b : Nat} (h : b ≤ a) : nI a - nI b = nI (a - b) := pk_sub h
theorem nu_div {a d : Nat} (ha : a < 2147483648) (h0 : 0 < d) (hd : d < 2147483648) : nI a / nI d = nI (a / d) := pk_div ha h0 hd
theorem nu_rem {a d : Nat} (ha : a < 2147483648) (h0 : 0 < d) (hd : d < 2147483648) : mzrem (nI a) (nI d) = nI (a % d) := pk_rem ha h0 hd
theorem nu_add (a b : Nat) : nI a + nI b = nI (a + b) := nI_add a b
theorem nu_mul (a b : Nat) : nI a * nI b = nI (a * b) := pk_mul a b
theorem nu_m1 {a : Nat} (ha : a < 2147483648) : (nI a = -1) = False := by
  apply eq_false
  intro h
  have := congrArg Int32.toInt h
  rw [nI_toInt ha] at this
  have e : (-1 : Int32).toInt = -1 := rfl
  rw [e] at this
  omega
theorem nu_m1n {a : Nat} (ha : a < 2147483648) : (nI a = -nI 1) = False := nu_m1 ha
theorem nu_m1m {a : Nat} (ha : a < 2147483648) : (-nI 1 = nI a) = False := by
  rw [eq_comm (a := (-nI 1))]; exact nu_m1 ha
def nM : Int32 := -1
theorem ng1 : -nI 1 = nM := rfl
theorem nu_mM {a : Nat} (ha : a < 2147483648) : (nI a = nM) = False := nu_m1 ha
theorem nu_Mm {a : Nat} (ha : a < 2147483648) : (nM = nI a) = False := nu_m1m ha
theorem nu_ltM {a : Nat} (ha : a < 2147483648) : (nI a < nM) = False := by
  apply eq_false
  intro h
  have := Int32.lt_iff_toInt_lt.mp h
  rw [nI_toInt ha, show nM.toInt = -1 from rfl] at this
  omega
theorem nu_Mlt {a : Nat} (ha : a < 2147483648) : (nM < nI a) = True := by
  apply eq_true
  apply Int32.lt_iff_toInt_lt.mpr
  rw [nI_toInt ha, show nM.toInt = -1 from rfl]
  omega
theorem nu_leM {a : Nat} (ha : a < 2147483648) : (nI a ≤ nM) = False := by
  apply eq_false
  intro h
  have := Int32.le_iff_toInt_le.mp h
  rw [nI_toInt ha, show nM.toInt = -1 from rfl] at this
  omega
theorem nu_Mle {a : Nat} (ha : a < 2147483648) : (nM ≤ nI a) = True := by
  apply eq_true
  apply Int32.le_iff_toInt_le.mpr
  rw [nI_toInt ha, show nM.toInt = -1 from rfl]
  omega
theorem mzk {K : Value → mzM → Prop} {a b : Int32} {M : mzM} (h : K (.int a) M) (e : b = a) : K (.int b) M := e ▸ h
theorem mzkj {K : Value → mzM → Prop} {a b : Int64} {M : mzM} (h : K (.long a) M) (e : b = a) : K (.long b) M := e ▸ h
theorem nu_m1' {a : Nat} (ha : a < 2147483648) : (-1 = nI a) = False := by
  rw [eq_comm (a := (-1 : Int32))]; exact nu_m1 ha
theorem nu_oi1 : Int32.ofInt 1 = nI 1 := rfl
theorem nu_oi2 : Int32.ofInt 2 = nI 2 := rfl
theorem nu_oi4 : Int32.ofInt 4 = nI 4 := rfl
theorem nu_oi3 : Int32.ofInt 3 = nI 3 := rfl
theorem ms_same {α : Type} (f : Nat → Nat → α) (a k : Nat) (v : α) : mzset f a k v a k = v := by
  unfold mzset; simp
theorem ms_cell {α : Type} (f : Nat → Nat → α) {a k i j : Nat} (v : α) (h : i ≠ a) : mzset f a k v i j = f i j := by
  unfold mzset; rw [if_neg h]
theorem ms_place {α : Type} (f : Nat → Nat → α) {a k i j : Nat} (v : α) (h : j ≠ k) : mzset f a k v i j = f i j := by
  unfold mzset
  by_cases e : i = a
  · subst e; rw [if_pos rfl]; simp [h]
  · rw [if_neg e]
theorem ms_at {α : Type} (f : Nat → Nat → α) (a k i j : Nat) (v : α) : mzset f a k v i j = if i = a ∧ j = k then v else f i j := by
  unfold mzset
  by_cases e : i = a
  · subst e
    by_cases h : j = k <;> simp [h]
  · simp [e]
/-! the maze's text -/
/-- rows ended, days in this row, days in all, days a row may have, kinds -/
abbrev smS : Type := Nat × Nat × Nat × Nat × (Nat → Int32)
def smStep (b : Int32) (s : smS) : Option smS :=
  if s.1 = 6 then none
  else if b = 59 then (if s.2.1 = 0 ∨ (0 < s.1 ∧ s.2.1 < s.2.2.2.1) then none else some (s.1 + 1, 0, s.2.2.1, (if s.1 = 0 then s.2.1 else s.2.2.2.1), s.2.2.2.2))
  else if kdOf b = -1 ∨ s.2.1 = s.2.2.2.1 then none
  else some (s.1, s.2.1 + 1, s.2.2.1 + 1, s.2.2.2.1, fun j => if j = s.2.2.1 then kdOf b else s.2.2.2.2 j)
/-- a fault's place, or: how wide, rows, days, kinds -/
abbrev smR : Type := Nat ⊕ (Nat × Nat × Nat × (Nat → Int32))
def smFin (n : Nat) (s : smS) : smR := if 0 < n ∧ (s.2.1 = 0 ∨ (0 < s.1 ∧ s.2.1 < s.2.2.2.1)) then .inl n else .inr ((if s.1 = 0 then s.2.1 else s.2.2.2.1), (if n = 0 then 0 else s.1 + 1), s.2.2.1, s.2.2.2.2)
def smGo (T : Nat → Int32) (n : Nat) : Nat → Nat → smS → smR
  | 0, _, s => smFin n s
  | f + 1, k, s => match smStep (T k) s with
    | none => .inl k
    | some s' => smGo T n f (k + 1) s'
def smEnd (T : Nat → Int32) (n : Nat) : smR := smGo T n n 0 (0, 0, 0, 6, fun _ => 0)
theorem smGo_n {T : Nat → Int32} {n f k : Nat} {s : smS} (h : smStep (T k) s = none) : smGo T n (f + 1) k s = .inl k := by
  rw [smGo, h]
theorem smGo_s {T : Nat → Int32} {n f k : Nat} {s s' : smS} (h : smStep (T k) s = some s') : smGo T n (f + 1) k s = smGo T n f (k + 1) s' := by
  rw [smGo, h]
theorem mzit_s {c : mzwc} {b st : mzsw} {Kn : mzL → mzM → Prop} {Kr : Value → mzM → Prop} {n : Nat} {ls : mzL} {M : mzM} (h : ∀ J : mzL → mzM → Prop, (∀ ls' M', mzit c b st Kn Kr n ls' M' → J ls' M') → c ls M (fun M1 => b ls M1 (fun ls2 M2 => st ls2 M2 J Kr (fun _ _ => False) (fun _ _ => False)) Kr Kn (fun ls2 M2 => st ls2 M2 J Kr (fun _ _ => False) (fun _ _ => False))) (fun M1 => Kn ls M1)) : mzit c b st Kn Kr (n + 1) ls M := h _ (fun _ _ h => h)
/-! the walkers' text -/
def wkS (r : Nat) (b : Int32) : Prop := match r with
  | 0 => 0 ≤ b - 48 ∧ b - 48 ≤ 3
  | 1 => 0 ≤ b - 48 ∧ b - 48 ≤ 9
  | 2 => ¬ hdOf b = -1
  | 3 => ¬ haOf b = -1
  | _ => b = 59
def wkB (T : Nat → Int32) (n : Nat) (p : Nat) : Int32 := if p < n then T p else -1
/-- f is the first place with which the text can't go on -/
def wkF (T : Nat → Int32) (n f : Nat) : Prop := f ≤ n ∧ (∀ p, p < f → wkS (p % 5) (T p)) ∧ (f < n → ¬ wkS (f % 5) (T f))
def wkDay (T : Nat → Int32) (w : Nat) : Int32 := 10 * (T (5 * w) - 48) + (T (5 * w + 1) - 48)
theorem wkS_m1 (r : Nat) : ¬ wkS r (-1) := by
  match r with
  | 0 => exact fun h => absurd h.1 (by decide)
  | 1 => exact fun h => absurd h.1 (by decide)
  | 2 => exact fun h => h (by decide)
  | 3 => exact fun h => h (by decide)
  | r + 4 => exact fun h => absurd (show (-1 : Int32) = 59 from h) (by decide)
theorem wkB_in {T : Nat → Int32} {n p : Nat} {r : Nat} (h : wkS r (wkB T n p)) : p < n ∧ wkS r (T p) := by
  unfold wkB at h
  by_cases hp : p < n
  · rw [if_pos hp] at h; exact ⟨hp, h⟩
  · rw [if_neg hp] at h; exact absurd h (wkS_m1 r)
theorem wkF_one {T : Nat → Int32} {n f g : Nat} (h : wkF T n f) (h' : wkF T n g) : f = g := by
  rcases Nat.lt_trichotomy f g with q | q | q
  · exact absurd (h'.2.1 f q) (h.2.2 (Nat.lt_of_lt_of_le q h'.1))
  · exact q
  · exact absurd (h.2.1 g q) (h'.2.2 (Nat.lt_of_lt_of_le q h.1))
