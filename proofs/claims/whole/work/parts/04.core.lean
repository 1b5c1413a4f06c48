/-! THE SMALL LANGUAGE, 2: expressions. 'chk' holds a text against the bytes (from where, how deep the stack is, where to go on); 'wp' is what must hold for what comes behind -/
def mzcn : Nat → String := fun k => match k with
  | 0 => RX0 | 1 => RX1 | 2 => RX2 | 3 => RX3 | 4 => RX4 | 5 => RX5 | 6 => RX6 | 7 => RX7 | 8 => RX8 | 9 => RJ6 | 10 => RJ13 | 11 => RJ9 | 12 => RJ7 | _ => ""
def mzdec (cc : ByteArray) (pc : Nat) (i : Instr) (n : Nat) : Bool := decide (decode cc pc = .ok (i, n))
theorem mzdec_ok {cc : ByteArray} {pc : Nat} {i : Instr} {n : Nat} (h : mzdec cc pc i n = true) : decode cc pc = .ok (i, n) := of_decide_eq_true h
def mzgt (cc : ByteArray) (q k : Nat) : Bool := match decode cc q with
  | .ok (.goto off, 3) => decide ((q : Int) + off = (k : Int))
  | _ => false
def mzland (cc : ByteArray) (q k : Nat) : Bool := q == k || mzgt cc q k
abbrev mzch : Type := (ByteArray × Nat × Nat × Nat × Nat × Nat) → Nat → Nat → Option Nat → Option Nat
/-- bytes, class (by mzcn), locals, frames, words, kind of its answer -/
abbrev mzs : Type := ByteArray × Nat × Nat × Nat × Nat × Nat
def mzfin (C : mzs) (q : Nat) (kn : Option Nat) : Option Nat := match kn with
  | none => some q
  | some k => if mzland C.1 q k = true then some k else none
/-- where a walk stands: world, machine, method, its end -/
abbrev mzCx : Type := mzD × Program × Launch × Env × Room × State × MethodId × Array Value × List Frame × Method × Code × (State → Prop)
abbrev mzGo (x : mzCx) (H : Heap) (locs : List Loc) (pc : Nat) (ls : Array Slot) (st : List Value) : Prop :=
  W x.2.1 x.2.2.1 x.2.2.2.1 x.2.2.2.2.1 x.2.2.2.2.2.1 x.2.2.2.2.2.2.1 x.2.2.2.2.2.2.2.1 x.2.2.2.2.2.2.2.2.1 x.2.2.2.2.2.2.2.2.2.1 x.2.2.2.2.2.2.2.2.2.2.1 H locs 0 0 x.2.2.2.2.2.2.2.2.2.2.2 (F0 x.2.2.2.2.2.2.1 pc ls st)
abbrev mzok (C : mzs) (x : mzCx) : Prop := mzX (C.1, mzcn C.2.1, C.2.2) x.1 x.2.1 x.2.2.2.2.1 x.2.2.2.2.2.1 x.2.2.2.2.2.2.1 x.2.2.2.2.2.2.2.1 x.2.2.2.2.2.2.2.2.2.1 x.2.2.2.2.2.2.2.2.2.2.1
abbrev mzhp (x : mzCx) (M : mzM) (H : Heap) (locs : List Loc) : Prop := mzH x.1 x.2.2.2.2.2.1 M H locs
abbrev mzlo (C : mzs) (x : mzCx) (A : Array Slot) (ls : mzL) : Prop := lv_has A C.2.2.1 (mzlv x.1.2.2.1 ls)
abbrev mzva (x : mzCx) (v : Value) : Value := mzv x.1.2.2.1 v
theorem mzland_go {C : mzs} {x : mzCx} (hx : mzok C x) {q k : Nat} (h : mzland C.1 q k = true) {H : Heap} {locs : List Loc} {A : Array Slot} {st : List Value} (g : mzGo x H locs k A st) : mzGo x H locs q A st := by
  unfold mzland at h
  rcases Bool.or_eq_true _ _ ▸ h with h | h
  · have : q = k := by simpa using h
    rw [this]; exact g
  · unfold mzgt at h
    split at h
    · rename_i off hd
      exact lv_goto hx.1 hx.2.1 hd (of_decide_eq_true h) g
    · cases h
theorem mzfin_go {C : mzs} {x : mzCx} (hx : mzok C x) {q p1 : Nat} {kn : Option Nat} (h : mzfin C q kn = some p1) {H : Heap} {locs : List Loc} {A : Array Slot} {st : List Value} (g : mzGo x H locs p1 A st) : mzGo x H locs q A st := by
  unfold mzfin at h
  split at h
  · cases h; exact g
  · split at h
    · rename_i hl
      cases h
      exact mzland_go hx hl g
    · cases h
/-- kinds of values: 1 int, 2 long, else a reference or null -/
def mzty (t : Nat) (v : Value) : Prop := match t with
  | 1 => ∃ z : Int32, v = .int z
  | 2 => ∃ z : Int64, v = .long z
  | _ => ∃ r : Option Nat, v = va_rf r
def mzsz (t : Nat) : Nat := match t with
  | 2 => 2
  | _ => 1
theorem mzty_cat {t : Nat} {v : Value} (h : mzty t v) : v.category = mzsz t := by
  unfold mzty at h
  split at h
  · obtain ⟨z, rfl⟩ := h; rfl
  · obtain ⟨z, rfl⟩ := h; rfl
  · rename_i h1 h2
    obtain ⟨r, rfl⟩ := h
    have e : mzsz t = 1 := by
      unfold mzsz
      split
      · exact absurd rfl h2
      · rfl
    rw [e]
    cases r <;> rfl
abbrev mzwp : Type := mzL → mzM → (Value → mzM → Prop) → Prop
def mzE (t : Nat) (chk : mzch) (wp : mzwp) : Prop :=
  ∀ (C : mzs) (d p0 : Nat) (kn : Option Nat) (p1 : Nat), chk C d p0 kn = some p1 → ∀ x : mzCx, mzok C x →
  ∀ (A : Array Slot) (ls : mzL) (M : mzM) (H : Heap) (locs : List Loc) (rest : List Value) (K : Value → mzM → Prop),
    mzlo C x A ls → mzhp x M H locs → (rest.map (fun v => v.category)).sum ≤ d → wp ls M K →
    (∀ (v : Value) (M' : mzM) (H' : Heap) (locs' : List Loc), K v M' → mzty t v → mzhp x M' H' locs' → mzGo x H' locs' p1 A (mzva x v :: rest)) →
    mzGo x H locs p0 A rest
theorem mzE.conv {t : Nat} {chk : mzch} {wp wp' : mzwp} (h : mzE t chk wp) (hw : ∀ ls M K, wp' ls M K → wp ls M K) : mzE t chk wp' :=
  fun C d p0 kn p1 hc x hx A ls M H locs rest K h1 h2 h3 h4 h5 => h C d p0 kn p1 hc x hx A ls M H locs rest K h1 h2 h3 (hw _ _ _ h4) h5
/-! leaves -/
def mzcK (v : Int32) : mzch := fun C _ p0 kn => match decode C.1 p0 with
  | .ok (.iconst n, 1) => if Int32.ofInt n = v then mzfin C (p0 + 1) kn else none
  | .ok (.bipush n, 2) => if (Int8.ofInt n).toInt32 = v then mzfin C (p0 + 2) kn else none
  | .ok (.sipush n, 3) => if (Int16.ofInt n).toInt32 = v then mzfin C (p0 + 3) kn else none
  | _ => none
theorem mzE_K (v : Int32) : mzE 1 (mzcK v) (fun _ M K => K (.int v) M) := by
  intro C d p0 kn p1 hc x hx A ls M H locs rest K h1 h2 h3 h4 h5
  have h5 := h5 _ _ _ _ h4 ⟨v, rfl⟩ h2
  unfold mzcK at hc
  split at hc
  · rename_i n hd
    split at hc
    · rename_i hv
      exact lv_iconst hx.1 hx.2.1 hd hv (mzfin_go hx hc h5)
    · cases hc
  · rename_i n hd
    split at hc
    · rename_i hv
      exact lv_bipush hx.1 hx.2.1 hd hv (mzfin_go hx hc h5)
    · cases hc
  · rename_i n hd
    split at hc
    · rename_i hv
      exact lv_sipush hx.1 hx.2.1 hd hv (mzfin_go hx hc h5)
    · cases hc
  · cases hc
def mzcT (own : Nat) (i : Instr) (n : Nat) : mzch := fun C _ p0 kn => if (C.2.1 == own && mzdec C.1 p0 i n) = true then mzfin C (p0 + n) kn else none
theorem mzcT_ok {own : Nat} {i : Instr} {n d p0 p1 : Nat} {kn : Option Nat} {C : mzs} (h : mzcT own i n C d p0 kn = some p1) : C.2.1 = own ∧ decode C.1 p0 = .ok (i, n) ∧ mzfin C (p0 + n) kn = some p1 := by
  unfold mzcT at h
  split at h
  · rename_i hh
    rw [Bool.and_eq_true] at hh
    exact ⟨by simpa using hh.1, mzdec_ok hh.2, h⟩
  · cases h
theorem mzE_Kc {own idx : Nat} {v : Int32} (hm : Jvm.Cond.constant (mzcn own) idx v ∈ mzT) : mzE 1 (mzcT own (.ldc idx) 2) (fun _ M K => K (.int v) M) := by
  intro C d p0 kn p1 hc x hx A ls M H locs rest K h1 h2 h3 h4 h5
  obtain ⟨rfl, hd, hf⟩ := mzcT_ok hc
  exact lv_ldc hx.1 hx.2.1 hx.2.2.2.1 (hx.2.2.2.2.1 _ hm) hd (mzfin_go hx hf (h5 _ _ _ _ h4 ⟨v, rfl⟩ h2))
theorem mzE_Kcw {own idx : Nat} {v : Int32} (hm : Jvm.Cond.constant (mzcn own) idx v ∈ mzT) : mzE 1 (mzcT own (.ldc_w idx) 3) (fun _ M K => K (.int v) M) := by
  intro C d p0 kn p1 hc x hx A ls M H locs rest K h1 h2 h3 h4 h5
  obtain ⟨rfl, hd, hf⟩ := mzcT_ok hc
  exact lv_ldcw hx.1 hx.2.1 hx.2.2.2.1 (hx.2.2.2.2.1 _ hm) hd (mzfin_go hx hf (h5 _ _ _ _ h4 ⟨v, rfl⟩ h2))
theorem mzE_Jc {own idx : Nat} {v : Int64} (hm : Jvm.Cond.constantLong (mzcn own) idx v ∈ mzT) : mzE 2 (mzcT own (.ldc2_w idx) 3) (fun _ M K => K (.long v) M) := by
  intro C d p0 kn p1 hc x hx A ls M H locs rest K h1 h2 h3 h4 h5
  obtain ⟨rfl, hd, hf⟩ := mzcT_ok hc
  exact lv_ldc2 hx.1 hx.2.1 hx.2.2.2.1 (hx.2.2.2.2.1 _ hm) hd (mzfin_go hx hf (h5 _ _ _ _ h4 ⟨v, rfl⟩ h2))
def mzcJ (v : Int64) : mzch := fun C _ p0 kn => match decode C.1 p0 with
  | .ok (.lconst n, 1) => if Int64.ofNat (n : Nat) = v then mzfin C (p0 + 1) kn else none
  | _ => none
theorem mzE_J (v : Int64) : mzE 2 (mzcJ v) (fun _ M K => K (.long v) M) := by
  intro C d p0 kn p1 hc x hx A ls M H locs rest K h1 h2 h3 h4 h5
  have h5 := h5 _ _ _ _ h4 ⟨v, rfl⟩ h2
  unfold mzcJ at hc
  split at hc
  · rename_i n hd
    split at hc
    · rename_i hv
      exact lv_lconst hx.1 hx.2.1 hd hv (mzfin_go hx hc h5)
    · cases hc
  · cases hc
def mzcN : mzch := fun C _ p0 kn => if mzdec C.1 p0 .aconst_null 1 = true then mzfin C (p0 + 1) kn else none
theorem mzE_N : mzE 3 mzcN (fun _ M K => K .null M) := by
  intro C d p0 kn p1 hc x hx A ls M H locs rest K h1 h2 h3 h4 h5
  have h5 := h5 _ _ _ _ h4 ⟨none, rfl⟩ h2
  unfold mzcN at hc
  split at hc
  · rename_i hd
    exact lv_null hx.1 hx.2.1 (mzdec_ok hd) (mzfin_go hx hc h5)
  · cases hc
/-! locals -/
def mzcIL (k : Nat) : mzch := fun C _ p0 kn => match decode C.1 p0 with
  | .ok (.iload_n n, 1) => if (n : Nat) = k then mzfin C (p0 + 1) kn else none
  | .ok (.iload n, 2) => if n = k then mzfin C (p0 + 2) kn else none
  | _ => none
theorem mzE_IL (k : Nat) : mzE 1 (mzcIL k) (fun ls M K => match ls[k]? with | some (some (.int z)) => K (.int z) M | _ => False) := by
  intro C d p0 kn p1 hc x hx A ls M H locs rest K h1 h2 h3 h4 h5
  split at h4
  · rename_i z hz
    have h5 := h5 _ _ _ _ h4 ⟨z, rfl⟩ h2
    have hl : A[k]? = some (.val (.int z)) := mzlv_get h1 hz
    unfold mzcIL at hc
    split at hc
    · rename_i n hd
      split at hc
      · rename_i hv
        exact lv_iload_n hx.1 hx.2.1 hd hv hl (mzfin_go hx hc h5)
      · cases hc
    · rename_i n hd
      split at hc
      · rename_i hv
        subst hv
        exact lv_iload hx.1 hx.2.1 hd hl (mzfin_go hx hc h5)
      · cases hc
    · cases hc
  · exact h4.elim
def mzcJL (k : Nat) : mzch := fun C _ p0 kn => match decode C.1 p0 with
  | .ok (.lload_n n, 1) => if (n : Nat) = k then mzfin C (p0 + 1) kn else none
  | .ok (.lload n, 2) => if n = k then mzfin C (p0 + 2) kn else none
  | _ => none
theorem mzE_JL (k : Nat) : mzE 2 (mzcJL k) (fun ls M K => match ls[k]? with | some (some (.long z)) => K (.long z) M | _ => False) := by
  intro C d p0 kn p1 hc x hx A ls M H locs rest K h1 h2 h3 h4 h5
  split at h4
  · rename_i z hz
    have h5 := h5 _ _ _ _ h4 ⟨z, rfl⟩ h2
    have hl : A[k]? = some (.val (.long z)) := mzlv_get h1 hz
    unfold mzcJL at hc
    split at hc
    · rename_i n hd
      split at hc
      · rename_i hv
        exact lv_lload_n hx.1 hx.2.1 hd hv hl (mzfin_go hx hc h5)
      · cases hc
    · rename_i n hd
      split at hc
      · rename_i hv
        subst hv
        exact lv_lload hx.1 hx.2.1 hd hl (mzfin_go hx hc h5)
      · cases hc
    · cases hc
  · exact h4.elim
def mzcAL (k : Nat) : mzch := fun C _ p0 kn => match decode C.1 p0 with
  | .ok (.aload_n n, 1) => if (n : Nat) = k then mzfin C (p0 + 1) kn else none
  | .ok (.aload n, 2) => if n = k then mzfin C (p0 + 2) kn else none
  | _ => none
theorem mzE_AL (k : Nat) : mzE 3 (mzcAL k) (fun ls M K => match ls[k]? with | some (some (.ref z)) => K (.ref z) M | some (some .null) => K .null M | _ => False) := by
  intro C d p0 kn p1 hc x hx A ls M H locs rest K h1 h2 h3 h4 h5
  split at h4
  · rename_i z hz
    have h5 := h5 _ _ _ _ h4 ⟨some z, rfl⟩ h2
    have hl : A[k]? = some (.val (.ref (x.1.2.2.1 z))) := mzlv_get h1 hz
    unfold mzcAL at hc
    split at hc
    · rename_i n hd
      split at hc
      · rename_i hv
        exact lv_aload_n hx.1 hx.2.1 hd hv hl (mzfin_go hx hc h5)
      · cases hc
    · rename_i n hd
      split at hc
      · rename_i hv
        subst hv
        exact lv_aload hx.1 hx.2.1 hd hl (mzfin_go hx hc h5)
      · cases hc
    · cases hc
  · rename_i hz
    have h5 := h5 _ _ _ _ h4 ⟨none, rfl⟩ h2
    have hl : A[k]? = some (.val .null) := mzlv_get h1 hz
    unfold mzcAL at hc
    split at hc
    · rename_i n hd
      split at hc
      · rename_i hv
        exact lv_aload_nN hx.1 hx.2.1 hd hv hl (mzfin_go hx hc h5)
      · cases hc
    · rename_i n hd
      split at hc
      · rename_i hv
        subst hv
        exact lv_aloadN hx.1 hx.2.1 hd hl (mzfin_go hx hc h5)
      · cases hc
    · cases hc
  · exact h4.elim
/-! one and two operands -/
def mzc1 (ins : Instr) (ca : mzch) : mzch := fun C d p0 kn => match ca C d p0 none with
  | none => none
  | some p1 => if mzdec C.1 p1 ins 1 = true then mzfin C (p1 + 1) kn else none
def mzR1 (ins : Instr) (t1 t : Nat) (f : Value → Option Value) : Prop := ∀ (C : mzs) (x : mzCx), mzok C x → ∀ (H : Heap) (locs : List Loc) (pc : Nat) (A : Array Slot) (rest : List Value) (v1 v : Value), mzty t1 v1 → f v1 = some v → decode C.1 pc = .ok (ins, 1) → mzty t v ∧ (mzGo x H locs (pc + 1) A (mzva x v :: rest) → mzGo x H locs pc A (mzva x v1 :: rest))
theorem mzE_1 {ins : Instr} {t1 t : Nat} {f : Value → Option Value} (hr : mzR1 ins t1 t f) {ca : mzch} {wa : mzwp} (ha : mzE t1 ca wa) : mzE t (mzc1 ins ca) (fun ls M K => wa ls M (fun v1 M1 => match f v1 with | some v => K v M1 | none => False)) := by
  intro C d p0 kn p1 hc x hx A ls M H locs rest K h1 h2 h3 h4 h5
  unfold mzc1 at hc
  split at hc
  · cases hc
  · rename_i q hq
    split at hc
    · rename_i hd
      refine ha C d p0 none q hq x hx A ls M H locs rest _ h1 h2 h3 h4 (fun v1 M1 H1 locs1 k1 ty1 hh1 => ?_)
      split at k1
      · rename_i v hv
        obtain ⟨r1, r2⟩ := hr C x hx H1 locs1 q A rest v1 v ty1 hv (mzdec_ok hd)
        exact r2 (mzfin_go hx hc (h5 _ _ _ _ k1 r1 hh1))
      · exact k1.elim
    · cases hc
def mzc2 (ins : Instr) (t1 : Nat) (ca cb : mzch) : mzch := fun C d p0 kn => match ca C d p0 none with
  | none => none
  | some p1 => match cb C (d + mzsz t1) p1 none with
    | none => none
    | some p2 => if mzdec C.1 p2 ins 1 = true then mzfin C (p2 + 1) kn else none
def mzR2 (ins : Instr) (t1 t2 t : Nat) (f : Value → Value → Option Value) : Prop := ∀ (C : mzs) (x : mzCx), mzok C x → ∀ (H : Heap) (locs : List Loc) (pc : Nat) (A : Array Slot) (rest : List Value) (v1 v2 v : Value), mzty t1 v1 → mzty t2 v2 → f v1 v2 = some v → decode C.1 pc = .ok (ins, 1) → mzty t v ∧ (mzGo x H locs (pc + 1) A (mzva x v :: rest) → mzGo x H locs pc A (mzva x v2 :: mzva x v1 :: rest))
theorem mzdeep {x : mzCx} {rest : List Value} {t d : Nat} {v : Value} (h : (rest.map (fun v => v.category)).sum ≤ d) (hv : mzty t v) : ((mzva x v :: rest).map (fun v => v.category)).sum ≤ d + mzsz t := by
  have e : (mzva x v).category = mzsz t := by rw [mzv_cat]; exact mzty_cat hv
  simp only [List.map_cons, List.sum_cons, e]
  omega
theorem mzE_2 {ins : Instr} {t1 t2 t : Nat} {f : Value → Value → Option Value} (hr : mzR2 ins t1 t2 t f) {ca cb : mzch} {wa wb : mzwp} (ha : mzE t1 ca wa) (hb : mzE t2 cb wb) : mzE t (mzc2 ins t1 ca cb) (fun ls M K => wa ls M (fun v1 M1 => wb ls M1 (fun v2 M2 => match f v1 v2 with | some v => K v M2 | none => False))) := by
  intro C d p0 kn p1 hc x hx A ls M H locs rest K h1 h2 h3 h4 h5
  unfold mzc2 at hc
  split at hc
  · cases hc
  · rename_i q hq
    split at hc
    · cases hc
    · rename_i q2 hq2
      split at hc
      · rename_i hd
        refine ha C d p0 none q hq x hx A ls M H locs rest _ h1 h2 h3 h4 (fun v1 M1 H1 locs1 k1 ty1 hh1 => ?_)
        refine hb C _ q none q2 hq2 x hx A ls M1 H1 locs1 _ _ h1 hh1 (mzdeep h3 ty1) k1 (fun v2 M2 H2 locs2 k2 ty2 hh2 => ?_)
        split at k2
        · rename_i v hv
          obtain ⟨r1, r2⟩ := hr C x hx H2 locs2 q2 A rest v1 v2 v ty1 ty2 hv (mzdec_ok hd)
          exact r2 (mzfin_go hx hc (h5 _ _ _ _ k2 r1 hh2))
        · exact k2.elim
      · cases hc
