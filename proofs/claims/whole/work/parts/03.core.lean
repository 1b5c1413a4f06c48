/-! THE SMALL LANGUAGE, 1: memory, locals, worlds, what holds at a method's body -/
def mzT : List Jvm.Cond := lw_tbl.filter goodWord
def mzisN : Jvm.Cond → Bool := fun w => match w with
  | .fieldLinkNest _ _ _ _ _ _ => true
  | .methodLinkNest _ _ _ _ => true
  | _ => false
def mzN : List Jvm.Cond := tables_1.filter mzisN
theorem mzT_at {w : Jvm.Cond} (i : Nat) (h : lw_tbl[i]? = some w) (g : goodWord w = true) : w ∈ mzT := List.mem_filter.mpr ⟨List.mem_of_getElem? h, g⟩
theorem mzN_at {w : Jvm.Cond} (i : Nat) (h : tables_1[i]? = some w) (g : mzisN w = true) : w ∈ mzN := List.mem_filter.mpr ⟨List.mem_of_getElem? h, g⟩
theorem mzN_warm {s U : State} (hW : s.WarmedH U.vm) (h : ∀ x ∈ mzN, va_Nw x s) : ∀ x ∈ mzN, va_Nw x U := by
  intro x hx
  have hk := (List.mem_filter.mp hx).2
  have h0 := h x hx
  unfold mzisN at hk
  split at hk
  · exact va_Nw.warmF hW h0
  · exact va_Nw.warmM hW h0
  · cases hk
theorem mzN_same {u U : State} (hv : u.vm = U.vm) (h : ∀ x ∈ mzN, va_Nw x u) : ∀ x ∈ mzN, va_Nw x U := by
  intro x hx
  have hk := (List.mem_filter.mp hx).2
  have h0 := h x hx
  unfold mzisN at hk
  split at hk
  · exact va_Nw.same rfl hv h0
  · exact va_Nw.same rfl hv h0
  · cases hk
theorem mzT_good {y : MethodName} {cc : ByteArray} {nL : Nat} {ret : Option FieldType} (h : Jvm.Cond.code y cc nL ret ∈ mzT) : GoodIn mzT (Jvm.Cond.code y cc nL ret :: mzT) := by
  intro w hw
  have hm : w ∈ mzT := by
    rcases List.mem_cons.mp hw with e | e
    · rw [e]; exact h
    · exact e
  exact ⟨hm, good_of_word (List.mem_filter.mp hm).2⟩
/-- the shape of cells (kind, length): 0 int[], 1 long[], 2 boolean[], 3 an array of references, 4 + c an object of class c; 99 none; then ints, longs, references, by cell and place -/
abbrev mzM : Type := (Nat → Nat × Nat) × (Nat → Nat → Int32) × (Nat → Nat → Int64) × (Nat → Nat → Option Nat)
abbrev mzL : Type := List (Option Value)
/-- a world: class numbers and slots, array classes, addresses, how many cells, where TURNS is -/
abbrev mzD : Type := va_G × (Nat → ClassId) × (Nat → Nat) × Nat × Nat
/-- a method's own numbers: bytes, class, locals, frames, words, kind of its answer (0 none, 1 int, 2 long, 3 reference, 4 boolean) -/
abbrev mzS : Type := ByteArray × String × Nat × Nat × Nat × Nat
def mzset {α : Type} (f : Nat → Nat → α) (a k : Nat) (v : α) : Nat → Nat → α := fun i => if i = a then (fun j => if j = k then v else f a j) else f i
/-- the kinds of a class's fields: 0 int, 1 long, 2 a reference -/
def mzfk : Nat → List Nat := fun c => match c with
  | 0 => [2, 2, 2, 0]
  | 1 => [2, 2, 0, 0, 0, 1, 1, 1, 1]
  | 2 => [2, 2, 2, 0]
  | 3 => [2, 0, 0]
  | 4 => [2, 0, 0]
  | 5 => [2, 0]
  | 6 => [2, 2, 2, 0, 0]
  | 7 => [2, 2, 2, 2, 2, 2, 2, 2, 0, 2, 2, 2, 2, 2]
  | 8 => [2, 2, 0, 0, 0, 2, 0, 2, 2, 2, 2, 2, 2, 2, 2, 2, 2, 0, 2, 2, 2, 2, 2, 2, 2, 2, 2, 2, 0]
  | _ => []
def mzfv (ad : Nat → Nat) (M : mzM) (id k t : Nat) : Value := match t with
  | 0 => .int (M.2.1 id k)
  | 1 => .long (M.2.2.1 id k)
  | _ => va_rf ((M.2.2.2 id k).map ad)
def mzcell (dA : Nat → ClassId) (ad : Nat → Nat) (M : mzM) (id : Nat) : va_E := match (M.1 id).1 with
  | 0 => .inl (dA 0, (M.1 id).2, .inl (M.2.1 id))
  | 1 => .inl (dA 1, (M.1 id).2, .inr (.inl (M.2.2.1 id)))
  | 2 => .inl (dA 2, (M.1 id).2, .inl (M.2.1 id))
  | 3 => .inl (dA 3, (M.1 id).2, .inr (.inr (.inr (.inr (fun j => (M.2.2.2 id j).map ad)))))
  | c + 4 => .inr (c, (mzfk c).mapIdx (fun k t => mzfv ad M id k t))
def mzW (w : mzD) (M : mzM) : va_W := (List.range w.2.2.2.1).map (fun id => (w.2.2.1 id, mzcell w.2.1 w.2.2.1 M id))
theorem mzW_at {w : mzD} {M : mzM} {id : Nat} (h : id < w.2.2.2.1) : (mzW w M)[id]? = some (w.2.2.1 id, mzcell w.2.1 w.2.2.1 M id) := by
  simp [mzW, h]
theorem mzW_of {w : mzD} {M : mzM} {k : Nat} {q : Nat × va_E} (h : (mzW w M)[k]? = some q) : k < w.2.2.2.1 ∧ q = (w.2.2.1 k, mzcell w.2.1 w.2.2.1 M k) := by
  have hk : k < w.2.2.2.1 := by
    have := (List.getElem?_eq_some_iff.mp h).1
    simpa [mzW] using this
  rw [mzW_at hk] at h
  exact ⟨hk, (Option.some.inj h).symm⟩
theorem mzW_set {w : mzD} {M M' : mzM} {id : Nat} {e : va_E} (he : e = mzcell w.2.1 w.2.2.1 M' id) (ho : ∀ j, j ≠ id → mzcell w.2.1 w.2.2.1 M' j = mzcell w.2.1 w.2.2.1 M j) : (mzW w M).set id (w.2.2.1 id, e) = mzW w M' := by
  apply List.ext_getElem?
  intro k
  rw [List.getElem?_set]
  by_cases hk : id = k
  · subst hk
    by_cases hl : id < w.2.2.2.1
    · rw [if_pos rfl, if_pos (by simpa [mzW] using hl), mzW_at hl, he]
    · rw [if_pos rfl, if_neg (by simpa [mzW] using hl)]
      symm
      rw [List.getElem?_eq_none_iff]
      simpa [mzW] using hl
  · rw [if_neg hk]
    by_cases hl : k < w.2.2.2.1
    · rw [mzW_at hl, mzW_at hl, ho k (fun h => hk h.symm)]
    · rw [List.getElem?_eq_none_iff.mpr (by simpa [mzW] using hl), List.getElem?_eq_none_iff.mpr (by simpa [mzW] using hl)]
def mzA (w : mzD) : Nat → Prop := fun q => ∃ id, id < w.2.2.2.1 ∧ q = w.2.2.1 id
def mzInj (w : mzD) : Prop := ∀ i j, i < w.2.2.2.1 → j < w.2.2.2.1 → w.2.2.1 i = w.2.2.1 j → i = j
theorem mzW_D {w : mzD} (h : mzInj w) (M : mzM) : va_D (mzA w) (mzW w M) := by
  refine ⟨fun i j p q hi hj e => ?_, fun k q hk => ?_⟩
  · obtain ⟨h1, rfl⟩ := mzW_of hi
    obtain ⟨h2, rfl⟩ := mzW_of hj
    exact h i j h1 h2 e
  · obtain ⟨h1, rfl⟩ := mzW_of hk
    exact ⟨k, h1, rfl⟩
def mztys (dA : Nat → ClassId) : List (ClassId × FieldType) := [(dA 0, .int), (dA 1, .long), (dA 2, .boolean), (dA 3, .object "MazeCalendar$Sheet")]
def mzturn : Nat → Int32 := fun j => match j with
  | 0 => 3 | 1 => 0 | 2 => 1 | 3 => 2 | 4 => 1 | 5 => 0 | 6 => 3 | 7 => 2 | 8 => 0 | 9 => 3 | 10 => 1 | _ => 2
def mzZ (w : mzD) (U : State) : Prop := va_Z RX7 "TURNS" "[I" (.ref w.2.2.2.2) (mzA w) U U.heap ∧ va_T .int w.2.2.2.2 12 (fun j => .int (mzturn j)) (mzA w) U U.heap
/-- the heap holds the memory, nothing else has changed -/
def mzH (w : mzD) (s : State) (M : mzM) (H : Heap) (locs : List Loc) : Prop := va_P w.1 vwCl (mzW w M) H ∧ va_S (mzA w) s.heap H locs ∧ ∀ id, (M.1 id).1 < 99 → id < w.2.2.2.1
/-- what holds in a method's body -/
def mzX (C : mzS) (w : mzD) (p : Program) (R : Room) (s : State) (m : MethodId) (args : Array Value) (meth : Method) (c : Code) : Prop :=
  p.tables.exec = Jvm.exec ∧ c.code = C.1 ∧ c.maxLocals = C.2.2.1 ∧ s.vm.findClass C.2.1 = some m.cls ∧ (∀ x ∈ mzT, x.before args s = true) ∧ (∀ x ∈ mzN, va_Nw x s) ∧ va_K w.1 vwCl (mztys w.2.1) s ∧ mzInj w ∧ mzZ w s ∧ (R.frames = C.2.2.2.1 ∧ R.locals = C.2.2.2.2.1) ∧ meth.locks = false
/-- a value of ours in the machine: cells by their addresses -/
def mzv (ad : Nat → Nat) : Value → Value := fun v => match v with
  | .ref a => .ref (ad a)
  | x => x
theorem mzv_cat (ad : Nat → Nat) (v : Value) : (mzv ad v).category = v.category := by cases v <;> rfl
theorem mzv_rf (ad : Nat → Nat) (r : Option Nat) : mzv ad (va_rf r) = va_rf (r.map ad) := by cases r <;> rfl
/-- locals -/
def mzlv (ad : Nat → Nat) (ls : mzL) : List (Nat × Value) := (List.range ls.length).filterMap (fun i => match ls[i]? with
  | some (some v) => some (i, mzv ad v)
  | _ => none)
theorem mzlv_mem {ad : Nat → Nat} {ls : mzL} {q : Nat × Value} : q ∈ mzlv ad ls ↔ ∃ v, ls[q.1]? = some (some v) ∧ q.2 = mzv ad v := by
  unfold mzlv
  rw [List.mem_filterMap]
  constructor
  · rintro ⟨i, -, hi⟩
    split at hi
    · rename_i v hv
      cases hi
      exact ⟨v, hv, rfl⟩
    · cases hi
  · rintro ⟨v, hv, e⟩
    refine ⟨q.1, ?_, ?_⟩
    · rw [List.mem_range]
      exact (List.getElem?_eq_some_iff.mp hv).1
    · rw [hv]; show some (q.1, mzv ad v) = some q; rw [← e]
theorem mzlv_get {ad : Nat → Nat} {ls : mzL} {A : Array Slot} {nL k : Nat} {v : Value} (h : lv_has A nL (mzlv ad ls)) (hk : ls[k]? = some (some v)) : A[k]? = some (.val (mzv ad v)) := h.2.2 (k, mzv ad v) (mzlv_mem.mpr ⟨v, hk, rfl⟩)
theorem mzlv_mono {A : Array Slot} {nL : Nat} {l l' : List (Nat × Value)} (h : lv_has A nL l) (hs : ∀ q ∈ l', q ∈ l) : lv_has A nL l' := ⟨h.1, h.2.1, fun q hq => h.2.2 q (hs q hq)⟩
def mzkill (ls : mzL) (i : Nat) : mzL := match i with
  | 0 => ls
  | j + 1 => match ls[j]? with
    | some (some (.long _)) => ls.set j none
    | some (some (.double _)) => ls.set j none
    | _ => ls
def mzst (ls : mzL) (i : Nat) (v : Value) : mzL := match v with
  | .long _ => ((mzkill ls i).set (i + 1) none).set i (some v)
  | _ => (mzkill ls i).set i (some v)
theorem mzkill_get {ls : mzL} {i j : Nat} {v : Value} (h : (mzkill ls i)[j]? = some (some v)) : ls[j]? = some (some v) ∧ ¬ (j + 1 = i ∧ v.category = 2) := by
  unfold mzkill at h
  split at h
  · exact ⟨h, fun q => by omega⟩
  · rename_i i'
    have key : ∀ l' : mzL, l' = ls.set i' none → l'[j]? = some (some v) → ls[j]? = some (some v) ∧ ¬ (j + 1 = i' + 1 ∧ v.category = 2) := by
      intro l' e h
      rw [e, List.getElem?_set] at h
      by_cases e : i' = j
      · subst e
        rw [if_pos rfl] at h
        split at h <;> cases h
      · rw [if_neg e] at h
        exact ⟨h, fun q => e (by omega)⟩
    split at h
    · exact key _ rfl h
    · exact key _ rfl h
    · rename_i hx hy
      refine ⟨h, fun q => ?_⟩
      obtain ⟨q1, q2⟩ := q
      have : j = i' := by omega
      subst this
      cases v <;> first | (simp [Value.category] at q2; done) | exact hx _ h | exact hy _ h
theorem mzkill_len (ls : mzL) (i : Nat) : (mzkill ls i).length = ls.length := by
  unfold mzkill
  split
  · rfl
  · split <;> simp
theorem mzst_len (ls : mzL) (i : Nat) (v : Value) : (mzst ls i v).length = ls.length := by
  unfold mzst
  split <;> simp [mzkill_len]
theorem mzst1_sub {ad : Nat → Nat} {ls : mzL} {i : Nat} {v : Value} (hv : v.category = 1) : ∀ q ∈ mzlv ad (mzst ls i v), q ∈ (i, mzv ad v) :: (mzlv ad ls).filter (fun q => !(q.1 == i) && !(q.1 + 1 == i && q.2.category == 2)) := by
  intro q hq
  obtain ⟨u, hu, e⟩ := mzlv_mem.mp hq
  have hu' : ((mzkill ls i).set i (some v))[q.1]? = some (some u) := by
    have : mzst ls i v = (mzkill ls i).set i (some v) := by
      cases v <;> first | rfl | (simp [Value.category] at hv; done)
    rw [this] at hu
    exact hu
  rw [List.getElem?_set] at hu'
  by_cases hi : i = q.1
  · rw [if_pos hi] at hu'
    split at hu'
    · have : v = u := Option.some.inj (Option.some.inj hu')
      subst this
      exact List.mem_cons.mpr (Or.inl (by rw [hi, ← e]))
    · cases hu'
  · rw [if_neg hi] at hu'
    obtain ⟨h1, h2⟩ := mzkill_get hu'
    refine List.mem_cons.mpr (Or.inr (List.mem_filter.mpr ⟨mzlv_mem.mpr ⟨u, h1, e⟩, ?_⟩))
    have hc : q.2.category = u.category := by rw [e, mzv_cat]
    rw [hc]
    have a1 : (q.1 == i) = false := by simpa using fun h => hi h.symm
    by_cases a2 : q.1 + 1 = i
    · have a3 : (u.category == 2) = false := by simpa using fun h => h2 ⟨a2, h⟩
      simp [a1, a3]
    · have a3 : (q.1 + 1 == i) = false := by simpa using a2
      simp [a1, a3]
theorem mzst2_sub {ad : Nat → Nat} {ls : mzL} {i : Nat} {x : Int64} : ∀ q ∈ mzlv ad (mzst ls i (.long x)), q ∈ (i, Value.long x) :: (mzlv ad ls).filter (fun q => !(q.1 == i) && (!(q.1 == i + 1) && !(q.1 + 1 == i && q.2.category == 2))) := by
  intro q hq
  obtain ⟨u, hu, e⟩ := mzlv_mem.mp hq
  have hu' : (((mzkill ls i).set (i + 1) none).set i (some (.long x)))[q.1]? = some (some u) := hu
  rw [List.getElem?_set] at hu'
  by_cases hi : i = q.1
  · rw [if_pos hi] at hu'
    split at hu'
    · have : Value.long x = u := Option.some.inj (Option.some.inj hu')
      subst this
      have e' : q.2 = Value.long x := e
      exact List.mem_cons.mpr (Or.inl (by rw [hi, ← e']))
    · cases hu'
  · rw [if_neg hi, List.getElem?_set] at hu'
    by_cases hj : i + 1 = q.1
    · rw [if_pos hj] at hu'
      split at hu' <;> cases hu'
    · rw [if_neg hj] at hu'
      obtain ⟨h1, h2⟩ := mzkill_get hu'
      refine List.mem_cons.mpr (Or.inr (List.mem_filter.mpr ⟨mzlv_mem.mpr ⟨u, h1, e⟩, ?_⟩))
      have hc : q.2.category = u.category := by rw [e, mzv_cat]
      rw [hc]
      have a1 : (q.1 == i) = false := by simpa using fun h => hi h.symm
      have a0 : (q.1 == i + 1) = false := by simpa using fun h => hj h.symm
      by_cases a2 : q.1 + 1 = i
      · have a3 : (u.category == 2) = false := by simpa using fun h => h2 ⟨a2, h⟩
        simp [a1, a0, a3]
      · have a3 : (q.1 + 1 == i) = false := by simpa using a2
        simp [a1, a0, a3]
/-- a method's first locals -/
def mzar : List Value → mzL := fun l => match l with
  | [] => []
  | .long x :: t => some (.long x) :: none :: mzar t
  | .double x :: t => some (.double x) :: none :: mzar t
  | v :: t => some v :: mzar t
def mzini (nL : Nat) (as : List Value) : mzL := mzar as ++ List.replicate (nL - (mzar as).length) none
