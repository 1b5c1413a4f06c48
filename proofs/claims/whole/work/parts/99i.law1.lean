/-! the law: an argument, n arguments -/
def lgA (pc k : Nat) : Bool := mzdec code pc (.aload_n 0) 1 && (mzdec code (pc + 1) (.iload_n 3) 1 && (mzdec code (pc + 2) (.iconst (k : Int)) 1 && (mzdec code (pc + 3) .iadd 1 && mzdec code (pc + 4) .iaload 1)))
theorem lw_arg {p : Program} {l : Launch} {e : Env} {R : Room} {s : State} {m : MethodId} {args : Array Value} {below : List Frame} {meth : Method} {c : Code} {H H0 : Heap} {locs : List Loc} {cells slots : Nat} {Q : State → Prop} {ls : Array Slot} {A : Nat → Prop} (hx : p.tables.exec = Jvm.exec) (hb : c.code = code) {b L : Nat} {xs : Nat → Int32} (hX : va_X b L xs s H0) (hbl : b < H0.size) (hbA : ¬ A b) (hS : va_S A H0 H locs)
    {pc k i : Nat} {rest : List Value} (h : lgA pc k = true) (hl0 : ls[0]? = some (.val (.ref b))) (hl3 : ls[3]? = some (.val (.int (nI i)))) (hik : i + k < L) (hL : L ≤ 384)
    (g : W p l e R s m args below meth c H locs cells slots Q (F0 m (pc + 5) ls (.int (xs (i + k)) :: rest))) : W p l e R s m args below meth c H locs cells slots Q (F0 m pc ls rest) := by
  unfold lgA at h
  simp only [Bool.and_eq_true] at h
  obtain ⟨d0, d1, d2, d3, d4⟩ := h
  refine lv_aload_n hx hb (mzdec_ok d0) rfl hl0 ?_
  refine lv_iload_n hx hb (mzdec_ok d1) rfl hl3 ?_
  refine lv_iconst hx hb (v := nI k) (mzdec_ok d2) rfl ?_
  refine lv_iadd hx hb (mzdec_ok d3) ?_
  rw [nu_add]
  have hin : vp_in (nI (i + k)) L := by rw [in_nI (by omega)]; exact hik
  refine va_sld hx hb hX hbl hbA hS hin (mzdec_ok d4) ?_
  rw [nu_cl (by omega)]
  exact g
def lgN (pc : Nat) : Nat → Bool
  | 0 => true
  | n + 1 => lgN pc n && lgA (pc + 5 * n) (n + 1)
/-- the arguments on the stack, the last one on top -/
def lgS (xs : Nat → Int32) (i : Nat) : Nat → List Value
  | 0 => []
  | n + 1 => .int (xs (i + (n + 1))) :: lgS xs i n
theorem lw_args {p : Program} {l : Launch} {e : Env} {R : Room} {s : State} {m : MethodId} {args : Array Value} {below : List Frame} {meth : Method} {c : Code} {H H0 : Heap} {locs : List Loc} {cells slots : Nat} {Q : State → Prop} {ls : Array Slot} {A : Nat → Prop} (hx : p.tables.exec = Jvm.exec) (hb : c.code = code) {b L : Nat} {xs : Nat → Int32} (hX : va_X b L xs s H0) (hbl : b < H0.size) (hbA : ¬ A b) (hS : va_S A H0 H locs)
    {pc i : Nat} {rest : List Value} (hl0 : ls[0]? = some (.val (.ref b))) (hl3 : ls[3]? = some (.val (.int (nI i)))) (hL : L ≤ 384) : ∀ n, lgN pc n = true → i + n < L →
    W p l e R s m args below meth c H locs cells slots Q (F0 m (pc + 5 * n) ls (lgS xs i n ++ rest)) → W p l e R s m args below meth c H locs cells slots Q (F0 m pc ls rest) := by
  intro n
  induction n with
  | zero => intro _ _ g; exact g
  | succ n ih =>
    intro h hi g
    unfold lgN at h
    simp only [Bool.and_eq_true] at h
    refine ih h.1 (by omega) ?_
    exact lw_arg hx hb hX hbl hbA hS h.2 hl0 hl3 hi hL g
